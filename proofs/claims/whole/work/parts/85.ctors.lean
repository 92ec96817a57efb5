-- CONSTRUCTORS: MirrorMaze, the reference
def A00 : AT := (M00, 0, fun _ _ => 0, 0, fun _ => 0, fun _ => 0, fun _ => 0)
section CTT
variable {X : Cx}
theorem i_X10 : IC X 4 211 12107 1 10 0 212 (fun σ' => CV σ' A00 0) := by
  intro sh σ h0 hz
  refine Call.mk md1 (by decide) rfl (by omega) (Nat.le_of_ble_eq_true rfl) ?_
  intro hin hav
  show Sat X 4 211 12107 1 (iPost 0 212 sh σ (fun σ' => CV σ' A00 0)) 0 [vr 0] [] (1) sh σ 0 0
  have K0 : sh 0 = .inr (.inr (10, [some none, some none, some none, some none, some none, some none, some none, some none, some none, some none, some none, none])) := h0
  have L0 : ∀ j, j < 0 → sh j = sh j := fun _ _ => rfl
  have H0 : ∀ j, 0 < j → j < 1 → sh j = SH j := fun j a b => by omega
  have R0 : ∀ j, j < 0 → σ j = σ j := fun _ _ => rfl
  have W0_11 : σ 0 11 = 0 := by rw [hz]
  refine Sat.fobj 1 md1 pp1 0 rfl rfl rfl (pc := 0) rfl rfl (by omega) (by omega) ?_
  show Sat X 4 211 12107 1 (iPost 0 212 sh σ (fun σ' => CV σ' A00 0)) 4 [vr 0] [] (1) sh σ 0 0
  refine Sat.fnew 1 md1 pp1 0 rfl rfl rfl (pc := 4) rfl rfl rfl rfl (q := (RX1, TX1, 9)) rfl (i_X1 ismz1) (by omega) (by omega) (by show 0 + 1 + 6 ≤ 211; omega) (by show 0 + 9 + 261 ≤ 12107; omega) K0 (Nat.le_of_ble_eq_true rfl) (by omega) L0 H0 (fun s1 t1 K1 L1 H1 B1 F1 => ?_)
  have K1 : s1 0 = .inr (.inr (10, [some (some (1)), some none, some none, some none, some none, some none, some none, some none, some none, some none, some none, none])) := K1
  have R1 : ∀ j, j < 0 → t1 j = σ j := fun j hj => (B1 j (by omega)).trans (R0 j hj)
  have W1_11 : t1 0 11 = 0 := by rw [B1 0 (by omega)]; exact W0_11
  show Sat X 4 211 12107 1 (iPost 0 212 sh σ (fun σ' => CV σ' A00 0)) 15 [vr 0] [] (8) s1 t1 7 270
  refine Sat.fnew 1 md1 pp1 0 rfl rfl rfl (pc := 15) rfl rfl rfl rfl (q := (RX1, TX1, 9)) rfl (i_X1 ismz8) (by omega) (by omega) (by show 7 + 1 + 6 ≤ 211; omega) (by show 270 + 9 + 261 ≤ 12107; omega) K1 (Nat.le_of_ble_eq_true rfl) (by omega) L1 H1 (fun s2 t2 K2 L2 H2 B2 F2 => ?_)
  have K2 : s2 0 = .inr (.inr (10, [some (some (1)), some (some (8)), some none, some none, some none, some none, some none, some none, some none, some none, some none, none])) := K2
  have R2 : ∀ j, j < 0 → t2 j = σ j := fun j hj => (B2 j (by omega)).trans (R1 j hj)
  have W2_11 : t2 0 11 = 0 := by rw [B2 0 (by omega)]; exact W1_11
  show Sat X 4 211 12107 1 (iPost 0 212 sh σ (fun σ' => CV σ' A00 0)) 26 [vr 0] [] (15) s2 t2 14 540
  refine Sat.fnew 1 md1 pp1 0 rfl rfl rfl (pc := 26) rfl rfl rfl rfl (q := (RX2, TX2, 3)) rfl (i_X2) (by omega) (by omega) (by show 14 + 1 + 141 ≤ 211; omega) (by show 540 + 3 + 5420 ≤ 12107; omega) K2 (Nat.le_of_ble_eq_true rfl) (by omega) L2 H2 (fun s3 t3 K3 L3 H3 B3 F3 => ?_)
  have K3 : s3 0 = .inr (.inr (10, [some (some (1)), some (some (8)), some (some (15)), some none, some none, some none, some none, some none, some none, some none, some none, none])) := K3
  have R3 : ∀ j, j < 0 → t3 j = σ j := fun j hj => (B3 j (by omega)).trans (R2 j hj)
  have W3_11 : t3 0 11 = 0 := by rw [B3 0 (by omega)]; exact W2_11
  show Sat X 4 211 12107 1 (iPost 0 212 sh σ (fun σ' => CV σ' A00 0)) 37 [vr 0] [] (157) s3 t3 156 5963
  refine Sat.fnew 1 md1 pp1 0 rfl rfl rfl (pc := 37) rfl rfl rfl rfl (q := (RX3, TX3, 3)) rfl (i_X3 ispa157) (by omega) (by omega) (by show 156 + 1 + 1 ≤ 211; omega) (by show 5963 + 3 + 324 ≤ 12107; omega) K3 (Nat.le_of_ble_eq_true rfl) (by omega) L3 H3 (fun s4 t4 K4 L4 H4 B4 F4 => ?_)
  have K4 : s4 0 = .inr (.inr (10, [some (some (1)), some (some (8)), some (some (15)), some (some (157)), some none, some none, some none, some none, some none, some none, some none, none])) := K4
  have R4 : ∀ j, j < 0 → t4 j = σ j := fun j hj => (B4 j (by omega)).trans (R3 j hj)
  have W4_11 : t4 0 11 = 0 := by rw [B4 0 (by omega)]; exact W3_11
  show Sat X 4 211 12107 1 (iPost 0 212 sh σ (fun σ' => CV σ' A00 0)) 48 [vr 0] [] (159) s4 t4 158 6290
  refine Sat.fnew 1 md1 pp1 0 rfl rfl rfl (pc := 48) rfl rfl rfl rfl (q := (RX6, TX6, 8)) rfl (i_X6 issp159) (by omega) (by omega) (by show 158 + 1 + 5 ≤ 211; omega) (by show 6290 + 8 + 891 ≤ 12107; omega) K4 (Nat.le_of_ble_eq_true rfl) (by omega) L4 H4 (fun s5 t5 K5 L5 H5 B5 F5 => ?_)
  have K5 : s5 0 = .inr (.inr (10, [some (some (1)), some (some (8)), some (some (15)), some (some (157)), some (some (159)), some none, some none, some none, some none, some none, some none, none])) := K5
  have R5 : ∀ j, j < 0 → t5 j = σ j := fun j hj => (B5 j (by omega)).trans (R4 j hj)
  have W5_11 : t5 0 11 = 0 := by rw [B5 0 (by omega)]; exact W4_11
  show Sat X 4 211 12107 1 (iPost 0 212 sh σ (fun σ' => CV σ' A00 0)) 59 [vr 0] [] (165) s5 t5 164 7189
  refine Sat.fnew 1 md1 pp1 0 rfl rfl rfl (pc := 59) rfl rfl rfl rfl (q := (RX4, TX4, 5)) rfl (i_X4) (by omega) (by omega) (by show 164 + 1 + 5 ≤ 211; omega) (by show 7189 + 5 + 1299 ≤ 12107; omega) K5 (Nat.le_of_ble_eq_true rfl) (by omega) L5 H5 (fun s6 t6 K6 L6 H6 B6 F6 => ?_)
  have K6 : s6 0 = .inr (.inr (10, [some (some (1)), some (some (8)), some (some (15)), some (some (157)), some (some (159)), some (some (165)), some none, some none, some none, some none, some none, none])) := K6
  have R6 : ∀ j, j < 0 → t6 j = σ j := fun j hj => (B6 j (by omega)).trans (R5 j hj)
  have W6_11 : t6 0 11 = 0 := by rw [B6 0 (by omega)]; exact W5_11
  show Sat X 4 211 12107 1 (iPost 0 212 sh σ (fun σ' => CV σ' A00 0)) 70 [vr 0] [] (171) s6 t6 170 8493
  refine Sat.fnew 1 md1 pp1 0 rfl rfl rfl (pc := 70) rfl rfl rfl rfl (q := (RX0, TX0, 4)) rfl (i_X0) (by omega) (by omega) (by show 170 + 1 + 7 ≤ 211; omega) (by show 8493 + 4 + 980 ≤ 12107; omega) K6 (Nat.le_of_ble_eq_true rfl) (by omega) L6 H6 (fun s7 t7 K7 L7 H7 B7 F7 => ?_)
  have K7 : s7 0 = .inr (.inr (10, [some (some (1)), some (some (8)), some (some (15)), some (some (157)), some (some (159)), some (some (165)), some (some (171)), some none, some none, some none, some none, none])) := K7
  have R7 : ∀ j, j < 0 → t7 j = σ j := fun j hj => (B7 j (by omega)).trans (R6 j hj)
  have W7_11 : t7 0 11 = 0 := by rw [B7 0 (by omega)]; exact W6_11
  show Sat X 4 211 12107 1 (iPost 0 212 sh σ (fun σ' => CV σ' A00 0)) 81 [vr 0] [] (179) s7 t7 178 9477
  refine Sat.fnew 1 md1 pp1 0 rfl rfl rfl (pc := 81) rfl rfl rfl rfl (q := (RX7, TX7, 7)) rfl (i_X7) (by omega) (by omega) (by show 178 + 1 + 14 ≤ 211; omega) (by show 9477 + 7 + 1179 ≤ 12107; omega) K7 (Nat.le_of_ble_eq_true rfl) (by omega) L7 H7 (fun s8 t8 K8 L8 H8 B8 F8 => ?_)
  have K8 : s8 0 = .inr (.inr (10, [some (some (1)), some (some (8)), some (some (15)), some (some (157)), some (some (159)), some (some (165)), some (some (171)), some (some (179)), some none, some none, some none, none])) := K8
  have R8 : ∀ j, j < 0 → t8 j = σ j := fun j hj => (B8 j (by omega)).trans (R7 j hj)
  have W8_11 : t8 0 11 = 0 := by rw [B8 0 (by omega)]; exact W7_11
  show Sat X 4 211 12107 1 (iPost 0 212 sh σ (fun σ' => CV σ' A00 0)) 92 [vr 0] [] (194) s8 t8 193 10663
  refine Sat.fnew 1 md1 pp1 0 rfl rfl rfl (pc := 92) rfl rfl rfl rfl (q := (RX9, TX9, 3)) rfl (i_X9 iswk194) (by omega) (by omega) (by show 193 + 1 + 2 ≤ 211; omega) (by show 10663 + 3 + 162 ≤ 12107; omega) K8 (Nat.le_of_ble_eq_true rfl) (by omega) L8 H8 (fun s9 t9 K9 L9 H9 B9 F9 => ?_)
  have K9 : s9 0 = .inr (.inr (10, [some (some (1)), some (some (8)), some (some (15)), some (some (157)), some (some (159)), some (some (165)), some (some (171)), some (some (179)), some (some (194)), some none, some none, none])) := K9
  have R9 : ∀ j, j < 0 → t9 j = σ j := fun j hj => (B9 j (by omega)).trans (R8 j hj)
  have W9_11 : t9 0 11 = 0 := by rw [B9 0 (by omega)]; exact W8_11
  show Sat X 4 211 12107 1 (iPost 0 212 sh σ (fun σ' => CV σ' A00 0)) 103 [vr 0] [] (197) s9 t9 196 10828
  refine Sat.fnew 1 md1 pp1 0 rfl rfl rfl (pc := 103) rfl rfl rfl rfl (q := (RX8, TX8, 3)) rfl (i_X8) (by omega) (by omega) (by show 196 + 1 + 10 ≤ 211; omega) (by show 10828 + 3 + 1145 ≤ 12107; omega) K9 (Nat.le_of_ble_eq_true rfl) (by omega) L9 H9 (fun s10 t10 K10 L10 H10 B10 F10 => ?_)
  have K10 : s10 0 = .inr (.inr (10, [some (some (1)), some (some (8)), some (some (15)), some (some (157)), some (some (159)), some (some (165)), some (some (171)), some (some (179)), some (some (194)), some (some (197)), some none, none])) := K10
  have R10 : ∀ j, j < 0 → t10 j = σ j := fun j hj => (B10 j (by omega)).trans (R9 j hj)
  have W10_11 : t10 0 11 = 0 := by rw [B10 0 (by omega)]; exact W9_11
  show Sat X 4 211 12107 1 (iPost 0 212 sh σ (fun σ' => CV σ' A00 0)) 114 [vr 0] [] (208) s10 t10 207 11976
  refine Sat.fnew 1 md1 pp1 0 rfl rfl rfl (pc := 114) rfl rfl rfl rfl (q := (RX5, TX5, 3)) rfl (i_X5) (by omega) (by omega) (by show 207 + 1 + 3 ≤ 211; omega) (by show 11976 + 3 + 128 ≤ 12107; omega) K10 (Nat.le_of_ble_eq_true rfl) (by omega) L10 H10 (fun s11 t11 K11 L11 H11 B11 F11 => ?_)
  have K11 : s11 0 = .inr (.inr (10, [some (some (1)), some (some (8)), some (some (15)), some (some (157)), some (some (159)), some (some (165)), some (some (171)), some (some (179)), some (some (194)), some (some (197)), some (some (208)), none])) := K11
  have R11 : ∀ j, j < 0 → t11 j = σ j := fun j hj => (B11 j (by omega)).trans (R10 j hj)
  have W11_11 : t11 0 11 = 0 := by rw [B11 0 (by omega)]; exact W10_11
  show Sat X 4 211 12107 1 (iPost 0 212 sh σ (fun σ' => CV σ' A00 0)) 125 [vr 0] [] (212) s11 t11 211 12107
  refine Sat.fint 1 md1 pp1 0 rfl rfl rfl (pc := 125) 0 rfl (Or.inl rfl) (by omega) (by omega) K11 rfl ?_
  have hst12 : ∃ t, t = st t11 0 11 0 := ⟨_, rfl⟩
  obtain ⟨t12, et12⟩ := hst12
  have R12 : ∀ j, j < 0 → t12 j = σ j := fun j hj => (by rw [et12]; exact st_off _ _ _ (by omega) : t12 j = t11 j).trans (R11 j hj)
  have W12_11 : t12 0 11 = 0 := by rw [et12]; exact st_hit
  have K12 := K11
  have L12 := L11
  have H12 := H11
  show Sat X 4 211 12107 1 (iPost 0 212 sh σ (fun σ' => CV σ' A00 0)) 130 [vr 0] [] (212) s11 (st t11 0 11 0) 211 12107
  rw [← et12]
  show Sat X 4 211 12107 1 (iPost 0 212 sh σ (fun σ' => CV σ' A00 0)) 130 [vr 0] [] (212) s11 t12 211 12107
  refine Sat.run 1 md1 pp1 0 rfl rfl rfl (by omega) (by omega) 2 130 ?_
  show True ∧ iPost 0 212 sh σ (fun σ' => CV σ' A00 0) none (212) s11 t12
  refine ⟨trivial, rfl, by omega, L12, fun j a b => ?_, R12, ?_⟩
  · by_cases e : j = 0
    · subst e; rw [K12]; exact (rfl).symm
    · exact H12 j (by omega) (by omega)
  · have E11 : ∀ j, 1 ≤ j → t12 j = t11 j := fun j a => by rw [et12]; exact st_off _ _ _ (by omega)
    have E10 : ∀ j, 1 ≤ j → j < 208 → t12 j = t10 j := fun j a b => (E11 j a).trans (B11 j (by omega))
    have E9 : ∀ j, 1 ≤ j → j < 197 → t12 j = t9 j := fun j a b => (E10 j a (by omega)).trans (B10 j (by omega))
    have E8 : ∀ j, 1 ≤ j → j < 194 → t12 j = t8 j := fun j a b => (E9 j a (by omega)).trans (B9 j (by omega))
    have E7 : ∀ j, 1 ≤ j → j < 179 → t12 j = t7 j := fun j a b => (E8 j a (by omega)).trans (B8 j (by omega))
    have E6 : ∀ j, 1 ≤ j → j < 171 → t12 j = t6 j := fun j a b => (E7 j a (by omega)).trans (B7 j (by omega))
    have E5 : ∀ j, 1 ≤ j → j < 165 → t12 j = t5 j := fun j a b => (E6 j a (by omega)).trans (B6 j (by omega))
    have E4 : ∀ j, 1 ≤ j → j < 159 → t12 j = t4 j := fun j a b => (E5 j a (by omega)).trans (B5 j (by omega))
    have E3 : ∀ j, 1 ≤ j → j < 157 → t12 j = t3 j := fun j a b => (E4 j a (by omega)).trans (B4 j (by omega))
    have E2 : ∀ j, 1 ≤ j → j < 15 → t12 j = t2 j := fun j a b => (E3 j a (by omega)).trans (B3 j (by omega))
    have E1 : ∀ j, 1 ≤ j → j < 8 → t12 j = t1 j := fun j a b => (E2 j a (by omega)).trans (B2 j (by omega))
    have P1 : t12 15 1 = 0 := by rw [E3 15 (by omega) (by omega)]; exact F3.1
    have P2 : t12 15 2 = 0 := by rw [E3 15 (by omega) (by omega)]; exact F3.2
    exact ⟨F1.cg (fun j a b => E1 j (by omega) (by omega)), ⟨P2, by omega, ⟨Int.le_refl 0, by show (0 : Int) ≤ 20; omega⟩, fun i a b => absurd (show i < 0 from b) (by omega)⟩, W12_11, F11.cg (fun j a b => E11 j (by omega)), F5.cg (fun j a b => E5 j (by omega) (by omega)) (Int.le_refl _), F7.cg (fun j a b => E7 j (by omega) (by omega)) (Int.le_refl _), F8.cg (fun j a b => E8 j (by omega) (by omega)) (Int.le_refl _), F10.cg (fun j a b => E10 j (by omega) (by omega)) (Int.le_refl _)⟩
theorem i_X11 : IC X 1 18 8396 46 11 212 19 (fun σ' => MV σ' A00) := by
  intro sh σ h0 hz
  refine Call.mk md46 (by decide) rfl (by omega) (Nat.le_of_ble_eq_true rfl) ?_
  intro hin hav
  show Sat X 1 18 8396 46 (iPost 212 19 sh σ (fun σ' => MV σ' A00)) 0 [vr 212, vx 9] [] (213) sh σ 0 0
  have K0 : sh 212 = .inr (.inr (11, [some none, some none, none, some none, some none, some none, none, none, some none, none, some none, some none, some none, some none, none, some none, some none, some none, none, some none, some none, some none, some none, some none])) := h0
  have L0 : ∀ j, j < 212 → sh j = sh j := fun _ _ => rfl
  have H0 : ∀ j, 212 < j → j < 213 → sh j = SH j := fun j a b => by omega
  have R0 : ∀ j, j < 212 → σ j = σ j := fun _ _ => rfl
  have W0_2 : σ 212 2 = 0 := by rw [hz]
  have W0_6 : σ 212 6 = 0 := by rw [hz]
  have W0_7 : σ 212 7 = 0 := by rw [hz]
  have W0_9 : σ 212 9 = 0 := by rw [hz]
  have W0_14 : σ 212 14 = 0 := by rw [hz]
  have W0_18 : σ 212 18 = 0 := by rw [hz]
  refine Sat.fobj 46 md46 pp46 0 rfl rfl rfl (pc := 0) rfl rfl (by omega) (by omega) ?_
  show Sat X 1 18 8396 46 (iPost 212 19 sh σ (fun σ' => MV σ' A00)) 4 [vr 212, vx 9] [] (213) sh σ 0 0
  refine Sat.farr 46 md46 pp46 0 rfl rfl rfl (pc := 4) 265 rfl rfl rfl (by omega) (by omega) (by omega) K0 (Nat.le_of_ble_eq_true rfl) (by omega) L0 H0 rfl (fun s1 t1 K1 L1 H1 A1 B1 => ?_)
  have K1 : s1 212 = .inr (.inr (11, [some (some (213)), some none, none, some none, some none, some none, none, none, some none, none, some none, some none, some none, some none, none, some none, some none, some none, none, some none, some none, some none, some none, some none])) := K1
  have R1 : ∀ j, j < 212 → t1 j = σ j := fun j hj => (B1 j (by omega)).trans (R0 j hj)
  have W1_2 : t1 212 2 = 0 := by rw [B1 212 (by omega)]; exact W0_2
  have W1_6 : t1 212 6 = 0 := by rw [B1 212 (by omega)]; exact W0_6
  have W1_7 : t1 212 7 = 0 := by rw [B1 212 (by omega)]; exact W0_7
  have W1_9 : t1 212 9 = 0 := by rw [B1 212 (by omega)]; exact W0_9
  have W1_14 : t1 212 14 = 0 := by rw [B1 212 (by omega)]; exact W0_14
  have W1_18 : t1 212 18 = 0 := by rw [B1 212 (by omega)]; exact W0_18
  have Z1_1 : t1 (213) = (fun _ => 0) := A1
  show Sat X 1 18 8396 46 (iPost 212 19 sh σ (fun σ' => MV σ' A00)) 13 [vr 212, vx 9] [] (214) s1 t1 1 265
  refine Sat.farr 46 md46 pp46 0 rfl rfl rfl (pc := 13) 5300 rfl rfl rfl (by omega) (by omega) (by omega) K1 (Nat.le_of_ble_eq_true rfl) (by omega) L1 H1 rfl (fun s2 t2 K2 L2 H2 A2 B2 => ?_)
  have K2 : s2 212 = .inr (.inr (11, [some (some (213)), some (some (214)), none, some none, some none, some none, none, none, some none, none, some none, some none, some none, some none, none, some none, some none, some none, none, some none, some none, some none, some none, some none])) := K2
  have R2 : ∀ j, j < 212 → t2 j = σ j := fun j hj => (B2 j (by omega)).trans (R1 j hj)
  have W2_2 : t2 212 2 = 0 := by rw [B2 212 (by omega)]; exact W1_2
  have W2_6 : t2 212 6 = 0 := by rw [B2 212 (by omega)]; exact W1_6
  have W2_7 : t2 212 7 = 0 := by rw [B2 212 (by omega)]; exact W1_7
  have W2_9 : t2 212 9 = 0 := by rw [B2 212 (by omega)]; exact W1_9
  have W2_14 : t2 212 14 = 0 := by rw [B2 212 (by omega)]; exact W1_14
  have W2_18 : t2 212 18 = 0 := by rw [B2 212 (by omega)]; exact W1_18
  have Z2_1 : t2 (213) = (fun _ => 0) := by rw [B2 (213) (by omega)]; exact Z1_1
  show Sat X 1 18 8396 46 (iPost 212 19 sh σ (fun σ' => MV σ' A00)) 22 [vr 212, vx 9] [] (215) s2 t2 2 5565
  refine Sat.farr 46 md46 pp46 0 rfl rfl rfl (pc := 22) 4 rfl rfl rfl (by omega) (by omega) (by omega) K2 (Nat.le_of_ble_eq_true rfl) (by omega) L2 H2 rfl (fun s3 t3 K3 L3 H3 A3 B3 => ?_)
  have K3 : s3 212 = .inr (.inr (11, [some (some (213)), some (some (214)), none, some (some (215)), some none, some none, none, none, some none, none, some none, some none, some none, some none, none, some none, some none, some none, none, some none, some none, some none, some none, some none])) := K3
  have R3 : ∀ j, j < 212 → t3 j = σ j := fun j hj => (B3 j (by omega)).trans (R2 j hj)
  have W3_2 : t3 212 2 = 0 := by rw [B3 212 (by omega)]; exact W2_2
  have W3_6 : t3 212 6 = 0 := by rw [B3 212 (by omega)]; exact W2_6
  have W3_7 : t3 212 7 = 0 := by rw [B3 212 (by omega)]; exact W2_7
  have W3_9 : t3 212 9 = 0 := by rw [B3 212 (by omega)]; exact W2_9
  have W3_14 : t3 212 14 = 0 := by rw [B3 212 (by omega)]; exact W2_14
  have W3_18 : t3 212 18 = 0 := by rw [B3 212 (by omega)]; exact W2_18
  have Z3_1 : t3 (213) = (fun _ => 0) := by rw [B3 (213) (by omega)]; exact Z2_1
  have Z3_3 : t3 (215) = (fun _ => 0) := A3
  show Sat X 1 18 8396 46 (iPost 212 19 sh σ (fun σ' => MV σ' A00)) 29 [vr 212, vx 9] [] (216) s3 t3 3 5569
  refine Sat.farr 46 md46 pp46 0 rfl rfl rfl (pc := 29) 4 rfl rfl rfl (by omega) (by omega) (by omega) K3 (Nat.le_of_ble_eq_true rfl) (by omega) L3 H3 rfl (fun s4 t4 K4 L4 H4 A4 B4 => ?_)
  have K4 : s4 212 = .inr (.inr (11, [some (some (213)), some (some (214)), none, some (some (215)), some (some (216)), some none, none, none, some none, none, some none, some none, some none, some none, none, some none, some none, some none, none, some none, some none, some none, some none, some none])) := K4
  have R4 : ∀ j, j < 212 → t4 j = σ j := fun j hj => (B4 j (by omega)).trans (R3 j hj)
  have W4_2 : t4 212 2 = 0 := by rw [B4 212 (by omega)]; exact W3_2
  have W4_6 : t4 212 6 = 0 := by rw [B4 212 (by omega)]; exact W3_6
  have W4_7 : t4 212 7 = 0 := by rw [B4 212 (by omega)]; exact W3_7
  have W4_9 : t4 212 9 = 0 := by rw [B4 212 (by omega)]; exact W3_9
  have W4_14 : t4 212 14 = 0 := by rw [B4 212 (by omega)]; exact W3_14
  have W4_18 : t4 212 18 = 0 := by rw [B4 212 (by omega)]; exact W3_18
  have Z4_1 : t4 (213) = (fun _ => 0) := by rw [B4 (213) (by omega)]; exact Z3_1
  have Z4_3 : t4 (215) = (fun _ => 0) := by rw [B4 (215) (by omega)]; exact Z3_3
  have Z4_4 : t4 (216) = (fun _ => 0) := A4
  show Sat X 1 18 8396 46 (iPost 212 19 sh σ (fun σ' => MV σ' A00)) 36 [vr 212, vx 9] [] (217) s4 t4 4 5573
  refine Sat.farr 46 md46 pp46 0 rfl rfl rfl (pc := 36) 120 rfl rfl rfl (by omega) (by omega) (by omega) K4 (Nat.le_of_ble_eq_true rfl) (by omega) L4 H4 rfl (fun s5 t5 K5 L5 H5 A5 B5 => ?_)
  have K5 : s5 212 = .inr (.inr (11, [some (some (213)), some (some (214)), none, some (some (215)), some (some (216)), some (some (217)), none, none, some none, none, some none, some none, some none, some none, none, some none, some none, some none, none, some none, some none, some none, some none, some none])) := K5
  have R5 : ∀ j, j < 212 → t5 j = σ j := fun j hj => (B5 j (by omega)).trans (R4 j hj)
  have W5_2 : t5 212 2 = 0 := by rw [B5 212 (by omega)]; exact W4_2
  have W5_6 : t5 212 6 = 0 := by rw [B5 212 (by omega)]; exact W4_6
  have W5_7 : t5 212 7 = 0 := by rw [B5 212 (by omega)]; exact W4_7
  have W5_9 : t5 212 9 = 0 := by rw [B5 212 (by omega)]; exact W4_9
  have W5_14 : t5 212 14 = 0 := by rw [B5 212 (by omega)]; exact W4_14
  have W5_18 : t5 212 18 = 0 := by rw [B5 212 (by omega)]; exact W4_18
  have Z5_1 : t5 (213) = (fun _ => 0) := by rw [B5 (213) (by omega)]; exact Z4_1
  have Z5_3 : t5 (215) = (fun _ => 0) := by rw [B5 (215) (by omega)]; exact Z4_3
  have Z5_4 : t5 (216) = (fun _ => 0) := by rw [B5 (216) (by omega)]; exact Z4_4
  have Z5_5 : t5 (217) = (fun _ => 0) := A5
  show Sat X 1 18 8396 46 (iPost 212 19 sh σ (fun σ' => MV σ' A00)) 44 [vr 212, vx 9] [] (218) s5 t5 5 5693
  refine Sat.farr 46 md46 pp46 0 rfl rfl rfl (pc := 44) 324 rfl rfl rfl (by omega) (by omega) (by omega) K5 (Nat.le_of_ble_eq_true rfl) (by omega) L5 H5 rfl (fun s6 t6 K6 L6 H6 A6 B6 => ?_)
  have K6 : s6 212 = .inr (.inr (11, [some (some (213)), some (some (214)), none, some (some (215)), some (some (216)), some (some (217)), none, none, some (some (218)), none, some none, some none, some none, some none, none, some none, some none, some none, none, some none, some none, some none, some none, some none])) := K6
  have R6 : ∀ j, j < 212 → t6 j = σ j := fun j hj => (B6 j (by omega)).trans (R5 j hj)
  have W6_2 : t6 212 2 = 0 := by rw [B6 212 (by omega)]; exact W5_2
  have W6_6 : t6 212 6 = 0 := by rw [B6 212 (by omega)]; exact W5_6
  have W6_7 : t6 212 7 = 0 := by rw [B6 212 (by omega)]; exact W5_7
  have W6_9 : t6 212 9 = 0 := by rw [B6 212 (by omega)]; exact W5_9
  have W6_14 : t6 212 14 = 0 := by rw [B6 212 (by omega)]; exact W5_14
  have W6_18 : t6 212 18 = 0 := by rw [B6 212 (by omega)]; exact W5_18
  have Z6_1 : t6 (213) = (fun _ => 0) := by rw [B6 (213) (by omega)]; exact Z5_1
  have Z6_3 : t6 (215) = (fun _ => 0) := by rw [B6 (215) (by omega)]; exact Z5_3
  have Z6_4 : t6 (216) = (fun _ => 0) := by rw [B6 (216) (by omega)]; exact Z5_4
  have Z6_5 : t6 (217) = (fun _ => 0) := by rw [B6 (217) (by omega)]; exact Z5_5
  show Sat X 1 18 8396 46 (iPost 212 19 sh σ (fun σ' => MV σ' A00)) 53 [vr 212, vx 9] [] (219) s6 t6 6 6017
  refine Sat.farr 46 md46 pp46 0 rfl rfl rfl (pc := 53) 324 rfl rfl rfl (by omega) (by omega) (by omega) K6 (Nat.le_of_ble_eq_true rfl) (by omega) L6 H6 rfl (fun s7 t7 K7 L7 H7 A7 B7 => ?_)
  have K7 : s7 212 = .inr (.inr (11, [some (some (213)), some (some (214)), none, some (some (215)), some (some (216)), some (some (217)), none, none, some (some (218)), none, some (some (219)), some none, some none, some none, none, some none, some none, some none, none, some none, some none, some none, some none, some none])) := K7
  have R7 : ∀ j, j < 212 → t7 j = σ j := fun j hj => (B7 j (by omega)).trans (R6 j hj)
  have W7_2 : t7 212 2 = 0 := by rw [B7 212 (by omega)]; exact W6_2
  have W7_6 : t7 212 6 = 0 := by rw [B7 212 (by omega)]; exact W6_6
  have W7_7 : t7 212 7 = 0 := by rw [B7 212 (by omega)]; exact W6_7
  have W7_9 : t7 212 9 = 0 := by rw [B7 212 (by omega)]; exact W6_9
  have W7_14 : t7 212 14 = 0 := by rw [B7 212 (by omega)]; exact W6_14
  have W7_18 : t7 212 18 = 0 := by rw [B7 212 (by omega)]; exact W6_18
  have Z7_1 : t7 (213) = (fun _ => 0) := by rw [B7 (213) (by omega)]; exact Z6_1
  have Z7_3 : t7 (215) = (fun _ => 0) := by rw [B7 (215) (by omega)]; exact Z6_3
  have Z7_4 : t7 (216) = (fun _ => 0) := by rw [B7 (216) (by omega)]; exact Z6_4
  have Z7_5 : t7 (217) = (fun _ => 0) := by rw [B7 (217) (by omega)]; exact Z6_5
  show Sat X 1 18 8396 46 (iPost 212 19 sh σ (fun σ' => MV σ' A00)) 62 [vr 212, vx 9] [] (220) s7 t7 7 6341
  refine Sat.farr 46 md46 pp46 0 rfl rfl rfl (pc := 62) 324 rfl rfl rfl (by omega) (by omega) (by omega) K7 (Nat.le_of_ble_eq_true rfl) (by omega) L7 H7 rfl (fun s8 t8 K8 L8 H8 A8 B8 => ?_)
  have K8 : s8 212 = .inr (.inr (11, [some (some (213)), some (some (214)), none, some (some (215)), some (some (216)), some (some (217)), none, none, some (some (218)), none, some (some (219)), some (some (220)), some none, some none, none, some none, some none, some none, none, some none, some none, some none, some none, some none])) := K8
  have R8 : ∀ j, j < 212 → t8 j = σ j := fun j hj => (B8 j (by omega)).trans (R7 j hj)
  have W8_2 : t8 212 2 = 0 := by rw [B8 212 (by omega)]; exact W7_2
  have W8_6 : t8 212 6 = 0 := by rw [B8 212 (by omega)]; exact W7_6
  have W8_7 : t8 212 7 = 0 := by rw [B8 212 (by omega)]; exact W7_7
  have W8_9 : t8 212 9 = 0 := by rw [B8 212 (by omega)]; exact W7_9
  have W8_14 : t8 212 14 = 0 := by rw [B8 212 (by omega)]; exact W7_14
  have W8_18 : t8 212 18 = 0 := by rw [B8 212 (by omega)]; exact W7_18
  have Z8_1 : t8 (213) = (fun _ => 0) := by rw [B8 (213) (by omega)]; exact Z7_1
  have Z8_3 : t8 (215) = (fun _ => 0) := by rw [B8 (215) (by omega)]; exact Z7_3
  have Z8_4 : t8 (216) = (fun _ => 0) := by rw [B8 (216) (by omega)]; exact Z7_4
  have Z8_5 : t8 (217) = (fun _ => 0) := by rw [B8 (217) (by omega)]; exact Z7_5
  show Sat X 1 18 8396 46 (iPost 212 19 sh σ (fun σ' => MV σ' A00)) 71 [vr 212, vx 9] [] (221) s8 t8 8 6665
  refine Sat.farr 46 md46 pp46 0 rfl rfl rfl (pc := 71) 81 rfl rfl rfl (by omega) (by omega) (by omega) K8 (Nat.le_of_ble_eq_true rfl) (by omega) L8 H8 rfl (fun s9 t9 K9 L9 H9 A9 B9 => ?_)
  have K9 : s9 212 = .inr (.inr (11, [some (some (213)), some (some (214)), none, some (some (215)), some (some (216)), some (some (217)), none, none, some (some (218)), none, some (some (219)), some (some (220)), some (some (221)), some none, none, some none, some none, some none, none, some none, some none, some none, some none, some none])) := K9
  have R9 : ∀ j, j < 212 → t9 j = σ j := fun j hj => (B9 j (by omega)).trans (R8 j hj)
  have W9_2 : t9 212 2 = 0 := by rw [B9 212 (by omega)]; exact W8_2
  have W9_6 : t9 212 6 = 0 := by rw [B9 212 (by omega)]; exact W8_6
  have W9_7 : t9 212 7 = 0 := by rw [B9 212 (by omega)]; exact W8_7
  have W9_9 : t9 212 9 = 0 := by rw [B9 212 (by omega)]; exact W8_9
  have W9_14 : t9 212 14 = 0 := by rw [B9 212 (by omega)]; exact W8_14
  have W9_18 : t9 212 18 = 0 := by rw [B9 212 (by omega)]; exact W8_18
  have Z9_1 : t9 (213) = (fun _ => 0) := by rw [B9 (213) (by omega)]; exact Z8_1
  have Z9_3 : t9 (215) = (fun _ => 0) := by rw [B9 (215) (by omega)]; exact Z8_3
  have Z9_4 : t9 (216) = (fun _ => 0) := by rw [B9 (216) (by omega)]; exact Z8_4
  have Z9_5 : t9 (217) = (fun _ => 0) := by rw [B9 (217) (by omega)]; exact Z8_5
  show Sat X 1 18 8396 46 (iPost 212 19 sh σ (fun σ' => MV σ' A00)) 79 [vr 212, vx 9] [] (222) s9 t9 9 6746
  refine Sat.farr 46 md46 pp46 0 rfl rfl rfl (pc := 79) 324 rfl rfl rfl (by omega) (by omega) (by omega) K9 (Nat.le_of_ble_eq_true rfl) (by omega) L9 H9 rfl (fun s10 t10 K10 L10 H10 A10 B10 => ?_)
  have K10 : s10 212 = .inr (.inr (11, [some (some (213)), some (some (214)), none, some (some (215)), some (some (216)), some (some (217)), none, none, some (some (218)), none, some (some (219)), some (some (220)), some (some (221)), some (some (222)), none, some none, some none, some none, none, some none, some none, some none, some none, some none])) := K10
  have R10 : ∀ j, j < 212 → t10 j = σ j := fun j hj => (B10 j (by omega)).trans (R9 j hj)
  have W10_2 : t10 212 2 = 0 := by rw [B10 212 (by omega)]; exact W9_2
  have W10_6 : t10 212 6 = 0 := by rw [B10 212 (by omega)]; exact W9_6
  have W10_7 : t10 212 7 = 0 := by rw [B10 212 (by omega)]; exact W9_7
  have W10_9 : t10 212 9 = 0 := by rw [B10 212 (by omega)]; exact W9_9
  have W10_14 : t10 212 14 = 0 := by rw [B10 212 (by omega)]; exact W9_14
  have W10_18 : t10 212 18 = 0 := by rw [B10 212 (by omega)]; exact W9_18
  have Z10_1 : t10 (213) = (fun _ => 0) := by rw [B10 (213) (by omega)]; exact Z9_1
  have Z10_3 : t10 (215) = (fun _ => 0) := by rw [B10 (215) (by omega)]; exact Z9_3
  have Z10_4 : t10 (216) = (fun _ => 0) := by rw [B10 (216) (by omega)]; exact Z9_4
  have Z10_5 : t10 (217) = (fun _ => 0) := by rw [B10 (217) (by omega)]; exact Z9_5
  show Sat X 1 18 8396 46 (iPost 212 19 sh σ (fun σ' => MV σ' A00)) 88 [vr 212, vx 9] [] (223) s10 t10 10 7070
  refine Sat.farr 46 md46 pp46 0 rfl rfl rfl (pc := 88) 324 rfl rfl rfl (by omega) (by omega) (by omega) K10 (Nat.le_of_ble_eq_true rfl) (by omega) L10 H10 rfl (fun s11 t11 K11 L11 H11 A11 B11 => ?_)
  have K11 : s11 212 = .inr (.inr (11, [some (some (213)), some (some (214)), none, some (some (215)), some (some (216)), some (some (217)), none, none, some (some (218)), none, some (some (219)), some (some (220)), some (some (221)), some (some (222)), none, some (some (223)), some none, some none, none, some none, some none, some none, some none, some none])) := K11
  have R11 : ∀ j, j < 212 → t11 j = σ j := fun j hj => (B11 j (by omega)).trans (R10 j hj)
  have W11_2 : t11 212 2 = 0 := by rw [B11 212 (by omega)]; exact W10_2
  have W11_6 : t11 212 6 = 0 := by rw [B11 212 (by omega)]; exact W10_6
  have W11_7 : t11 212 7 = 0 := by rw [B11 212 (by omega)]; exact W10_7
  have W11_9 : t11 212 9 = 0 := by rw [B11 212 (by omega)]; exact W10_9
  have W11_14 : t11 212 14 = 0 := by rw [B11 212 (by omega)]; exact W10_14
  have W11_18 : t11 212 18 = 0 := by rw [B11 212 (by omega)]; exact W10_18
  have Z11_1 : t11 (213) = (fun _ => 0) := by rw [B11 (213) (by omega)]; exact Z10_1
  have Z11_3 : t11 (215) = (fun _ => 0) := by rw [B11 (215) (by omega)]; exact Z10_3
  have Z11_4 : t11 (216) = (fun _ => 0) := by rw [B11 (216) (by omega)]; exact Z10_4
  have Z11_5 : t11 (217) = (fun _ => 0) := by rw [B11 (217) (by omega)]; exact Z10_5
  show Sat X 1 18 8396 46 (iPost 212 19 sh σ (fun σ' => MV σ' A00)) 97 [vr 212, vx 9] [] (224) s11 t11 11 7394
  refine Sat.farr 46 md46 pp46 0 rfl rfl rfl (pc := 97) 324 rfl rfl rfl (by omega) (by omega) (by omega) K11 (Nat.le_of_ble_eq_true rfl) (by omega) L11 H11 rfl (fun s12 t12 K12 L12 H12 A12 B12 => ?_)
  have K12 : s12 212 = .inr (.inr (11, [some (some (213)), some (some (214)), none, some (some (215)), some (some (216)), some (some (217)), none, none, some (some (218)), none, some (some (219)), some (some (220)), some (some (221)), some (some (222)), none, some (some (223)), some (some (224)), some none, none, some none, some none, some none, some none, some none])) := K12
  have R12 : ∀ j, j < 212 → t12 j = σ j := fun j hj => (B12 j (by omega)).trans (R11 j hj)
  have W12_2 : t12 212 2 = 0 := by rw [B12 212 (by omega)]; exact W11_2
  have W12_6 : t12 212 6 = 0 := by rw [B12 212 (by omega)]; exact W11_6
  have W12_7 : t12 212 7 = 0 := by rw [B12 212 (by omega)]; exact W11_7
  have W12_9 : t12 212 9 = 0 := by rw [B12 212 (by omega)]; exact W11_9
  have W12_14 : t12 212 14 = 0 := by rw [B12 212 (by omega)]; exact W11_14
  have W12_18 : t12 212 18 = 0 := by rw [B12 212 (by omega)]; exact W11_18
  have Z12_1 : t12 (213) = (fun _ => 0) := by rw [B12 (213) (by omega)]; exact Z11_1
  have Z12_3 : t12 (215) = (fun _ => 0) := by rw [B12 (215) (by omega)]; exact Z11_3
  have Z12_4 : t12 (216) = (fun _ => 0) := by rw [B12 (216) (by omega)]; exact Z11_4
  have Z12_5 : t12 (217) = (fun _ => 0) := by rw [B12 (217) (by omega)]; exact Z11_5
  show Sat X 1 18 8396 46 (iPost 212 19 sh σ (fun σ' => MV σ' A00)) 106 [vr 212, vx 9] [] (225) s12 t12 12 7718
  refine Sat.farr 46 md46 pp46 0 rfl rfl rfl (pc := 106) 324 rfl rfl rfl (by omega) (by omega) (by omega) K12 (Nat.le_of_ble_eq_true rfl) (by omega) L12 H12 rfl (fun s13 t13 K13 L13 H13 A13 B13 => ?_)
  have K13 : s13 212 = .inr (.inr (11, [some (some (213)), some (some (214)), none, some (some (215)), some (some (216)), some (some (217)), none, none, some (some (218)), none, some (some (219)), some (some (220)), some (some (221)), some (some (222)), none, some (some (223)), some (some (224)), some (some (225)), none, some none, some none, some none, some none, some none])) := K13
  have R13 : ∀ j, j < 212 → t13 j = σ j := fun j hj => (B13 j (by omega)).trans (R12 j hj)
  have W13_2 : t13 212 2 = 0 := by rw [B13 212 (by omega)]; exact W12_2
  have W13_6 : t13 212 6 = 0 := by rw [B13 212 (by omega)]; exact W12_6
  have W13_7 : t13 212 7 = 0 := by rw [B13 212 (by omega)]; exact W12_7
  have W13_9 : t13 212 9 = 0 := by rw [B13 212 (by omega)]; exact W12_9
  have W13_14 : t13 212 14 = 0 := by rw [B13 212 (by omega)]; exact W12_14
  have W13_18 : t13 212 18 = 0 := by rw [B13 212 (by omega)]; exact W12_18
  have Z13_1 : t13 (213) = (fun _ => 0) := by rw [B13 (213) (by omega)]; exact Z12_1
  have Z13_3 : t13 (215) = (fun _ => 0) := by rw [B13 (215) (by omega)]; exact Z12_3
  have Z13_4 : t13 (216) = (fun _ => 0) := by rw [B13 (216) (by omega)]; exact Z12_4
  have Z13_5 : t13 (217) = (fun _ => 0) := by rw [B13 (217) (by omega)]; exact Z12_5
  show Sat X 1 18 8396 46 (iPost 212 19 sh σ (fun σ' => MV σ' A00)) 115 [vr 212, vx 9] [] (226) s13 t13 13 8042
  refine Sat.farr 46 md46 pp46 0 rfl rfl rfl (pc := 115) 81 rfl rfl rfl (by omega) (by omega) (by omega) K13 (Nat.le_of_ble_eq_true rfl) (by omega) L13 H13 rfl (fun s14 t14 K14 L14 H14 A14 B14 => ?_)
  have K14 : s14 212 = .inr (.inr (11, [some (some (213)), some (some (214)), none, some (some (215)), some (some (216)), some (some (217)), none, none, some (some (218)), none, some (some (219)), some (some (220)), some (some (221)), some (some (222)), none, some (some (223)), some (some (224)), some (some (225)), none, some (some (226)), some none, some none, some none, some none])) := K14
  have R14 : ∀ j, j < 212 → t14 j = σ j := fun j hj => (B14 j (by omega)).trans (R13 j hj)
  have W14_2 : t14 212 2 = 0 := by rw [B14 212 (by omega)]; exact W13_2
  have W14_6 : t14 212 6 = 0 := by rw [B14 212 (by omega)]; exact W13_6
  have W14_7 : t14 212 7 = 0 := by rw [B14 212 (by omega)]; exact W13_7
  have W14_9 : t14 212 9 = 0 := by rw [B14 212 (by omega)]; exact W13_9
  have W14_14 : t14 212 14 = 0 := by rw [B14 212 (by omega)]; exact W13_14
  have W14_18 : t14 212 18 = 0 := by rw [B14 212 (by omega)]; exact W13_18
  have Z14_1 : t14 (213) = (fun _ => 0) := by rw [B14 (213) (by omega)]; exact Z13_1
  have Z14_3 : t14 (215) = (fun _ => 0) := by rw [B14 (215) (by omega)]; exact Z13_3
  have Z14_4 : t14 (216) = (fun _ => 0) := by rw [B14 (216) (by omega)]; exact Z13_4
  have Z14_5 : t14 (217) = (fun _ => 0) := by rw [B14 (217) (by omega)]; exact Z13_5
  show Sat X 1 18 8396 46 (iPost 212 19 sh σ (fun σ' => MV σ' A00)) 123 [vr 212, vx 9] [] (227) s14 t14 14 8123
  refine Sat.farr 46 md46 pp46 0 rfl rfl rfl (pc := 123) 81 rfl rfl rfl (by omega) (by omega) (by omega) K14 (Nat.le_of_ble_eq_true rfl) (by omega) L14 H14 rfl (fun s15 t15 K15 L15 H15 A15 B15 => ?_)
  have K15 : s15 212 = .inr (.inr (11, [some (some (213)), some (some (214)), none, some (some (215)), some (some (216)), some (some (217)), none, none, some (some (218)), none, some (some (219)), some (some (220)), some (some (221)), some (some (222)), none, some (some (223)), some (some (224)), some (some (225)), none, some (some (226)), some (some (227)), some none, some none, some none])) := K15
  have R15 : ∀ j, j < 212 → t15 j = σ j := fun j hj => (B15 j (by omega)).trans (R14 j hj)
  have W15_2 : t15 212 2 = 0 := by rw [B15 212 (by omega)]; exact W14_2
  have W15_6 : t15 212 6 = 0 := by rw [B15 212 (by omega)]; exact W14_6
  have W15_7 : t15 212 7 = 0 := by rw [B15 212 (by omega)]; exact W14_7
  have W15_9 : t15 212 9 = 0 := by rw [B15 212 (by omega)]; exact W14_9
  have W15_14 : t15 212 14 = 0 := by rw [B15 212 (by omega)]; exact W14_14
  have W15_18 : t15 212 18 = 0 := by rw [B15 212 (by omega)]; exact W14_18
  have Z15_1 : t15 (213) = (fun _ => 0) := by rw [B15 (213) (by omega)]; exact Z14_1
  have Z15_3 : t15 (215) = (fun _ => 0) := by rw [B15 (215) (by omega)]; exact Z14_3
  have Z15_4 : t15 (216) = (fun _ => 0) := by rw [B15 (216) (by omega)]; exact Z14_4
  have Z15_5 : t15 (217) = (fun _ => 0) := by rw [B15 (217) (by omega)]; exact Z14_5
  show Sat X 1 18 8396 46 (iPost 212 19 sh σ (fun σ' => MV σ' A00)) 131 [vr 212, vx 9] [] (228) s15 t15 15 8204
  refine Sat.farr 46 md46 pp46 0 rfl rfl rfl (pc := 131) 81 rfl rfl rfl (by omega) (by omega) (by omega) K15 (Nat.le_of_ble_eq_true rfl) (by omega) L15 H15 rfl (fun s16 t16 K16 L16 H16 A16 B16 => ?_)
  have K16 : s16 212 = .inr (.inr (11, [some (some (213)), some (some (214)), none, some (some (215)), some (some (216)), some (some (217)), none, none, some (some (218)), none, some (some (219)), some (some (220)), some (some (221)), some (some (222)), none, some (some (223)), some (some (224)), some (some (225)), none, some (some (226)), some (some (227)), some (some (228)), some none, some none])) := K16
  have R16 : ∀ j, j < 212 → t16 j = σ j := fun j hj => (B16 j (by omega)).trans (R15 j hj)
  have W16_2 : t16 212 2 = 0 := by rw [B16 212 (by omega)]; exact W15_2
  have W16_6 : t16 212 6 = 0 := by rw [B16 212 (by omega)]; exact W15_6
  have W16_7 : t16 212 7 = 0 := by rw [B16 212 (by omega)]; exact W15_7
  have W16_9 : t16 212 9 = 0 := by rw [B16 212 (by omega)]; exact W15_9
  have W16_14 : t16 212 14 = 0 := by rw [B16 212 (by omega)]; exact W15_14
  have W16_18 : t16 212 18 = 0 := by rw [B16 212 (by omega)]; exact W15_18
  have Z16_1 : t16 (213) = (fun _ => 0) := by rw [B16 (213) (by omega)]; exact Z15_1
  have Z16_3 : t16 (215) = (fun _ => 0) := by rw [B16 (215) (by omega)]; exact Z15_3
  have Z16_4 : t16 (216) = (fun _ => 0) := by rw [B16 (216) (by omega)]; exact Z15_4
  have Z16_5 : t16 (217) = (fun _ => 0) := by rw [B16 (217) (by omega)]; exact Z15_5
  show Sat X 1 18 8396 46 (iPost 212 19 sh σ (fun σ' => MV σ' A00)) 139 [vr 212, vx 9] [] (229) s16 t16 16 8285
  refine Sat.farr 46 md46 pp46 0 rfl rfl rfl (pc := 139) 81 rfl rfl rfl (by omega) (by omega) (by omega) K16 (Nat.le_of_ble_eq_true rfl) (by omega) L16 H16 rfl (fun s17 t17 K17 L17 H17 A17 B17 => ?_)
  have K17 : s17 212 = .inr (.inr (11, [some (some (213)), some (some (214)), none, some (some (215)), some (some (216)), some (some (217)), none, none, some (some (218)), none, some (some (219)), some (some (220)), some (some (221)), some (some (222)), none, some (some (223)), some (some (224)), some (some (225)), none, some (some (226)), some (some (227)), some (some (228)), some (some (229)), some none])) := K17
  have R17 : ∀ j, j < 212 → t17 j = σ j := fun j hj => (B17 j (by omega)).trans (R16 j hj)
  have W17_2 : t17 212 2 = 0 := by rw [B17 212 (by omega)]; exact W16_2
  have W17_6 : t17 212 6 = 0 := by rw [B17 212 (by omega)]; exact W16_6
  have W17_7 : t17 212 7 = 0 := by rw [B17 212 (by omega)]; exact W16_7
  have W17_9 : t17 212 9 = 0 := by rw [B17 212 (by omega)]; exact W16_9
  have W17_14 : t17 212 14 = 0 := by rw [B17 212 (by omega)]; exact W16_14
  have W17_18 : t17 212 18 = 0 := by rw [B17 212 (by omega)]; exact W16_18
  have Z17_1 : t17 (213) = (fun _ => 0) := by rw [B17 (213) (by omega)]; exact Z16_1
  have Z17_3 : t17 (215) = (fun _ => 0) := by rw [B17 (215) (by omega)]; exact Z16_3
  have Z17_4 : t17 (216) = (fun _ => 0) := by rw [B17 (216) (by omega)]; exact Z16_4
  have Z17_5 : t17 (217) = (fun _ => 0) := by rw [B17 (217) (by omega)]; exact Z16_5
  show Sat X 1 18 8396 46 (iPost 212 19 sh σ (fun σ' => MV σ' A00)) 147 [vr 212, vx 9] [] (230) s17 t17 17 8366
  refine Sat.farr 46 md46 pp46 0 rfl rfl rfl (pc := 147) 30 rfl rfl rfl (by omega) (by omega) (by omega) K17 (Nat.le_of_ble_eq_true rfl) (by omega) L17 H17 rfl (fun s18 t18 K18 L18 H18 A18 B18 => ?_)
  have K18 : s18 212 = .inr (.inr (11, [some (some (213)), some (some (214)), none, some (some (215)), some (some (216)), some (some (217)), none, none, some (some (218)), none, some (some (219)), some (some (220)), some (some (221)), some (some (222)), none, some (some (223)), some (some (224)), some (some (225)), none, some (some (226)), some (some (227)), some (some (228)), some (some (229)), some (some (230))])) := K18
  have R18 : ∀ j, j < 212 → t18 j = σ j := fun j hj => (B18 j (by omega)).trans (R17 j hj)
  have W18_2 : t18 212 2 = 0 := by rw [B18 212 (by omega)]; exact W17_2
  have W18_6 : t18 212 6 = 0 := by rw [B18 212 (by omega)]; exact W17_6
  have W18_7 : t18 212 7 = 0 := by rw [B18 212 (by omega)]; exact W17_7
  have W18_9 : t18 212 9 = 0 := by rw [B18 212 (by omega)]; exact W17_9
  have W18_14 : t18 212 14 = 0 := by rw [B18 212 (by omega)]; exact W17_14
  have W18_18 : t18 212 18 = 0 := by rw [B18 212 (by omega)]; exact W17_18
  have Z18_1 : t18 (213) = (fun _ => 0) := by rw [B18 (213) (by omega)]; exact Z17_1
  have Z18_3 : t18 (215) = (fun _ => 0) := by rw [B18 (215) (by omega)]; exact Z17_3
  have Z18_4 : t18 (216) = (fun _ => 0) := by rw [B18 (216) (by omega)]; exact Z17_4
  have Z18_5 : t18 (217) = (fun _ => 0) := by rw [B18 (217) (by omega)]; exact Z17_5
  show Sat X 1 18 8396 46 (iPost 212 19 sh σ (fun σ' => MV σ' A00)) 155 [vr 212, vx 9] [] (231) s18 t18 18 8396
  have gk : ∀ (f : Int → Int) (KA : AV → Prop), gfl (s18 212) 11 0 f KA = KA (vr 213) := fun f KA => by rw [K18]; exact propext ⟨fun q => q.2, fun q => ⟨rfl, q⟩⟩
  have ar : ∀ (i : Int) (p : Prop), arr (s18 213) false i p = ((0 ≤ i ∧ i < 265) ∧ p) := fun i p => by rw [H18 213 (by omega) (by omega)]; exact propext ⟨fun q => q.2, fun q => ⟨rfl, q⟩⟩
  have loop : ∀ (m : Nat) (i : Int) (t : Sg), 0 ≤ i → i + m = 81 → (∀ j, 0 ≤ j → j < 265 → t 213 j = if j = 0 ∨ j = 1 then 9 else if 4 ≤ j ∧ j < 4 + i then -1 else 0) → (∀ j, j ≠ 213 → t j = t18 j) → Sat X 1 18 8396 46 (iPost 212 19 sh σ (fun σ' => MV σ' A00)) 173 [vr 212, vi i] [] (231) s18 t 18 8396 := by
    intro m
    induction m with
    | zero =>
      intro i t h0 h1 h2 h3
      refine Sat.run 46 md46 pp46 0 rfl rfl rfl (by omega) (by omega) 14 173 ?_
      simp only [ev_hd, ev_sf, ev_hd0, ev_sf0, ↓ev_0, ↓ev_lx, ↓ev_7, ↓ev_8, ↓ev_9, ↓ev_33, ↓ev_11, ↓ev_12, ↓ev_12x, ↓ev_13, ↓ev_14, ↓ev_15, ↓ev_16, ↓ev_18, ↓ev_18x, ↓ev_22, ↓ev_23, ↓ev_24, ↓ev_32, ↓ev_25, ↓ev_26, ↓ev_27, ↓ev_28, ↓ev_31, ↓ev_w1, ↓ev_w2, ↓ev_p1, ↓ev_p2, ↓ev_p3, ↓ev_p4, ↓ev_p5, ↓ev_p6, ↓ev_p0, ev_r0, ev_r1, ev_r2, ↓ev16, ↓ev30, ev_34, ↓fl_0, ↓fr_0, ↓fs_0, ↓ft_0, ↓fc_0, ↓fl_1, ↓fr_1, ↓fs_1, ↓ft_1, ↓fc_1, ↓fl_2, ↓fr_2, ↓fs_2, ↓ft_2, ↓fc_2, ↓fl_3, ↓fr_3, ↓fs_3, ↓ft_3, ↓fc_3, ↓fl_4, ↓fr_4, ↓fs_4, ↓ft_4, ↓fc_4, ↓fl_5, ↓fr_5, ↓fs_5, ↓ft_5, ↓fc_5, ↓fl_6, ↓fr_6, ↓fs_6, ↓ft_6, ↓fc_6, ↓fl_7, ↓fr_7, ↓fs_7, ↓ft_7, ↓fc_7, ↓fb_0, ↓fb_1, ↓fb_2, ↓fb_3, ↓fb_4, ↓fb_5, ↓fb_6, ↓fb_7, ↓fb_8, ↓fb_9, ↓fb_10, ↓f5_0, ↓f6_0, ↓f5_1, ↓f6_1, ↓f5_2, ↓f6_2, ↓f5_3, ↓f6_3, ↓f5_4, ↓f6_4, ↓f5_5, ↓f6_5, ↓f_s, ↓f_cf, ↓f_ct, ↓gf212_0, ↓gf212_1, ↓pf212_2, ↓gf212_2, ↓gf212_3, ↓gf212_4, ↓gf212_5, ↓pf212_6, ↓gf212_6, ↓pf212_7, ↓gf212_7, ↓gf212_8, ↓pf212_9, ↓gf212_9, ↓gf212_10, ↓gf212_11, ↓gf212_12, ↓gf212_13, ↓pf212_14, ↓gf212_14, ↓gf212_15, ↓gf212_16, ↓gf212_17, ↓pf212_18, ↓gf212_18, ↓gf212_19, ↓gf212_20, ↓gf212_21, ↓gf212_22, ↓gf212_23, ↓ic212, ↓ar213, ↓al213, ↓ii213, ↓ar214, ↓al214, ↓ii214, ↓ar215, ↓al215, ↓ii215, ↓ar216, ↓al216, ↓ii216, ↓ar217, ↓al217, ↓ii217, ↓ar218, ↓al218, ↓ii218, ↓ar219, ↓al219, ↓ar220, ↓al220, ↓ar221, ↓al221, ↓ar222, ↓al222, ↓ii222, ↓ar223, ↓al223, ↓ii223, ↓ar224, ↓al224, ↓ii224, ↓ar225, ↓al225, ↓ar226, ↓al226, ↓ii226, ↓ar227, ↓al227, ↓ii227, ↓ar228, ↓al228, ↓ii228, ↓ar229, ↓al229, ↓ar230, ↓al230, ↓ii230, cond_true, cond_false, true_and, and_true, Int.cast_ofNat_Int, Nat.reduceLT, Nat.reduceLeDiff, Nat.reduceBEq, Int.reduceLT, Int.reduceLE, Int.reduceEq, Int.reduceAdd, Nat.reduceEqDiff, not_true_eq_false, not_false_eq_true, false_implies, forall_const, eq_self, Nat.reduceAdd, Option.toList_some, Option.toList_none, List.cons_append, List.nil_append, List.length_cons, List.length_nil, Bool.false_eq_true, reduceCtorEq, true_or, or_true, false_or, or_false, Int.reduceNeg, implies_true, true_implies, xl1, xl2, xl3, xf1, xf2, xf3, p46_0, p46_173, p46_194, sq46_0, sq46_173, sq46_194, gk, ar]
      refine ⟨fun _ => ?_, fun q => by omega⟩
      refine ⟨rfl, rfl, L18, fun j a b => ?_, fun j hj => (h3 j (by omega)).trans (R18 j hj), ?_⟩
      · by_cases e : j = 212
        · subst e; rw [K18]; rfl
        · exact H18 j (by omega) (by omega)
      · refine ⟨fun j a b => ?_, ⟨by rw [h3 212 (by omega), W18_2]; rfl, ⟨Int.le_refl 0, by show (0 : Int) ≤ 20; omega⟩, fun i j a b => absurd (show i < 0 from b) (by omega)⟩, by rw [h3 212 (by omega), W18_6]; rfl, fun q a b => ⟨?_, ?_, fun y u v => ?_⟩⟩
        · rw [h2 j a b, show i = 81 from by omega]; rfl
        · rw [h3 215 (by omega), Z18_3]; rfl
        · rw [h3 216 (by omega), Z18_4]; rfl
        · rw [h3 217 (by omega), Z18_5]; exact (sxt0 0).symm
    | succ m ih =>
      intro i t h0 h1 h2 h3
      refine Sat.run 46 md46 pp46 0 rfl rfl rfl (by omega) (by omega) 14 173 ?_
      simp only [ev_hd, ev_sf, ev_hd0, ev_sf0, ↓ev_0, ↓ev_lx, ↓ev_7, ↓ev_8, ↓ev_9, ↓ev_33, ↓ev_11, ↓ev_12, ↓ev_12x, ↓ev_13, ↓ev_14, ↓ev_15, ↓ev_16, ↓ev_18, ↓ev_18x, ↓ev_22, ↓ev_23, ↓ev_24, ↓ev_32, ↓ev_25, ↓ev_26, ↓ev_27, ↓ev_28, ↓ev_31, ↓ev_w1, ↓ev_w2, ↓ev_p1, ↓ev_p2, ↓ev_p3, ↓ev_p4, ↓ev_p5, ↓ev_p6, ↓ev_p0, ev_r0, ev_r1, ev_r2, ↓ev16, ↓ev30, ev_34, ↓fl_0, ↓fr_0, ↓fs_0, ↓ft_0, ↓fc_0, ↓fl_1, ↓fr_1, ↓fs_1, ↓ft_1, ↓fc_1, ↓fl_2, ↓fr_2, ↓fs_2, ↓ft_2, ↓fc_2, ↓fl_3, ↓fr_3, ↓fs_3, ↓ft_3, ↓fc_3, ↓fl_4, ↓fr_4, ↓fs_4, ↓ft_4, ↓fc_4, ↓fl_5, ↓fr_5, ↓fs_5, ↓ft_5, ↓fc_5, ↓fl_6, ↓fr_6, ↓fs_6, ↓ft_6, ↓fc_6, ↓fl_7, ↓fr_7, ↓fs_7, ↓ft_7, ↓fc_7, ↓fb_0, ↓fb_1, ↓fb_2, ↓fb_3, ↓fb_4, ↓fb_5, ↓fb_6, ↓fb_7, ↓fb_8, ↓fb_9, ↓fb_10, ↓f5_0, ↓f6_0, ↓f5_1, ↓f6_1, ↓f5_2, ↓f6_2, ↓f5_3, ↓f6_3, ↓f5_4, ↓f6_4, ↓f5_5, ↓f6_5, ↓f_s, ↓f_cf, ↓f_ct, ↓gf212_0, ↓gf212_1, ↓pf212_2, ↓gf212_2, ↓gf212_3, ↓gf212_4, ↓gf212_5, ↓pf212_6, ↓gf212_6, ↓pf212_7, ↓gf212_7, ↓gf212_8, ↓pf212_9, ↓gf212_9, ↓gf212_10, ↓gf212_11, ↓gf212_12, ↓gf212_13, ↓pf212_14, ↓gf212_14, ↓gf212_15, ↓gf212_16, ↓gf212_17, ↓pf212_18, ↓gf212_18, ↓gf212_19, ↓gf212_20, ↓gf212_21, ↓gf212_22, ↓gf212_23, ↓ic212, ↓ar213, ↓al213, ↓ii213, ↓ar214, ↓al214, ↓ii214, ↓ar215, ↓al215, ↓ii215, ↓ar216, ↓al216, ↓ii216, ↓ar217, ↓al217, ↓ii217, ↓ar218, ↓al218, ↓ii218, ↓ar219, ↓al219, ↓ar220, ↓al220, ↓ar221, ↓al221, ↓ar222, ↓al222, ↓ii222, ↓ar223, ↓al223, ↓ii223, ↓ar224, ↓al224, ↓ii224, ↓ar225, ↓al225, ↓ar226, ↓al226, ↓ii226, ↓ar227, ↓al227, ↓ii227, ↓ar228, ↓al228, ↓ii228, ↓ar229, ↓al229, ↓ar230, ↓al230, ↓ii230, cond_true, cond_false, true_and, and_true, Int.cast_ofNat_Int, Nat.reduceLT, Nat.reduceLeDiff, Nat.reduceBEq, Int.reduceLT, Int.reduceLE, Int.reduceEq, Int.reduceAdd, Nat.reduceEqDiff, not_true_eq_false, not_false_eq_true, false_implies, forall_const, eq_self, Nat.reduceAdd, Option.toList_some, Option.toList_none, List.cons_append, List.nil_append, List.length_cons, List.length_nil, Bool.false_eq_true, reduceCtorEq, true_or, or_true, false_or, or_false, Int.reduceNeg, implies_true, true_implies, xl1, xl2, xl3, xf1, xf2, xf3, p46_0, p46_173, p46_194, sq46_0, sq46_173, sq46_194, gk, ar]
      refine ⟨fun q => by omega, fun _ => ⟨by unfold InR; omega, by omega, by unfold InR; omega, ih (i + 1) _ (by omega) (by omega) (fun j a b => ?_) (fun j hj => by rw [st_off _ _ _ hj]; exact h3 j hj)⟩⟩
      by_cases e : j = 4 + i
      · rw [e, st_hit, if_neg (by omega), if_pos (by omega)]
      · rw [st_mis e, h2 j a b]
        by_cases e2 : j = 0 ∨ j = 1
        · rw [if_pos e2, if_pos e2]
        · rw [if_neg e2, if_neg e2]
          by_cases e3 : 4 ≤ j ∧ j < 4 + i
          · rw [if_pos e3, if_pos (by omega)]
          · rw [if_neg e3, if_neg (by omega)]
  refine Sat.fast 46 md46 pp46 0 rfl rfl rfl (pc := 155) 0 9 rfl (by omega) (by omega) K18 rfl (H18 213 (by omega) (by omega)) (by omega) (by omega) ?_
  show Sat X 1 18 8396 46 (iPost 212 19 sh σ (fun σ' => MV σ' A00)) 163 [vr 212, vx 9] [] (231) s18 (st t18 213 0 9) 18 8396
  refine Sat.fast 46 md46 pp46 0 rfl rfl rfl (pc := 163) 1 9 rfl (by omega) (by omega) K18 rfl (H18 213 (by omega) (by omega)) (by omega) (by omega) ?_
  show Sat X 1 18 8396 46 (iPost 212 19 sh σ (fun σ' => MV σ' A00)) 171 [vr 212, vx 9] [] (231) s18 (st (st t18 213 0 9) 213 1 9) 18 8396
  refine Sat.run 46 md46 pp46 0 rfl rfl rfl (by omega) (by omega) 2 171 ?_
  show Sat X 1 18 8396 46 (iPost 212 19 sh σ (fun σ' => MV σ' A00)) 173 [vr 212, vi 0] [] (231) s18 (st (st t18 213 0 9) 213 1 9) 18 8396
  refine loop 81 0 _ (by omega) (by omega) (fun j a b => ?_) (fun j hj => by rw [st_off _ _ _ hj, st_off _ _ _ hj])
  by_cases e : j = 1
  · rw [e, st_hit]; rfl
  · rw [st_mis e]
    by_cases e0 : j = 0
    · rw [e0, st_hit]; rfl
    · rw [st_mis e0, Z18_1, if_neg (by omega), if_neg (by omega)]
end CTT
