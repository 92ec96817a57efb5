-- CONSTRUCTORS: Maze, Past, Turning
def M00 : Int → Int := fun j => if j = 0 ∨ j = 1 then 9 else if 4 ≤ j ∧ j < 85 then -1 else 0
theorem m0_k {f : Int} (a : 0 ≤ f) (b : f < 81) : M00 (4 + f) = -1 := by unfold M00; rw [if_neg (by omega), if_pos (by omega)]
theorem m0_z {j : Int} (a : 85 ≤ j ∨ j = 2 ∨ j = 3) : M00 j = 0 := by unfold M00; rw [if_neg (by omega), if_neg (by omega)]
section CTS
variable {X : Cx} {k : Nat}
theorem i_X1 (hk : Ismz k) : IC X 2 6 261 119 1 k 7 (fun σ' => MzC σ' k M00) := by
  intro sh σ h0 hz
  refine Call.mk md119 (by decide) rfl (by omega) (Nat.le_of_ble_eq_true rfl) ?_
  intro hin hav
  show Sat X 2 6 261 119 (iPost k 7 sh σ (fun σ' => MzC σ' k M00)) 0 [vr k] [] (k + 1) sh σ 0 0
  have K0 : sh k = .inr (.inr (1, [none, none, some none, some none, some none, none, some none, some none, some none])) := h0
  have L0 : ∀ j, j < k → sh j = sh j := fun _ _ => rfl
  have H0 : ∀ j, k < j → j < k + 1 → sh j = SH j := fun j a b => by omega
  have R0 : ∀ j, j < k → σ j = σ j := fun _ _ => rfl
  have W0_0 : σ k 0 = 0 := by rw [hz]
  have W0_1 : σ k 1 = 0 := by rw [hz]
  have W0_5 : σ k 5 = 0 := by rw [hz]
  refine Sat.fobj 119 md119 pp119 0 rfl rfl rfl (pc := 0) rfl rfl (by omega) (by omega) ?_
  show Sat X 2 6 261 119 (iPost k 7 sh σ (fun σ' => MzC σ' k M00)) 4 [vr k] [] (k + 1) sh σ 0 0
  refine Sat.fint 119 md119 pp119 0 rfl rfl rfl (pc := 4) 9 rfl (Or.inl rfl) (by omega) (by omega) K0 rfl ?_
  have hst1 : ∃ t, t = st σ k 0 9 := ⟨_, rfl⟩
  obtain ⟨t1, et1⟩ := hst1
  have R1 : ∀ j, j < k → t1 j = σ j := fun j hj => (by rw [et1]; exact st_off _ _ _ (by omega) : t1 j = σ j).trans (R0 j hj)
  have W1_0 : t1 k 0 = 9 := by rw [et1]; exact st_hit
  have W1_1 : t1 k 1 = 0 := by rw [et1, st_mis (by omega)]; exact W0_1
  have W1_5 : t1 k 5 = 0 := by rw [et1, st_mis (by omega)]; exact W0_5
  have K1 := K0
  have L1 := L0
  have H1 := H0
  show Sat X 2 6 261 119 (iPost k 7 sh σ (fun σ' => MzC σ' k M00)) 10 [vr k] [] (k + 1) sh (st σ k 0 9) 0 0
  rw [← et1]
  show Sat X 2 6 261 119 (iPost k 7 sh σ (fun σ' => MzC σ' k M00)) 10 [vr k] [] (k + 1) sh t1 0 0
  refine Sat.fint 119 md119 pp119 0 rfl rfl rfl (pc := 10) 9 rfl (Or.inl rfl) (by omega) (by omega) K1 rfl ?_
  have hst2 : ∃ t, t = st t1 k 1 9 := ⟨_, rfl⟩
  obtain ⟨t2, et2⟩ := hst2
  have R2 : ∀ j, j < k → t2 j = σ j := fun j hj => (by rw [et2]; exact st_off _ _ _ (by omega) : t2 j = t1 j).trans (R1 j hj)
  have W2_0 : t2 k 0 = 9 := by rw [et2, st_mis (by omega)]; exact W1_0
  have W2_1 : t2 k 1 = 9 := by rw [et2]; exact st_hit
  have W2_5 : t2 k 5 = 0 := by rw [et2, st_mis (by omega)]; exact W1_5
  have K2 := K1
  have L2 := L1
  have H2 := H1
  show Sat X 2 6 261 119 (iPost k 7 sh σ (fun σ' => MzC σ' k M00)) 16 [vr k] [] (k + 1) sh (st t1 k 1 9) 0 0
  rw [← et2]
  show Sat X 2 6 261 119 (iPost k 7 sh σ (fun σ' => MzC σ' k M00)) 16 [vr k] [] (k + 1) sh t2 0 0
  refine Sat.farr 119 md119 pp119 0 rfl rfl rfl (pc := 16) 81 rfl rfl rfl (by omega) (by omega) (by omega) K2 (Nat.le_of_ble_eq_true rfl) (by omega) L2 H2 hk.2.1 (fun s3 t3 K3 L3 H3 A3 B3 => ?_)
  have K3 : s3 k = .inr (.inr (1, [none, none, some (some (k + 1)), some none, some none, none, some none, some none, some none])) := K3
  have R3 : ∀ j, j < k → t3 j = σ j := fun j hj => (B3 j (by omega)).trans (R2 j hj)
  have W3_0 : t3 k 0 = 9 := by rw [B3 k (by omega)]; exact W2_0
  have W3_1 : t3 k 1 = 9 := by rw [B3 k (by omega)]; exact W2_1
  have W3_5 : t3 k 5 = 0 := by rw [B3 k (by omega)]; exact W2_5
  show Sat X 2 6 261 119 (iPost k 7 sh σ (fun σ' => MzC σ' k M00)) 24 [vr k] [] (k + 2) s3 t3 1 81
  refine Sat.ffill 119 md119 pp119 0 rfl rfl rfl (pc := 24) (-1) rfl (by omega) (by omega) (by omega) K3 rfl ((H3 (k + 1) (by omega) (by omega)).trans hk.2.1) (by omega) (fun t4 Y4 B4 => ?_)
  have Y4 : ∀ j, 0 ≤ j → j < 81 → t4 (k + 1) j = (-1) := fun j a b => Y4 j a (by omega)
  have R4 : ∀ j, j < k → t4 j = σ j := fun j hj => (B4 j (by omega)).trans (R3 j hj)
  have W4_0 : t4 k 0 = 9 := by rw [B4 k (by omega)]; exact W3_0
  have W4_1 : t4 k 1 = 9 := by rw [B4 k (by omega)]; exact W3_1
  have W4_5 : t4 k 5 = 0 := by rw [B4 k (by omega)]; exact W3_5
  have K4 := K3
  have L4 := L3
  have H4 := H3
  show Sat X 2 6 261 119 (iPost k 7 sh σ (fun σ' => MzC σ' k M00)) 32 [vr k] [] (k + 2) s3 t4 1 81
  refine Sat.farr 119 md119 pp119 0 rfl rfl rfl (pc := 32) 81 rfl rfl rfl (by omega) (by omega) (by omega) K4 (Nat.le_of_ble_eq_true rfl) (by omega) L4 H4 hk.2.2.1 (fun s5 t5 K5 L5 H5 A5 B5 => ?_)
  have K5 : s5 k = .inr (.inr (1, [none, none, some (some (k + 1)), some (some (k + 2)), some none, none, some none, some none, some none])) := K5
  have R5 : ∀ j, j < k → t5 j = σ j := fun j hj => (B5 j (by omega)).trans (R4 j hj)
  have W5_0 : t5 k 0 = 9 := by rw [B5 k (by omega)]; exact W4_0
  have W5_1 : t5 k 1 = 9 := by rw [B5 k (by omega)]; exact W4_1
  have W5_5 : t5 k 5 = 0 := by rw [B5 k (by omega)]; exact W4_5
  have Y5 : ∀ j, 0 ≤ j → j < 81 → t5 (k + 1) j = (-1) := fun j a b => by rw [B5 (k + 1) (by omega)]; exact Y4 j a b
  have Z5_2 : t5 (k + 2) = (fun _ => 0) := A5
  show Sat X 2 6 261 119 (iPost k 7 sh σ (fun σ' => MzC σ' k M00)) 40 [vr k] [] (k + 3) s5 t5 2 162
  refine Sat.farr 119 md119 pp119 0 rfl rfl rfl (pc := 40) 81 rfl rfl rfl (by omega) (by omega) (by omega) K5 (Nat.le_of_ble_eq_true rfl) (by omega) L5 H5 hk.2.2.2.1 (fun s6 t6 K6 L6 H6 A6 B6 => ?_)
  have K6 : s6 k = .inr (.inr (1, [none, none, some (some (k + 1)), some (some (k + 2)), some (some (k + 3)), none, some none, some none, some none])) := K6
  have R6 : ∀ j, j < k → t6 j = σ j := fun j hj => (B6 j (by omega)).trans (R5 j hj)
  have W6_0 : t6 k 0 = 9 := by rw [B6 k (by omega)]; exact W5_0
  have W6_1 : t6 k 1 = 9 := by rw [B6 k (by omega)]; exact W5_1
  have W6_5 : t6 k 5 = 0 := by rw [B6 k (by omega)]; exact W5_5
  have Z6_2 : t6 (k + 2) = (fun _ => 0) := by rw [B6 (k + 2) (by omega)]; exact Z5_2
  have Y6 : ∀ j, 0 ≤ j → j < 81 → t6 (k + 1) j = (-1) := fun j a b => by rw [B6 (k + 1) (by omega)]; exact Y5 j a b
  have Z6_3 : t6 (k + 3) = (fun _ => 0) := A6
  show Sat X 2 6 261 119 (iPost k 7 sh σ (fun σ' => MzC σ' k M00)) 48 [vr k] [] (k + 4) s6 t6 3 243
  refine Sat.fint 119 md119 pp119 0 rfl rfl rfl (pc := 48) 0 rfl (Or.inl rfl) (by omega) (by omega) K6 rfl ?_
  have hst7 : ∃ t, t = st t6 k 5 0 := ⟨_, rfl⟩
  obtain ⟨t7, et7⟩ := hst7
  have R7 : ∀ j, j < k → t7 j = σ j := fun j hj => (by rw [et7]; exact st_off _ _ _ (by omega) : t7 j = t6 j).trans (R6 j hj)
  have W7_0 : t7 k 0 = 9 := by rw [et7, st_mis (by omega)]; exact W6_0
  have W7_1 : t7 k 1 = 9 := by rw [et7, st_mis (by omega)]; exact W6_1
  have W7_5 : t7 k 5 = 0 := by rw [et7]; exact st_hit
  have Z7_2 : t7 (k + 2) = (fun _ => 0) := by rw [et7, st_off _ _ _ (by omega)]; exact Z6_2
  have Z7_3 : t7 (k + 3) = (fun _ => 0) := by rw [et7, st_off _ _ _ (by omega)]; exact Z6_3
  have Y7 : ∀ j, 0 ≤ j → j < 81 → t7 (k + 1) j = (-1) := fun j a b => by rw [et7, st_off _ _ _ (by omega)]; exact Y6 j a b
  have K7 := K6
  have L7 := L6
  have H7 := H6
  show Sat X 2 6 261 119 (iPost k 7 sh σ (fun σ' => MzC σ' k M00)) 53 [vr k] [] (k + 4) s6 (st t6 k 5 0) 3 243
  rw [← et7]
  show Sat X 2 6 261 119 (iPost k 7 sh σ (fun σ' => MzC σ' k M00)) 53 [vr k] [] (k + 4) s6 t7 3 243
  refine Sat.farr 119 md119 pp119 0 rfl rfl rfl (pc := 53) 6 rfl rfl rfl (by omega) (by omega) (by omega) K7 (Nat.le_of_ble_eq_true rfl) (by omega) L7 H7 hk.2.2.2.2.1 (fun s8 t8 K8 L8 H8 A8 B8 => ?_)
  have K8 : s8 k = .inr (.inr (1, [none, none, some (some (k + 1)), some (some (k + 2)), some (some (k + 3)), none, some (some (k + 4)), some none, some none])) := K8
  have R8 : ∀ j, j < k → t8 j = σ j := fun j hj => (B8 j (by omega)).trans (R7 j hj)
  have W8_0 : t8 k 0 = 9 := by rw [B8 k (by omega)]; exact W7_0
  have W8_1 : t8 k 1 = 9 := by rw [B8 k (by omega)]; exact W7_1
  have W8_5 : t8 k 5 = 0 := by rw [B8 k (by omega)]; exact W7_5
  have Z8_2 : t8 (k + 2) = (fun _ => 0) := by rw [B8 (k + 2) (by omega)]; exact Z7_2
  have Z8_3 : t8 (k + 3) = (fun _ => 0) := by rw [B8 (k + 3) (by omega)]; exact Z7_3
  have Y8 : ∀ j, 0 ≤ j → j < 81 → t8 (k + 1) j = (-1) := fun j a b => by rw [B8 (k + 1) (by omega)]; exact Y7 j a b
  have Z8_4 : t8 (k + 4) = (fun _ => 0) := A8
  show Sat X 2 6 261 119 (iPost k 7 sh σ (fun σ' => MzC σ' k M00)) 61 [vr k] [] (k + 5) s8 t8 4 249
  refine Sat.farr 119 md119 pp119 0 rfl rfl rfl (pc := 61) 6 rfl rfl rfl (by omega) (by omega) (by omega) K8 (Nat.le_of_ble_eq_true rfl) (by omega) L8 H8 hk.2.2.2.2.2.1 (fun s9 t9 K9 L9 H9 A9 B9 => ?_)
  have K9 : s9 k = .inr (.inr (1, [none, none, some (some (k + 1)), some (some (k + 2)), some (some (k + 3)), none, some (some (k + 4)), some (some (k + 5)), some none])) := K9
  have R9 : ∀ j, j < k → t9 j = σ j := fun j hj => (B9 j (by omega)).trans (R8 j hj)
  have W9_0 : t9 k 0 = 9 := by rw [B9 k (by omega)]; exact W8_0
  have W9_1 : t9 k 1 = 9 := by rw [B9 k (by omega)]; exact W8_1
  have W9_5 : t9 k 5 = 0 := by rw [B9 k (by omega)]; exact W8_5
  have Z9_2 : t9 (k + 2) = (fun _ => 0) := by rw [B9 (k + 2) (by omega)]; exact Z8_2
  have Z9_3 : t9 (k + 3) = (fun _ => 0) := by rw [B9 (k + 3) (by omega)]; exact Z8_3
  have Z9_4 : t9 (k + 4) = (fun _ => 0) := by rw [B9 (k + 4) (by omega)]; exact Z8_4
  have Y9 : ∀ j, 0 ≤ j → j < 81 → t9 (k + 1) j = (-1) := fun j a b => by rw [B9 (k + 1) (by omega)]; exact Y8 j a b
  have Z9_5 : t9 (k + 5) = (fun _ => 0) := A9
  show Sat X 2 6 261 119 (iPost k 7 sh σ (fun σ' => MzC σ' k M00)) 69 [vr k] [] (k + 6) s9 t9 5 255
  refine Sat.farr 119 md119 pp119 0 rfl rfl rfl (pc := 69) 6 rfl rfl rfl (by omega) (by omega) (by omega) K9 (Nat.le_of_ble_eq_true rfl) (by omega) L9 H9 hk.2.2.2.2.2.2 (fun s10 t10 K10 L10 H10 A10 B10 => ?_)
  have K10 : s10 k = .inr (.inr (1, [none, none, some (some (k + 1)), some (some (k + 2)), some (some (k + 3)), none, some (some (k + 4)), some (some (k + 5)), some (some (k + 6))])) := K10
  have R10 : ∀ j, j < k → t10 j = σ j := fun j hj => (B10 j (by omega)).trans (R9 j hj)
  have W10_0 : t10 k 0 = 9 := by rw [B10 k (by omega)]; exact W9_0
  have W10_1 : t10 k 1 = 9 := by rw [B10 k (by omega)]; exact W9_1
  have W10_5 : t10 k 5 = 0 := by rw [B10 k (by omega)]; exact W9_5
  have Z10_2 : t10 (k + 2) = (fun _ => 0) := by rw [B10 (k + 2) (by omega)]; exact Z9_2
  have Z10_3 : t10 (k + 3) = (fun _ => 0) := by rw [B10 (k + 3) (by omega)]; exact Z9_3
  have Z10_4 : t10 (k + 4) = (fun _ => 0) := by rw [B10 (k + 4) (by omega)]; exact Z9_4
  have Z10_5 : t10 (k + 5) = (fun _ => 0) := by rw [B10 (k + 5) (by omega)]; exact Z9_5
  have Y10 : ∀ j, 0 ≤ j → j < 81 → t10 (k + 1) j = (-1) := fun j a b => by rw [B10 (k + 1) (by omega)]; exact Y9 j a b
  have Z10_6 : t10 (k + 6) = (fun _ => 0) := A10
  show Sat X 2 6 261 119 (iPost k 7 sh σ (fun σ' => MzC σ' k M00)) 77 [vr k] [] (k + 7) s10 t10 6 261
  refine Sat.run 119 md119 pp119 0 rfl rfl rfl (by omega) (by omega) 2 77 ?_
  show True ∧ iPost k 7 sh σ (fun σ' => MzC σ' k M00) none (k + 7) s10 t10
  refine ⟨trivial, rfl, by omega, L10, fun j a b => ?_, R10, ?_⟩
  · by_cases e : j = k
    · subst e; rw [K10]; exact (hk.1).symm
    · exact H10 j (by omega) (by omega)
  · refine ⟨by rw [W10_0]; rfl, by rw [W10_1]; rfl, by rw [W10_5]; rfl, fun f a b => ⟨?_, ?_, ?_⟩, fun l a b => ⟨?_, ?_, ?_⟩⟩
    · rw [Y10 f a b, m0_k a b]
    · rw [Z10_2, m0_z (by omega)]
    · rw [Z10_3, m0_z (by omega)]
    · rw [Z10_4, m0_z (by omega)]
    · rw [Z10_5, m0_z (by omega)]
    · rw [Z10_6, m0_z (by omega)]
theorem i_X2 : IC X 3 141 5420 139 2 15 142 (fun σ' => σ' 15 1 = 0 ∧ σ' 15 2 = 0) := by
  intro sh σ h0 hz
  refine Call.mk md139 (by decide) rfl (by omega) (Nat.le_of_ble_eq_true rfl) ?_
  intro hin hav
  have eQ : ∃ Q, Q = iPost 15 142 sh σ (fun σ' => σ' 15 1 = 0 ∧ σ' 15 2 = 0) := ⟨_, rfl⟩
  obtain ⟨Q, eQ⟩ := eQ
  rw [← eQ]
  show Sat X 3 141 5420 139 Q 0 [vr 15, vx 9] [] 16 sh σ 0 0
  have K0 : sh 15 = .inr (.inr (2, [some none, none, none])) := h0
  refine Sat.fobj 139 md139 pp139 0 rfl rfl rfl (pc := 0) rfl rfl (by omega) (by omega) ?_
  show Sat X 3 141 5420 139 Q 4 [vr 15, vx 9] [] 16 sh σ 0 0
  refine Sat.fanew 139 md139 pp139 0 rfl rfl rfl (pc := 4) 20 rfl rfl rfl (by omega) (by omega) (by omega) K0 (Nat.le_of_ble_eq_true rfl) (by omega) (fun s1 K1 A1 B1 => ?_)
  have K1 : s1 15 = .inr (.inr (2, [some (some 16), none, none])) := K1
  show Sat X 3 141 5420 139 Q 13 [vr 15, vx 9] [] 17 s1 σ 1 20
  have loop : ∀ (m i : Nat) (s : Nat → Shp) (t : Sg) (g : Nat → Option Nat), i + m = 20 → s 15 = .inr (.inr (2, [some (some 16), none, none])) → s 16 = .inr (.inl (20, g)) → (∀ j, j < i → g j = some (17 + 7 * j)) → (∀ j, j < 15 → s j = sh j) → (∀ j, 17 ≤ j → j < 17 + 7 * i → s j = SH j) → (∀ j, j ≤ 15 → t j = σ j) → Sat X 3 141 5420 139 Q 15 [vr 15, vi (i : Int)] [] (17 + 7 * i) s t (1 + (1 + 6) * i) (20 + (9 + 261) * i) := by
    intro m
    induction m with
    | zero =>
      intro i s t g hi hk ha hg hl hH hR
      have e : i = 20 := by omega
      have out : Sat X 3 141 5420 139 Q 40 [vr 15, vi (i : Int)] [] (17 + 7 * i) s t (1 + (1 + 6) * i) (20 + (9 + 261) * i) := by
        refine Sat.re (fun j => some (17 + 7 * j)) ha (fun j hj => hg j (by omega)) (fun s2 ha2 hs2 => ?_)
        have hk2 : s2 15 = .inr (.inr (2, [some (some 16), none, none])) := by rw [hs2 15 (by omega)]; exact hk
        refine Sat.fint 139 md139 pp139 0 rfl rfl rfl (pc := 40) 0 rfl (Or.inl rfl) (by omega) (by omega) hk2 rfl ?_
        show Sat X 3 141 5420 139 Q 45 [vr 15, vi (i : Int)] [] (17 + 7 * i) s2 (st t 15 1 0) (1 + (1 + 6) * i) (20 + (9 + 261) * i)
        refine Sat.fint 139 md139 pp139 0 rfl rfl rfl (pc := 45) 0 rfl (Or.inl rfl) (by omega) (by omega) hk2 rfl ?_
        show Sat X 3 141 5420 139 Q 50 [vr 15, vi (i : Int)] [] (17 + 7 * i) s2 (st (st t 15 1 0) 15 2 0) (1 + (1 + 6) * i) (20 + (9 + 261) * i)
        refine Sat.run 139 md139 pp139 0 rfl rfl rfl (by omega) (by omega) 2 50 ?_
        show True ∧ Q none (17 + 7 * i) s2 (st (st t 15 1 0) 15 2 0)
        rw [eQ]
        refine ⟨trivial, rfl, by omega, fun j hj => by rw [hs2 j (by omega)]; exact hl j hj, fun j a b => ?_, fun j hj => ?_, ?_, st_hit⟩
        · by_cases e : j = 15
          · rw [e, hk2]; rfl
          · by_cases e2 : j = 16
            · rw [e2, ha2]; rfl
            · rw [hs2 j e2]; exact hH j (by omega) (by omega)
        · rw [st_off _ _ _ (by omega), st_off _ _ _ (by omega)]; exact hR j (by omega)
        · rw [st_mis (by omega)]; exact st_hit
      refine Sat.run 139 md139 pp139 0 rfl rfl rfl (by omega) (by omega) 3 15 ?_
      simp only [ev_hd, ev_sf, ev_hd0, ev_sf0, ↓ev_0, ↓ev_lx, ↓ev_7, ↓ev_8, ↓ev_9, ↓ev_33, ↓ev_11, ↓ev_12, ↓ev_12x, ↓ev_13, ↓ev_14, ↓ev_15, ↓ev_16, ↓ev_18, ↓ev_18x, ↓ev_22, ↓ev_23, ↓ev_24, ↓ev_32, ↓ev_25, ↓ev_26, ↓ev_27, ↓ev_28, ↓ev_31, ↓ev_w1, ↓ev_w2, ↓ev_p1, ↓ev_p2, ↓ev_p3, ↓ev_p4, ↓ev_p5, ↓ev_p6, ↓ev_p0, ev_r0, ev_r1, ev_r2, ↓ev16, ↓ev30, ev_34, ↓fl_0, ↓fr_0, ↓fs_0, ↓ft_0, ↓fc_0, ↓fl_1, ↓fr_1, ↓fs_1, ↓ft_1, ↓fc_1, ↓fl_2, ↓fr_2, ↓fs_2, ↓ft_2, ↓fc_2, ↓fl_3, ↓fr_3, ↓fs_3, ↓ft_3, ↓fc_3, ↓fl_4, ↓fr_4, ↓fs_4, ↓ft_4, ↓fc_4, ↓fl_5, ↓fr_5, ↓fs_5, ↓ft_5, ↓fc_5, ↓fl_6, ↓fr_6, ↓fs_6, ↓ft_6, ↓fc_6, ↓fl_7, ↓fr_7, ↓fs_7, ↓ft_7, ↓fc_7, ↓fb_0, ↓fb_1, ↓fb_2, ↓fb_3, ↓fb_4, ↓fb_5, ↓fb_6, ↓fb_7, ↓fb_8, ↓fb_9, ↓fb_10, ↓f5_0, ↓f6_0, ↓f5_1, ↓f6_1, ↓f5_2, ↓f6_2, ↓f5_3, ↓f6_3, ↓f5_4, ↓f6_4, ↓f5_5, ↓f6_5, ↓f_s, ↓f_cf, ↓f_ct, ↓gf0_0, ↓gf0_1, ↓gf0_2, ↓gf0_3, ↓gf0_4, ↓gf0_5, ↓gf0_6, ↓gf0_7, ↓gf0_8, ↓gf0_9, ↓gf0_10, ↓pf0_11, ↓gf0_11, ↓ic0, ↓gf15_0, ↓pf15_1, ↓gf15_1, ↓pf15_2, ↓gf15_2, ↓ic15, ↓gf165_0, ↓gf165_1, ↓pf165_2, ↓gf165_2, ↓gf165_3, ↓gf165_4, ↓ic165, ↓ar166, ↓al166, ↓ii166, ↓ar167, ↓al167, ↓ii167, ↓ar168, ↓al168, ↓ii168, ↓gf171_0, ↓pf171_1, ↓gf171_1, ↓pf171_2, ↓gf171_2, ↓gf171_3, ↓ic171, ↓ar172, ↓al172, ↓ii172, ↓gf179_0, ↓gf179_1, ↓gf179_2, ↓pf179_3, ↓gf179_3, ↓pf179_4, ↓gf179_4, ↓pf179_5, ↓gf179_5, ↓pf179_6, ↓gf179_6, ↓ic179, ↓ar193, ↓al193, ↓ii193, ↓gf197_0, ↓gf197_1, ↓gf197_2, ↓ic197, ↓ar207, ↓al207, ↓ii207, ↓gf208_0, ↓gf208_1, ↓gf208_2, ↓ic208, ↓ar209, ↓al209, ↓ii209, ↓ar210, ↓al210, ↓ii210, ↓ar211, ↓al211, ↓ii211, ↓pf1_0, ↓gf1_0, ↓pf1_1, ↓gf1_1, ↓gf1_2, ↓gf1_3, ↓gf1_4, ↓pf1_5, ↓gf1_5, ↓gf1_6, ↓gf1_7, ↓gf1_8, ↓ic1, ↓ar2, ↓al2, ↓ii2, ↓ar3, ↓al3, ↓ii3, ↓ar4, ↓al4, ↓ii4, ↓ar5, ↓al5, ↓ii5, ↓ar6, ↓al6, ↓ii6, ↓ar7, ↓al7, ↓ii7, ↓pf8_0, ↓gf8_0, ↓pf8_1, ↓gf8_1, ↓gf8_2, ↓gf8_3, ↓gf8_4, ↓pf8_5, ↓gf8_5, ↓gf8_6, ↓gf8_7, ↓gf8_8, ↓ic8, ↓ar9, ↓al9, ↓ii9, ↓ar10, ↓al10, ↓ii10, ↓ar11, ↓al11, ↓ii11, ↓ar12, ↓al12, ↓ii12, ↓ar13, ↓al13, ↓ii13, ↓ar14, ↓al14, ↓ii14, ↓gf157_0, ↓pf157_1, ↓gf157_1, ↓pf157_2, ↓gf157_2, ↓ic157, ↓ar158, ↓al158, ↓ii158, ↓gf159_0, ↓pf159_1, ↓gf159_1, ↓gf159_2, ↓gf159_3, ↓gf159_4, ↓pf159_5, ↓gf159_5, ↓pf159_6, ↓gf159_6, ↓gf159_7, ↓ic159, ↓ar160, ↓al160, ↓ii160, ↓ar161, ↓al161, ↓ii161, ↓ar162, ↓al162, ↓ii162, ↓ar163, ↓al163, ↓ii163, ↓ar164, ↓al164, ↓ii164, ↓gf169_0, ↓pf169_1, ↓gf169_1, ↓pf169_2, ↓gf169_2, ↓ic169, ↓ar170, ↓al170, ↓ii170, ↓gf173_0, ↓pf173_1, ↓gf173_1, ↓gf173_2, ↓gf173_3, ↓gf173_4, ↓pf173_5, ↓gf173_5, ↓pf173_6, ↓gf173_6, ↓gf173_7, ↓ic173, ↓ar174, ↓al174, ↓ii174, ↓ar175, ↓al175, ↓ii175, ↓ar176, ↓al176, ↓ii176, ↓ar177, ↓al177, ↓ii177, ↓ar178, ↓al178, ↓ii178, ↓pf180_0, ↓gf180_0, ↓pf180_1, ↓gf180_1, ↓gf180_2, ↓gf180_3, ↓gf180_4, ↓pf180_5, ↓gf180_5, ↓gf180_6, ↓gf180_7, ↓gf180_8, ↓ic180, ↓ar181, ↓al181, ↓ii181, ↓ar182, ↓al182, ↓ii182, ↓ar183, ↓al183, ↓ii183, ↓ar184, ↓al184, ↓ii184, ↓ar185, ↓al185, ↓ii185, ↓ar186, ↓al186, ↓ii186, ↓gf187_0, ↓pf187_1, ↓gf187_1, ↓gf187_2, ↓gf187_3, ↓gf187_4, ↓pf187_5, ↓gf187_5, ↓pf187_6, ↓gf187_6, ↓gf187_7, ↓ic187, ↓ar188, ↓al188, ↓ii188, ↓ar189, ↓al189, ↓ii189, ↓ar190, ↓al190, ↓ii190, ↓ar191, ↓al191, ↓ii191, ↓ar192, ↓al192, ↓ii192, ↓gf194_0, ↓pf194_1, ↓gf194_1, ↓gf194_2, ↓ic194, ↓ar195, ↓al195, ↓ii195, ↓ar196, ↓al196, ↓ii196, ↓gf198_0, ↓pf198_1, ↓gf198_1, ↓gf198_2, ↓ic198, ↓ar199, ↓al199, ↓ii199, ↓ar200, ↓al200, ↓ii200, ↓gf201_0, ↓pf201_1, ↓gf201_1, ↓gf201_2, ↓gf201_3, ↓gf201_4, ↓pf201_5, ↓gf201_5, ↓pf201_6, ↓gf201_6, ↓gf201_7, ↓ic201, ↓ar202, ↓al202, ↓ii202, ↓ar203, ↓al203, ↓ii203, ↓ar204, ↓al204, ↓ii204, ↓ar205, ↓al205, ↓ii205, ↓ar206, ↓al206, ↓ii206, cond_true, cond_false, true_and, and_true, Int.cast_ofNat_Int, Nat.reduceLT, Nat.reduceLeDiff, Nat.reduceBEq, Int.reduceLT, Int.reduceLE, Int.reduceEq, Int.reduceAdd, Nat.reduceEqDiff, not_true_eq_false, not_false_eq_true, false_implies, forall_const, eq_self, Nat.reduceAdd, Option.toList_some, Option.toList_none, List.cons_append, List.nil_append, List.length_cons, List.length_nil, Bool.false_eq_true, reduceCtorEq, true_or, or_true, false_or, or_false, Int.reduceNeg, implies_true, true_implies, xl1, xl2, xl3, xf1, xf2, xf3, p139_0, p139_15, p139_40, sq139_0, sq139_15, sq139_40, f_0]
      exact ⟨fun _ => out, fun q => by omega⟩
    | succ m ih =>
      intro i s t g hi hk ha hg hl hH hR
      have gk : ∀ (KA : AV → Prop), gfl (s 15) 2 0 (t 15) KA = KA (vr 16) := fun KA => by rw [hk]; exact propext ⟨fun q => q.2, fun q => ⟨rfl, q⟩⟩
      refine Sat.run 139 md139 pp139 0 rfl rfl rfl (by omega) (by omega) 6 15 ?_
      simp only [ev_hd, ev_sf, ev_hd0, ev_sf0, ↓ev_0, ↓ev_lx, ↓ev_7, ↓ev_8, ↓ev_9, ↓ev_33, ↓ev_11, ↓ev_12, ↓ev_12x, ↓ev_13, ↓ev_14, ↓ev_15, ↓ev_16, ↓ev_18, ↓ev_18x, ↓ev_22, ↓ev_23, ↓ev_24, ↓ev_32, ↓ev_25, ↓ev_26, ↓ev_27, ↓ev_28, ↓ev_31, ↓ev_w1, ↓ev_w2, ↓ev_p1, ↓ev_p2, ↓ev_p3, ↓ev_p4, ↓ev_p5, ↓ev_p6, ↓ev_p0, ev_r0, ev_r1, ev_r2, ↓ev16, ↓ev30, ev_34, ↓fl_0, ↓fr_0, ↓fs_0, ↓ft_0, ↓fc_0, ↓fl_1, ↓fr_1, ↓fs_1, ↓ft_1, ↓fc_1, ↓fl_2, ↓fr_2, ↓fs_2, ↓ft_2, ↓fc_2, ↓fl_3, ↓fr_3, ↓fs_3, ↓ft_3, ↓fc_3, ↓fl_4, ↓fr_4, ↓fs_4, ↓ft_4, ↓fc_4, ↓fl_5, ↓fr_5, ↓fs_5, ↓ft_5, ↓fc_5, ↓fl_6, ↓fr_6, ↓fs_6, ↓ft_6, ↓fc_6, ↓fl_7, ↓fr_7, ↓fs_7, ↓ft_7, ↓fc_7, ↓fb_0, ↓fb_1, ↓fb_2, ↓fb_3, ↓fb_4, ↓fb_5, ↓fb_6, ↓fb_7, ↓fb_8, ↓fb_9, ↓fb_10, ↓f5_0, ↓f6_0, ↓f5_1, ↓f6_1, ↓f5_2, ↓f6_2, ↓f5_3, ↓f6_3, ↓f5_4, ↓f6_4, ↓f5_5, ↓f6_5, ↓f_s, ↓f_cf, ↓f_ct, ↓gf0_0, ↓gf0_1, ↓gf0_2, ↓gf0_3, ↓gf0_4, ↓gf0_5, ↓gf0_6, ↓gf0_7, ↓gf0_8, ↓gf0_9, ↓gf0_10, ↓pf0_11, ↓gf0_11, ↓ic0, ↓gf15_0, ↓pf15_1, ↓gf15_1, ↓pf15_2, ↓gf15_2, ↓ic15, ↓gf165_0, ↓gf165_1, ↓pf165_2, ↓gf165_2, ↓gf165_3, ↓gf165_4, ↓ic165, ↓ar166, ↓al166, ↓ii166, ↓ar167, ↓al167, ↓ii167, ↓ar168, ↓al168, ↓ii168, ↓gf171_0, ↓pf171_1, ↓gf171_1, ↓pf171_2, ↓gf171_2, ↓gf171_3, ↓ic171, ↓ar172, ↓al172, ↓ii172, ↓gf179_0, ↓gf179_1, ↓gf179_2, ↓pf179_3, ↓gf179_3, ↓pf179_4, ↓gf179_4, ↓pf179_5, ↓gf179_5, ↓pf179_6, ↓gf179_6, ↓ic179, ↓ar193, ↓al193, ↓ii193, ↓gf197_0, ↓gf197_1, ↓gf197_2, ↓ic197, ↓ar207, ↓al207, ↓ii207, ↓gf208_0, ↓gf208_1, ↓gf208_2, ↓ic208, ↓ar209, ↓al209, ↓ii209, ↓ar210, ↓al210, ↓ii210, ↓ar211, ↓al211, ↓ii211, ↓pf1_0, ↓gf1_0, ↓pf1_1, ↓gf1_1, ↓gf1_2, ↓gf1_3, ↓gf1_4, ↓pf1_5, ↓gf1_5, ↓gf1_6, ↓gf1_7, ↓gf1_8, ↓ic1, ↓ar2, ↓al2, ↓ii2, ↓ar3, ↓al3, ↓ii3, ↓ar4, ↓al4, ↓ii4, ↓ar5, ↓al5, ↓ii5, ↓ar6, ↓al6, ↓ii6, ↓ar7, ↓al7, ↓ii7, ↓pf8_0, ↓gf8_0, ↓pf8_1, ↓gf8_1, ↓gf8_2, ↓gf8_3, ↓gf8_4, ↓pf8_5, ↓gf8_5, ↓gf8_6, ↓gf8_7, ↓gf8_8, ↓ic8, ↓ar9, ↓al9, ↓ii9, ↓ar10, ↓al10, ↓ii10, ↓ar11, ↓al11, ↓ii11, ↓ar12, ↓al12, ↓ii12, ↓ar13, ↓al13, ↓ii13, ↓ar14, ↓al14, ↓ii14, ↓gf157_0, ↓pf157_1, ↓gf157_1, ↓pf157_2, ↓gf157_2, ↓ic157, ↓ar158, ↓al158, ↓ii158, ↓gf159_0, ↓pf159_1, ↓gf159_1, ↓gf159_2, ↓gf159_3, ↓gf159_4, ↓pf159_5, ↓gf159_5, ↓pf159_6, ↓gf159_6, ↓gf159_7, ↓ic159, ↓ar160, ↓al160, ↓ii160, ↓ar161, ↓al161, ↓ii161, ↓ar162, ↓al162, ↓ii162, ↓ar163, ↓al163, ↓ii163, ↓ar164, ↓al164, ↓ii164, ↓gf169_0, ↓pf169_1, ↓gf169_1, ↓pf169_2, ↓gf169_2, ↓ic169, ↓ar170, ↓al170, ↓ii170, ↓gf173_0, ↓pf173_1, ↓gf173_1, ↓gf173_2, ↓gf173_3, ↓gf173_4, ↓pf173_5, ↓gf173_5, ↓pf173_6, ↓gf173_6, ↓gf173_7, ↓ic173, ↓ar174, ↓al174, ↓ii174, ↓ar175, ↓al175, ↓ii175, ↓ar176, ↓al176, ↓ii176, ↓ar177, ↓al177, ↓ii177, ↓ar178, ↓al178, ↓ii178, ↓pf180_0, ↓gf180_0, ↓pf180_1, ↓gf180_1, ↓gf180_2, ↓gf180_3, ↓gf180_4, ↓pf180_5, ↓gf180_5, ↓gf180_6, ↓gf180_7, ↓gf180_8, ↓ic180, ↓ar181, ↓al181, ↓ii181, ↓ar182, ↓al182, ↓ii182, ↓ar183, ↓al183, ↓ii183, ↓ar184, ↓al184, ↓ii184, ↓ar185, ↓al185, ↓ii185, ↓ar186, ↓al186, ↓ii186, ↓gf187_0, ↓pf187_1, ↓gf187_1, ↓gf187_2, ↓gf187_3, ↓gf187_4, ↓pf187_5, ↓gf187_5, ↓pf187_6, ↓gf187_6, ↓gf187_7, ↓ic187, ↓ar188, ↓al188, ↓ii188, ↓ar189, ↓al189, ↓ii189, ↓ar190, ↓al190, ↓ii190, ↓ar191, ↓al191, ↓ii191, ↓ar192, ↓al192, ↓ii192, ↓gf194_0, ↓pf194_1, ↓gf194_1, ↓gf194_2, ↓ic194, ↓ar195, ↓al195, ↓ii195, ↓ar196, ↓al196, ↓ii196, ↓gf198_0, ↓pf198_1, ↓gf198_1, ↓gf198_2, ↓ic198, ↓ar199, ↓al199, ↓ii199, ↓ar200, ↓al200, ↓ii200, ↓gf201_0, ↓pf201_1, ↓gf201_1, ↓gf201_2, ↓gf201_3, ↓gf201_4, ↓pf201_5, ↓gf201_5, ↓pf201_6, ↓gf201_6, ↓gf201_7, ↓ic201, ↓ar202, ↓al202, ↓ii202, ↓ar203, ↓al203, ↓ii203, ↓ar204, ↓al204, ↓ii204, ↓ar205, ↓al205, ↓ii205, ↓ar206, ↓al206, ↓ii206, cond_true, cond_false, true_and, and_true, Int.cast_ofNat_Int, Nat.reduceLT, Nat.reduceLeDiff, Nat.reduceBEq, Int.reduceLT, Int.reduceLE, Int.reduceEq, Int.reduceAdd, Nat.reduceEqDiff, not_true_eq_false, not_false_eq_true, false_implies, forall_const, eq_self, Nat.reduceAdd, Option.toList_some, Option.toList_none, List.cons_append, List.nil_append, List.length_cons, List.length_nil, Bool.false_eq_true, reduceCtorEq, true_or, or_true, false_or, or_false, Int.reduceNeg, implies_true, true_implies, xl1, xl2, xl3, xf1, xf2, xf3, p139_0, p139_15, p139_40, sq139_0, sq139_15, sq139_40, f_0, gk]
      refine ⟨fun q => by omega, fun _ => ?_⟩
      refine Sat.new (q := (RX1, TX1, 9)) (mid := 139) (md := md139) (P := pp139) rfl rfl (pc := 26) rfl rfl (by omega) (by show 20 + (9 + 261) * i + 9 ≤ 5420; omega) (fun s2 t2 e1 e2 e3 e4 => ?_)
      show Sat X 3 141 5420 139 Q 29 [vr 15, vi (i : Int)] [vr (17 + 7 * i), vi (i : Int), vr 16] (17 + 7 * i + 1) s2 t2 (1 + (1 + 6) * i + 1) (20 + (9 + 261) * i + 9)
      refine Sat.run 139 md139 pp139 0 rfl rfl rfl (by omega) (by omega) 2 29 ?_
      show isC (s2 (17 + 7 * i)) 1 ∧ CKm X 3 141 5420 139 Q (17 + 7 * i + 1) s2 (1 + (1 + 6) * i + 1) (20 + (9 + 261) * i + 9) 119 [vr (17 + 7 * i)] 33 [vr 15, vi (i : Int)] [vr (17 + 7 * i), vi (i : Int), vr 16] t2
      refine ⟨by rw [e1]; rfl, 2, 6, 261, iPost (17 + 7 * i) 7 s2 t2 (fun σ' => MzC σ' (17 + 7 * i) M00), by omega, by omega, by omega, Nat.le_of_ble_eq_true rfl, i_X1 (is_past i (by omega)) s2 t2 e1 e3, fun r n' sh' σ' hi2 hv hq => ?_⟩
      obtain ⟨rfl, rfl, g2, g3, g4, g5⟩ := hq
      show Sat X 3 141 5420 139 Q 33 [vr 15, vi (i : Int)] [vr (17 + 7 * i), vi (i : Int), vr 16] (17 + 7 * i + 7) sh' σ' (1 + (1 + 6) * i + 1 + 6) (20 + (9 + 261) * i + 9 + 261)
      refine Sat.aast (mid := 139) (md := md139) (P := pp139) rfl rfl (pc := 33) rfl (by rw [g2 16 (by omega), e2 16 (by omega)]; exact ha) ((g3 (17 + 7 * i) (by omega) (by omega)).trans (is_past i (by omega)).1) (by omega) (by omega) (fun s3 u1 u2 => ?_)
      show Sat X 3 141 5420 139 Q 34 [vr 15, vi (i : Int)] [] (17 + 7 * i + 7) s3 σ' (1 + (1 + 6) * i + 1 + 6) (20 + (9 + 261) * i + 9 + 261)
      have nxt := ih (i + 1) s3 σ' (va_up g i (some (17 + 7 * i))) (by omega) (by rw [u2 15 (by omega), g2 15 (by omega), e2 15 (by omega)]; exact hk) u1 (fun j hj => ?_) (fun j hj => by rw [u2 j (by omega), g2 j (by omega), e2 j (by omega)]; exact hl j hj) (fun j a b => ?_) (fun j hj => by rw [g4 j (by omega), e4 j (by omega)]; exact hR j hj)
      · rw [show 17 + 7 * (i + 1) = 17 + 7 * i + 7 from by omega, show 1 + (1 + 6) * (i + 1) = 1 + (1 + 6) * i + 1 + 6 from by omega, show 20 + (9 + 261) * (i + 1) = 20 + (9 + 261) * i + 9 + 261 from by omega] at nxt
        refine Sat.run 139 md139 pp139 0 rfl rfl rfl (by omega) (by omega) 2 34 ?_
        show InR ((i : Int) + 1) ∧ Sat X 3 141 5420 139 Q 15 [vr 15, vi ((i : Int) + 1)] [] (17 + 7 * i + 7) s3 σ' (1 + (1 + 6) * i + 1 + 6) (20 + (9 + 261) * i + 9 + 261)
        exact ⟨by unfold InR; omega, nxt⟩
      · unfold va_up
        by_cases e : j = i
        · rw [if_pos e, e]
        · rw [if_neg e]; exact hg j (by omega)
      · rw [u2 j (by omega)]
        by_cases e : j < 17 + 7 * i
        · rw [g2 j e, e2 j (by omega)]; exact hH j a e
        · exact g3 j (by omega) (by omega)
  refine Sat.run 139 md139 pp139 0 rfl rfl rfl (by omega) (by omega) 2 13 ?_
  show Sat X 3 141 5420 139 Q 15 [vr 15, vi 0] [] 17 s1 σ 1 20
  exact loop 20 0 s1 σ (fun _ => none) (by omega) K1 A1 (fun j hj => by omega) (fun j hj => B1 j (by omega) (by omega)) (fun j a b => by omega) (fun _ _ => rfl)
theorem i_X7 : IC X 3 14 1179 164 7 179 15 (fun σ' => SpOK σ' 187 0) := by
  intro sh σ h0 hz
  refine Call.mk md164 (by decide) rfl (by omega) (Nat.le_of_ble_eq_true rfl) ?_
  intro hin hav
  show Sat X 3 14 1179 164 (iPost 179 15 sh σ (fun σ' => SpOK σ' 187 0)) 0 [vr 179] [] (180) sh σ 0 0
  have K0 : sh 179 = .inr (.inr (7, [some none, some none, some none, none, none, none, none])) := h0
  have L0 : ∀ j, j < 179 → sh j = sh j := fun _ _ => rfl
  have H0 : ∀ j, 179 < j → j < 180 → sh j = SH j := fun j a b => by omega
  have R0 : ∀ j, j < 179 → σ j = σ j := fun _ _ => rfl
  have W0_3 : σ 179 3 = 0 := by rw [hz]
  have W0_4 : σ 179 4 = 0 := by rw [hz]
  have W0_5 : σ 179 5 = 0 := by rw [hz]
  have W0_6 : σ 179 6 = 0 := by rw [hz]
  refine Sat.fobj 164 md164 pp164 0 rfl rfl rfl (pc := 0) rfl rfl (by omega) (by omega) ?_
  show Sat X 3 14 1179 164 (iPost 179 15 sh σ (fun σ' => SpOK σ' 187 0)) 4 [vr 179] [] (180) sh σ 0 0
  refine Sat.fnew 164 md164 pp164 0 rfl rfl rfl (pc := 4) rfl rfl rfl rfl (q := (RX1, TX1, 9)) rfl (i_X1 ismz180) (by omega) (by omega) (by show 0 + 1 + 6 ≤ 14; omega) (by show 0 + 9 + 261 ≤ 1179; omega) K0 (Nat.le_of_ble_eq_true rfl) (by omega) L0 H0 (fun s1 t1 K1 L1 H1 B1 F1 => ?_)
  have K1 : s1 179 = .inr (.inr (7, [some (some (180)), some none, some none, none, none, none, none])) := K1
  have R1 : ∀ j, j < 179 → t1 j = σ j := fun j hj => (B1 j (by omega)).trans (R0 j hj)
  have W1_3 : t1 179 3 = 0 := by rw [B1 179 (by omega)]; exact W0_3
  have W1_4 : t1 179 4 = 0 := by rw [B1 179 (by omega)]; exact W0_4
  have W1_5 : t1 179 5 = 0 := by rw [B1 179 (by omega)]; exact W0_5
  have W1_6 : t1 179 6 = 0 := by rw [B1 179 (by omega)]; exact W0_6
  show Sat X 3 14 1179 164 (iPost 179 15 sh σ (fun σ' => SpOK σ' 187 0)) 15 [vr 179] [] (187) s1 t1 7 270
  refine Sat.fnew 164 md164 pp164 0 rfl rfl rfl (pc := 15) rfl rfl rfl rfl (q := (RX6, TX6, 8)) rfl (i_X6 issp187) (by omega) (by omega) (by show 7 + 1 + 5 ≤ 14; omega) (by show 270 + 8 + 891 ≤ 1179; omega) K1 (Nat.le_of_ble_eq_true rfl) (by omega) L1 H1 (fun s2 t2 K2 L2 H2 B2 F2 => ?_)
  have K2 : s2 179 = .inr (.inr (7, [some (some (180)), some (some (187)), some none, none, none, none, none])) := K2
  have R2 : ∀ j, j < 179 → t2 j = σ j := fun j hj => (B2 j (by omega)).trans (R1 j hj)
  have W2_3 : t2 179 3 = 0 := by rw [B2 179 (by omega)]; exact W1_3
  have W2_4 : t2 179 4 = 0 := by rw [B2 179 (by omega)]; exact W1_4
  have W2_5 : t2 179 5 = 0 := by rw [B2 179 (by omega)]; exact W1_5
  have W2_6 : t2 179 6 = 0 := by rw [B2 179 (by omega)]; exact W1_6
  have S2 := F2
  show Sat X 3 14 1179 164 (iPost 179 15 sh σ (fun σ' => SpOK σ' 187 0)) 26 [vr 179] [] (193) s2 t2 13 1169
  refine Sat.farr 164 md164 pp164 0 rfl rfl rfl (pc := 26) 10 rfl rfl rfl (by omega) (by omega) (by omega) K2 (Nat.le_of_ble_eq_true rfl) (by omega) L2 H2 rfl (fun s3 t3 K3 L3 H3 A3 B3 => ?_)
  have K3 : s3 179 = .inr (.inr (7, [some (some (180)), some (some (187)), some (some (193)), none, none, none, none])) := K3
  have R3 : ∀ j, j < 179 → t3 j = σ j := fun j hj => (B3 j (by omega)).trans (R2 j hj)
  have W3_3 : t3 179 3 = 0 := by rw [B3 179 (by omega)]; exact W2_3
  have W3_4 : t3 179 4 = 0 := by rw [B3 179 (by omega)]; exact W2_4
  have W3_5 : t3 179 5 = 0 := by rw [B3 179 (by omega)]; exact W2_5
  have W3_6 : t3 179 6 = 0 := by rw [B3 179 (by omega)]; exact W2_6
  have S3 : SpOK t3 187 0 := S2.cg (fun j a b => B3 j (by omega)) (Int.le_refl _)
  show Sat X 3 14 1179 164 (iPost 179 15 sh σ (fun σ' => SpOK σ' 187 0)) 34 [vr 179] [] (194) s3 t3 14 1179
  refine Sat.fint 164 md164 pp164 0 rfl rfl rfl (pc := 34) 0 rfl (Or.inl rfl) (by omega) (by omega) K3 rfl ?_
  have hst4 : ∃ t, t = st t3 179 3 0 := ⟨_, rfl⟩
  obtain ⟨t4, et4⟩ := hst4
  have R4 : ∀ j, j < 179 → t4 j = σ j := fun j hj => (by rw [et4]; exact st_off _ _ _ (by omega) : t4 j = t3 j).trans (R3 j hj)
  have W4_3 : t4 179 3 = 0 := by rw [et4]; exact st_hit
  have W4_4 : t4 179 4 = 0 := by rw [et4, st_mis (by omega)]; exact W3_4
  have W4_5 : t4 179 5 = 0 := by rw [et4, st_mis (by omega)]; exact W3_5
  have W4_6 : t4 179 6 = 0 := by rw [et4, st_mis (by omega)]; exact W3_6
  have S4 : SpOK t4 187 0 := S3.cg (fun j a b => by rw [et4]; exact st_off _ _ _ (by omega)) (Int.le_refl _)
  have K4 := K3
  have L4 := L3
  have H4 := H3
  show Sat X 3 14 1179 164 (iPost 179 15 sh σ (fun σ' => SpOK σ' 187 0)) 39 [vr 179] [] (194) s3 (st t3 179 3 0) 14 1179
  rw [← et4]
  show Sat X 3 14 1179 164 (iPost 179 15 sh σ (fun σ' => SpOK σ' 187 0)) 39 [vr 179] [] (194) s3 t4 14 1179
  refine Sat.fint 164 md164 pp164 0 rfl rfl rfl (pc := 39) 0 rfl (Or.inl rfl) (by omega) (by omega) K4 rfl ?_
  have hst5 : ∃ t, t = st t4 179 4 0 := ⟨_, rfl⟩
  obtain ⟨t5, et5⟩ := hst5
  have R5 : ∀ j, j < 179 → t5 j = σ j := fun j hj => (by rw [et5]; exact st_off _ _ _ (by omega) : t5 j = t4 j).trans (R4 j hj)
  have W5_3 : t5 179 3 = 0 := by rw [et5, st_mis (by omega)]; exact W4_3
  have W5_4 : t5 179 4 = 0 := by rw [et5]; exact st_hit
  have W5_5 : t5 179 5 = 0 := by rw [et5, st_mis (by omega)]; exact W4_5
  have W5_6 : t5 179 6 = 0 := by rw [et5, st_mis (by omega)]; exact W4_6
  have S5 : SpOK t5 187 0 := S4.cg (fun j a b => by rw [et5]; exact st_off _ _ _ (by omega)) (Int.le_refl _)
  have K5 := K4
  have L5 := L4
  have H5 := H4
  show Sat X 3 14 1179 164 (iPost 179 15 sh σ (fun σ' => SpOK σ' 187 0)) 44 [vr 179] [] (194) s3 (st t4 179 4 0) 14 1179
  rw [← et5]
  show Sat X 3 14 1179 164 (iPost 179 15 sh σ (fun σ' => SpOK σ' 187 0)) 44 [vr 179] [] (194) s3 t5 14 1179
  refine Sat.fint 164 md164 pp164 0 rfl rfl rfl (pc := 44) 0 rfl (Or.inl rfl) (by omega) (by omega) K5 rfl ?_
  have hst6 : ∃ t, t = st t5 179 5 0 := ⟨_, rfl⟩
  obtain ⟨t6, et6⟩ := hst6
  have R6 : ∀ j, j < 179 → t6 j = σ j := fun j hj => (by rw [et6]; exact st_off _ _ _ (by omega) : t6 j = t5 j).trans (R5 j hj)
  have W6_3 : t6 179 3 = 0 := by rw [et6, st_mis (by omega)]; exact W5_3
  have W6_4 : t6 179 4 = 0 := by rw [et6, st_mis (by omega)]; exact W5_4
  have W6_5 : t6 179 5 = 0 := by rw [et6]; exact st_hit
  have W6_6 : t6 179 6 = 0 := by rw [et6, st_mis (by omega)]; exact W5_6
  have S6 : SpOK t6 187 0 := S5.cg (fun j a b => by rw [et6]; exact st_off _ _ _ (by omega)) (Int.le_refl _)
  have K6 := K5
  have L6 := L5
  have H6 := H5
  show Sat X 3 14 1179 164 (iPost 179 15 sh σ (fun σ' => SpOK σ' 187 0)) 49 [vr 179] [] (194) s3 (st t5 179 5 0) 14 1179
  rw [← et6]
  show Sat X 3 14 1179 164 (iPost 179 15 sh σ (fun σ' => SpOK σ' 187 0)) 49 [vr 179] [] (194) s3 t6 14 1179
  refine Sat.fint 164 md164 pp164 0 rfl rfl rfl (pc := 49) (-1) rfl (Or.inl rfl) (by omega) (by omega) K6 rfl ?_
  have hst7 : ∃ t, t = st t6 179 6 (-1) := ⟨_, rfl⟩
  obtain ⟨t7, et7⟩ := hst7
  have R7 : ∀ j, j < 179 → t7 j = σ j := fun j hj => (by rw [et7]; exact st_off _ _ _ (by omega) : t7 j = t6 j).trans (R6 j hj)
  have W7_3 : t7 179 3 = 0 := by rw [et7, st_mis (by omega)]; exact W6_3
  have W7_4 : t7 179 4 = 0 := by rw [et7, st_mis (by omega)]; exact W6_4
  have W7_5 : t7 179 5 = 0 := by rw [et7, st_mis (by omega)]; exact W6_5
  have W7_6 : t7 179 6 = (-1) := by rw [et7]; exact st_hit
  have S7 : SpOK t7 187 0 := S6.cg (fun j a b => by rw [et7]; exact st_off _ _ _ (by omega)) (Int.le_refl _)
  have K7 := K6
  have L7 := L6
  have H7 := H6
  show Sat X 3 14 1179 164 (iPost 179 15 sh σ (fun σ' => SpOK σ' 187 0)) 54 [vr 179] [] (194) s3 (st t6 179 6 (-1)) 14 1179
  rw [← et7]
  show Sat X 3 14 1179 164 (iPost 179 15 sh σ (fun σ' => SpOK σ' 187 0)) 54 [vr 179] [] (194) s3 t7 14 1179
  refine Sat.run 164 md164 pp164 0 rfl rfl rfl (by omega) (by omega) 2 54 ?_
  show True ∧ iPost 179 15 sh σ (fun σ' => SpOK σ' 187 0) none (194) s3 t7
  refine ⟨trivial, rfl, by omega, L7, fun j a b => ?_, R7, ?_⟩
  · by_cases e : j = 179
    · subst e; rw [K7]; exact (rfl).symm
    · exact H7 j (by omega) (by omega)
  · exact S7
end CTS
