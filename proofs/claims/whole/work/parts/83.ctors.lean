-- CONSTRUCTORS
section CTR
variable {X : Cx} {k : Nat}
theorem i_X3 (hk : Ispa k) : IC X 1 1 324 142 3 k 2 (fun σ' => True) := by
  intro sh σ h0 hz
  refine Call.mk md142 (by decide) rfl (by omega) (Nat.le_of_ble_eq_true rfl) ?_
  intro hin hav
  show Sat X 1 1 324 142 (iPost k 2 sh σ (fun σ' => True)) 0 [vr k] [] (k + 1) sh σ 0 0
  have K0 : sh k = .inr (.inr (3, [some none, none, none])) := h0
  have L0 : ∀ j, j < k → sh j = sh j := fun _ _ => rfl
  have H0 : ∀ j, k < j → j < k + 1 → sh j = SH j := fun j a b => by omega
  have R0 : ∀ j, j < k → σ j = σ j := fun _ _ => rfl
  have W0_1 : σ k 1 = 0 := by rw [hz]
  have W0_2 : σ k 2 = 0 := by rw [hz]
  refine Sat.fobj 142 md142 pp142 0 rfl rfl rfl (pc := 0) rfl rfl (by omega) (by omega) ?_
  show Sat X 1 1 324 142 (iPost k 2 sh σ (fun σ' => True)) 4 [vr k] [] (k + 1) sh σ 0 0
  refine Sat.farr 142 md142 pp142 0 rfl rfl rfl (pc := 4) 324 rfl rfl rfl (by omega) (by omega) (by omega) K0 (Nat.le_of_ble_eq_true rfl) (by omega) L0 H0 hk.2 (fun s1 t1 K1 L1 H1 A1 B1 => ?_)
  have K1 : s1 k = .inr (.inr (3, [some (some (k + 1)), none, none])) := K1
  have R1 : ∀ j, j < k → t1 j = σ j := fun j hj => (B1 j (by omega)).trans (R0 j hj)
  have W1_1 : t1 k 1 = 0 := by rw [B1 k (by omega)]; exact W0_1
  have W1_2 : t1 k 2 = 0 := by rw [B1 k (by omega)]; exact W0_2
  show Sat X 1 1 324 142 (iPost k 2 sh σ (fun σ' => True)) 13 [vr k] [] (k + 2) s1 t1 1 324
  refine Sat.fint 142 md142 pp142 0 rfl rfl rfl (pc := 13) 0 rfl (Or.inl rfl) (by omega) (by omega) K1 rfl ?_
  have hst2 : ∃ t, t = st t1 k 1 0 := ⟨_, rfl⟩
  obtain ⟨t2, et2⟩ := hst2
  have R2 : ∀ j, j < k → t2 j = σ j := fun j hj => (by rw [et2]; exact st_off _ _ _ (by omega) : t2 j = t1 j).trans (R1 j hj)
  have W2_1 : t2 k 1 = 0 := by rw [et2]; exact st_hit
  have W2_2 : t2 k 2 = 0 := by rw [et2, st_mis (by omega)]; exact W1_2
  have K2 := K1
  have L2 := L1
  have H2 := H1
  show Sat X 1 1 324 142 (iPost k 2 sh σ (fun σ' => True)) 18 [vr k] [] (k + 2) s1 (st t1 k 1 0) 1 324
  rw [← et2]
  show Sat X 1 1 324 142 (iPost k 2 sh σ (fun σ' => True)) 18 [vr k] [] (k + 2) s1 t2 1 324
  refine Sat.fint 142 md142 pp142 0 rfl rfl rfl (pc := 18) 0 rfl (Or.inr ⟨rfl, Or.inl rfl⟩) (by omega) (by omega) K2 rfl ?_
  have hst3 : ∃ t, t = st t2 k 2 0 := ⟨_, rfl⟩
  obtain ⟨t3, et3⟩ := hst3
  have R3 : ∀ j, j < k → t3 j = σ j := fun j hj => (by rw [et3]; exact st_off _ _ _ (by omega) : t3 j = t2 j).trans (R2 j hj)
  have W3_1 : t3 k 1 = 0 := by rw [et3, st_mis (by omega)]; exact W2_1
  have W3_2 : t3 k 2 = 0 := by rw [et3]; exact st_hit
  have K3 := K2
  have L3 := L2
  have H3 := H2
  show Sat X 1 1 324 142 (iPost k 2 sh σ (fun σ' => True)) 23 [vr k] [] (k + 2) s1 (st t2 k 2 0) 1 324
  rw [← et3]
  show Sat X 1 1 324 142 (iPost k 2 sh σ (fun σ' => True)) 23 [vr k] [] (k + 2) s1 t3 1 324
  refine Sat.run 142 md142 pp142 0 rfl rfl rfl (by omega) (by omega) 2 23 ?_
  show True ∧ iPost k 2 sh σ (fun σ' => True) none (k + 2) s1 t3
  refine ⟨trivial, rfl, by omega, L3, fun j a b => ?_, R3, ?_⟩
  · by_cases e : j = k
    · subst e; rw [K3]; exact (hk.1).symm
    · exact H3 j (by omega) (by omega)
  · exact trivial
theorem i_X6 (hk : Issp k) : IC X 1 5 891 155 6 k 6 (fun σ' => SpOK σ' k 0) := by
  intro sh σ h0 hz
  refine Call.mk md155 (by decide) rfl (by omega) (Nat.le_of_ble_eq_true rfl) ?_
  intro hin hav
  show Sat X 1 5 891 155 (iPost k 6 sh σ (fun σ' => SpOK σ' k 0)) 0 [vr k] [] (k + 1) sh σ 0 0
  have K0 : sh k = .inr (.inr (6, [some none, none, some none, some none, some none, none, none, some none])) := h0
  have L0 : ∀ j, j < k → sh j = sh j := fun _ _ => rfl
  have H0 : ∀ j, k < j → j < k + 1 → sh j = SH j := fun j a b => by omega
  have R0 : ∀ j, j < k → σ j = σ j := fun _ _ => rfl
  have W0_1 : σ k 1 = 0 := by rw [hz]
  have W0_5 : σ k 5 = 0 := by rw [hz]
  have W0_6 : σ k 6 = 0 := by rw [hz]
  refine Sat.fobj 155 md155 pp155 0 rfl rfl rfl (pc := 0) rfl rfl (by omega) (by omega) ?_
  show Sat X 1 5 891 155 (iPost k 6 sh σ (fun σ' => SpOK σ' k 0)) 4 [vr k] [] (k + 1) sh σ 0 0
  refine Sat.farr 155 md155 pp155 0 rfl rfl rfl (pc := 4) 324 rfl rfl rfl (by omega) (by omega) (by omega) K0 (Nat.le_of_ble_eq_true rfl) (by omega) L0 H0 hk.2.1 (fun s1 t1 K1 L1 H1 A1 B1 => ?_)
  have K1 : s1 k = .inr (.inr (6, [some (some (k + 1)), none, some none, some none, some none, none, none, some none])) := K1
  have R1 : ∀ j, j < k → t1 j = σ j := fun j hj => (B1 j (by omega)).trans (R0 j hj)
  have W1_1 : t1 k 1 = 0 := by rw [B1 k (by omega)]; exact W0_1
  have W1_5 : t1 k 5 = 0 := by rw [B1 k (by omega)]; exact W0_5
  have W1_6 : t1 k 6 = 0 := by rw [B1 k (by omega)]; exact W0_6
  show Sat X 1 5 891 155 (iPost k 6 sh σ (fun σ' => SpOK σ' k 0)) 13 [vr k] [] (k + 2) s1 t1 1 324
  refine Sat.fint 155 md155 pp155 0 rfl rfl rfl (pc := 13) 0 rfl (Or.inl rfl) (by omega) (by omega) K1 rfl ?_
  have hst2 : ∃ t, t = st t1 k 1 0 := ⟨_, rfl⟩
  obtain ⟨t2, et2⟩ := hst2
  have R2 : ∀ j, j < k → t2 j = σ j := fun j hj => (by rw [et2]; exact st_off _ _ _ (by omega) : t2 j = t1 j).trans (R1 j hj)
  have W2_1 : t2 k 1 = 0 := by rw [et2]; exact st_hit
  have W2_5 : t2 k 5 = 0 := by rw [et2, st_mis (by omega)]; exact W1_5
  have W2_6 : t2 k 6 = 0 := by rw [et2, st_mis (by omega)]; exact W1_6
  have K2 := K1
  have L2 := L1
  have H2 := H1
  show Sat X 1 5 891 155 (iPost k 6 sh σ (fun σ' => SpOK σ' k 0)) 18 [vr k] [] (k + 2) s1 (st t1 k 1 0) 1 324
  rw [← et2]
  show Sat X 1 5 891 155 (iPost k 6 sh σ (fun σ' => SpOK σ' k 0)) 18 [vr k] [] (k + 2) s1 t2 1 324
  refine Sat.farr 155 md155 pp155 0 rfl rfl rfl (pc := 18) 324 rfl rfl rfl (by omega) (by omega) (by omega) K2 (Nat.le_of_ble_eq_true rfl) (by omega) L2 H2 hk.2.2.1 (fun s3 t3 K3 L3 H3 A3 B3 => ?_)
  have K3 : s3 k = .inr (.inr (6, [some (some (k + 1)), none, some (some (k + 2)), some none, some none, none, none, some none])) := K3
  have R3 : ∀ j, j < k → t3 j = σ j := fun j hj => (B3 j (by omega)).trans (R2 j hj)
  have W3_1 : t3 k 1 = 0 := by rw [B3 k (by omega)]; exact W2_1
  have W3_5 : t3 k 5 = 0 := by rw [B3 k (by omega)]; exact W2_5
  have W3_6 : t3 k 6 = 0 := by rw [B3 k (by omega)]; exact W2_6
  have Z3_2 : t3 (k + 2) = (fun _ => 0) := A3
  show Sat X 1 5 891 155 (iPost k 6 sh σ (fun σ' => SpOK σ' k 0)) 27 [vr k] [] (k + 3) s3 t3 2 648
  refine Sat.farr 155 md155 pp155 0 rfl rfl rfl (pc := 27) 81 rfl rfl rfl (by omega) (by omega) (by omega) K3 (Nat.le_of_ble_eq_true rfl) (by omega) L3 H3 hk.2.2.2.1 (fun s4 t4 K4 L4 H4 A4 B4 => ?_)
  have K4 : s4 k = .inr (.inr (6, [some (some (k + 1)), none, some (some (k + 2)), some (some (k + 3)), some none, none, none, some none])) := K4
  have R4 : ∀ j, j < k → t4 j = σ j := fun j hj => (B4 j (by omega)).trans (R3 j hj)
  have W4_1 : t4 k 1 = 0 := by rw [B4 k (by omega)]; exact W3_1
  have W4_5 : t4 k 5 = 0 := by rw [B4 k (by omega)]; exact W3_5
  have W4_6 : t4 k 6 = 0 := by rw [B4 k (by omega)]; exact W3_6
  have Z4_2 : t4 (k + 2) = (fun _ => 0) := by rw [B4 (k + 2) (by omega)]; exact Z3_2
  have Z4_3 : t4 (k + 3) = (fun _ => 0) := A4
  show Sat X 1 5 891 155 (iPost k 6 sh σ (fun σ' => SpOK σ' k 0)) 35 [vr k] [] (k + 4) s4 t4 3 729
  refine Sat.farr 155 md155 pp155 0 rfl rfl rfl (pc := 35) 81 rfl rfl rfl (by omega) (by omega) (by omega) K4 (Nat.le_of_ble_eq_true rfl) (by omega) L4 H4 hk.2.2.2.2.1 (fun s5 t5 K5 L5 H5 A5 B5 => ?_)
  have K5 : s5 k = .inr (.inr (6, [some (some (k + 1)), none, some (some (k + 2)), some (some (k + 3)), some (some (k + 4)), none, none, some none])) := K5
  have R5 : ∀ j, j < k → t5 j = σ j := fun j hj => (B5 j (by omega)).trans (R4 j hj)
  have W5_1 : t5 k 1 = 0 := by rw [B5 k (by omega)]; exact W4_1
  have W5_5 : t5 k 5 = 0 := by rw [B5 k (by omega)]; exact W4_5
  have W5_6 : t5 k 6 = 0 := by rw [B5 k (by omega)]; exact W4_6
  have Z5_2 : t5 (k + 2) = (fun _ => 0) := by rw [B5 (k + 2) (by omega)]; exact Z4_2
  have Z5_3 : t5 (k + 3) = (fun _ => 0) := by rw [B5 (k + 3) (by omega)]; exact Z4_3
  have Z5_4 : t5 (k + 4) = (fun _ => 0) := A5
  show Sat X 1 5 891 155 (iPost k 6 sh σ (fun σ' => SpOK σ' k 0)) 43 [vr k] [] (k + 5) s5 t5 4 810
  refine Sat.fint 155 md155 pp155 0 rfl rfl rfl (pc := 43) 0 rfl (Or.inl rfl) (by omega) (by omega) K5 rfl ?_
  have hst6 : ∃ t, t = st t5 k 5 0 := ⟨_, rfl⟩
  obtain ⟨t6, et6⟩ := hst6
  have R6 : ∀ j, j < k → t6 j = σ j := fun j hj => (by rw [et6]; exact st_off _ _ _ (by omega) : t6 j = t5 j).trans (R5 j hj)
  have W6_1 : t6 k 1 = 0 := by rw [et6, st_mis (by omega)]; exact W5_1
  have W6_5 : t6 k 5 = 0 := by rw [et6]; exact st_hit
  have W6_6 : t6 k 6 = 0 := by rw [et6, st_mis (by omega)]; exact W5_6
  have Z6_2 : t6 (k + 2) = (fun _ => 0) := by rw [et6, st_off _ _ _ (by omega)]; exact Z5_2
  have Z6_3 : t6 (k + 3) = (fun _ => 0) := by rw [et6, st_off _ _ _ (by omega)]; exact Z5_3
  have Z6_4 : t6 (k + 4) = (fun _ => 0) := by rw [et6, st_off _ _ _ (by omega)]; exact Z5_4
  have K6 := K5
  have L6 := L5
  have H6 := H5
  show Sat X 1 5 891 155 (iPost k 6 sh σ (fun σ' => SpOK σ' k 0)) 48 [vr k] [] (k + 5) s5 (st t5 k 5 0) 4 810
  rw [← et6]
  show Sat X 1 5 891 155 (iPost k 6 sh σ (fun σ' => SpOK σ' k 0)) 48 [vr k] [] (k + 5) s5 t6 4 810
  refine Sat.fint 155 md155 pp155 0 rfl rfl rfl (pc := 48) 0 rfl (Or.inl rfl) (by omega) (by omega) K6 rfl ?_
  have hst7 : ∃ t, t = st t6 k 6 0 := ⟨_, rfl⟩
  obtain ⟨t7, et7⟩ := hst7
  have R7 : ∀ j, j < k → t7 j = σ j := fun j hj => (by rw [et7]; exact st_off _ _ _ (by omega) : t7 j = t6 j).trans (R6 j hj)
  have W7_1 : t7 k 1 = 0 := by rw [et7, st_mis (by omega)]; exact W6_1
  have W7_5 : t7 k 5 = 0 := by rw [et7, st_mis (by omega)]; exact W6_5
  have W7_6 : t7 k 6 = 0 := by rw [et7]; exact st_hit
  have Z7_2 : t7 (k + 2) = (fun _ => 0) := by rw [et7, st_off _ _ _ (by omega)]; exact Z6_2
  have Z7_3 : t7 (k + 3) = (fun _ => 0) := by rw [et7, st_off _ _ _ (by omega)]; exact Z6_3
  have Z7_4 : t7 (k + 4) = (fun _ => 0) := by rw [et7, st_off _ _ _ (by omega)]; exact Z6_4
  have K7 := K6
  have L7 := L6
  have H7 := H6
  show Sat X 1 5 891 155 (iPost k 6 sh σ (fun σ' => SpOK σ' k 0)) 53 [vr k] [] (k + 5) s5 (st t6 k 6 0) 4 810
  rw [← et7]
  show Sat X 1 5 891 155 (iPost k 6 sh σ (fun σ' => SpOK σ' k 0)) 53 [vr k] [] (k + 5) s5 t7 4 810
  refine Sat.farr 155 md155 pp155 0 rfl rfl rfl (pc := 53) 81 rfl rfl rfl (by omega) (by omega) (by omega) K7 (Nat.le_of_ble_eq_true rfl) (by omega) L7 H7 hk.2.2.2.2.2 (fun s8 t8 K8 L8 H8 A8 B8 => ?_)
  have K8 : s8 k = .inr (.inr (6, [some (some (k + 1)), none, some (some (k + 2)), some (some (k + 3)), some (some (k + 4)), none, none, some (some (k + 5))])) := K8
  have R8 : ∀ j, j < k → t8 j = σ j := fun j hj => (B8 j (by omega)).trans (R7 j hj)
  have W8_1 : t8 k 1 = 0 := by rw [B8 k (by omega)]; exact W7_1
  have W8_5 : t8 k 5 = 0 := by rw [B8 k (by omega)]; exact W7_5
  have W8_6 : t8 k 6 = 0 := by rw [B8 k (by omega)]; exact W7_6
  have Z8_2 : t8 (k + 2) = (fun _ => 0) := by rw [B8 (k + 2) (by omega)]; exact Z7_2
  have Z8_3 : t8 (k + 3) = (fun _ => 0) := by rw [B8 (k + 3) (by omega)]; exact Z7_3
  have Z8_4 : t8 (k + 4) = (fun _ => 0) := by rw [B8 (k + 4) (by omega)]; exact Z7_4
  show Sat X 1 5 891 155 (iPost k 6 sh σ (fun σ' => SpOK σ' k 0)) 61 [vr k] [] (k + 6) s8 t8 5 891
  refine Sat.run 155 md155 pp155 0 rfl rfl rfl (by omega) (by omega) 2 61 ?_
  show True ∧ iPost k 6 sh σ (fun σ' => SpOK σ' k 0) none (k + 6) s8 t8
  refine ⟨trivial, rfl, by omega, L8, fun j a b => ?_, R8, ?_⟩
  · by_cases e : j = k
    · subst e; rw [K8]; exact (hk.1).symm
    · exact H8 j (by omega) (by omega)
  · refine ⟨by rw [W8_5]; omega, fun p a b => ?_, fun f a b => ⟨?_, ?_⟩⟩
    · rw [W8_5, Z8_2]; exact Int.le_refl 0
    · rw [W8_5, Z8_3]; exact Int.le_refl 0
    · rw [W8_5, Z8_4]; exact Int.le_refl 0
theorem i_X9 (hk : Iswk k) : IC X 1 2 162 173 9 k 3 (fun σ' => True) := by
  intro sh σ h0 hz
  refine Call.mk md173 (by decide) rfl (by omega) (Nat.le_of_ble_eq_true rfl) ?_
  intro hin hav
  show Sat X 1 2 162 173 (iPost k 3 sh σ (fun σ' => True)) 0 [vr k] [] (k + 1) sh σ 0 0
  have K0 : sh k = .inr (.inr (9, [some none, none, some none])) := h0
  have L0 : ∀ j, j < k → sh j = sh j := fun _ _ => rfl
  have H0 : ∀ j, k < j → j < k + 1 → sh j = SH j := fun j a b => by omega
  have R0 : ∀ j, j < k → σ j = σ j := fun _ _ => rfl
  have W0_1 : σ k 1 = 0 := by rw [hz]
  refine Sat.fobj 173 md173 pp173 0 rfl rfl rfl (pc := 0) rfl rfl (by omega) (by omega) ?_
  show Sat X 1 2 162 173 (iPost k 3 sh σ (fun σ' => True)) 4 [vr k] [] (k + 1) sh σ 0 0
  refine Sat.farr 173 md173 pp173 0 rfl rfl rfl (pc := 4) 81 rfl rfl rfl (by omega) (by omega) (by omega) K0 (Nat.le_of_ble_eq_true rfl) (by omega) L0 H0 hk.2.1 (fun s1 t1 K1 L1 H1 A1 B1 => ?_)
  have K1 : s1 k = .inr (.inr (9, [some (some (k + 1)), none, some none])) := K1
  have R1 : ∀ j, j < k → t1 j = σ j := fun j hj => (B1 j (by omega)).trans (R0 j hj)
  have W1_1 : t1 k 1 = 0 := by rw [B1 k (by omega)]; exact W0_1
  show Sat X 1 2 162 173 (iPost k 3 sh σ (fun σ' => True)) 12 [vr k] [] (k + 2) s1 t1 1 81
  refine Sat.fint 173 md173 pp173 0 rfl rfl rfl (pc := 12) 0 rfl (Or.inl rfl) (by omega) (by omega) K1 rfl ?_
  have hst2 : ∃ t, t = st t1 k 1 0 := ⟨_, rfl⟩
  obtain ⟨t2, et2⟩ := hst2
  have R2 : ∀ j, j < k → t2 j = σ j := fun j hj => (by rw [et2]; exact st_off _ _ _ (by omega) : t2 j = t1 j).trans (R1 j hj)
  have W2_1 : t2 k 1 = 0 := by rw [et2]; exact st_hit
  have K2 := K1
  have L2 := L1
  have H2 := H1
  show Sat X 1 2 162 173 (iPost k 3 sh σ (fun σ' => True)) 17 [vr k] [] (k + 2) s1 (st t1 k 1 0) 1 81
  rw [← et2]
  show Sat X 1 2 162 173 (iPost k 3 sh σ (fun σ' => True)) 17 [vr k] [] (k + 2) s1 t2 1 81
  refine Sat.farr 173 md173 pp173 0 rfl rfl rfl (pc := 17) 81 rfl rfl rfl (by omega) (by omega) (by omega) K2 (Nat.le_of_ble_eq_true rfl) (by omega) L2 H2 hk.2.2 (fun s3 t3 K3 L3 H3 A3 B3 => ?_)
  have K3 : s3 k = .inr (.inr (9, [some (some (k + 1)), none, some (some (k + 2))])) := K3
  have R3 : ∀ j, j < k → t3 j = σ j := fun j hj => (B3 j (by omega)).trans (R2 j hj)
  have W3_1 : t3 k 1 = 0 := by rw [B3 k (by omega)]; exact W2_1
  show Sat X 1 2 162 173 (iPost k 3 sh σ (fun σ' => True)) 25 [vr k] [] (k + 3) s3 t3 2 162
  refine Sat.run 173 md173 pp173 0 rfl rfl rfl (by omega) (by omega) 2 25 ?_
  show True ∧ iPost k 3 sh σ (fun σ' => True) none (k + 3) s3 t3
  refine ⟨trivial, rfl, by omega, L3, fun j a b => ?_, R3, ?_⟩
  · by_cases e : j = k
    · subst e; rw [K3]; exact (hk.1).symm
    · exact H3 j (by omega) (by omega)
  · exact trivial
theorem i_X5 : IC X 1 3 128 148 5 208 4 (fun σ' => ShC σ' (fun _ => 0) (fun _ => 0) (fun _ => 0)) := by
  intro sh σ h0 hz
  refine Call.mk md148 (by decide) rfl (by omega) (Nat.le_of_ble_eq_true rfl) ?_
  intro hin hav
  show Sat X 1 3 128 148 (iPost 208 4 sh σ (fun σ' => ShC σ' (fun _ => 0) (fun _ => 0) (fun _ => 0))) 0 [vr 208] [] (209) sh σ 0 0
  have K0 : sh 208 = .inr (.inr (5, [some none, some none, some none])) := h0
  have L0 : ∀ j, j < 208 → sh j = sh j := fun _ _ => rfl
  have H0 : ∀ j, 208 < j → j < 209 → sh j = SH j := fun j a b => by omega
  have R0 : ∀ j, j < 208 → σ j = σ j := fun _ _ => rfl
  refine Sat.fobj 148 md148 pp148 0 rfl rfl rfl (pc := 0) rfl rfl (by omega) (by omega) ?_
  show Sat X 1 3 128 148 (iPost 208 4 sh σ (fun σ' => ShC σ' (fun _ => 0) (fun _ => 0) (fun _ => 0))) 4 [vr 208] [] (209) sh σ 0 0
  refine Sat.farr 148 md148 pp148 0 rfl rfl rfl (pc := 4) 4 rfl rfl rfl (by omega) (by omega) (by omega) K0 (Nat.le_of_ble_eq_true rfl) (by omega) L0 H0 rfl (fun s1 t1 K1 L1 H1 A1 B1 => ?_)
  have K1 : s1 208 = .inr (.inr (5, [some (some (209)), some none, some none])) := K1
  have R1 : ∀ j, j < 208 → t1 j = σ j := fun j hj => (B1 j (by omega)).trans (R0 j hj)
  have Z1_1 : t1 (209) = (fun _ => 0) := A1
  show Sat X 1 3 128 148 (iPost 208 4 sh σ (fun σ' => ShC σ' (fun _ => 0) (fun _ => 0) (fun _ => 0))) 11 [vr 208] [] (210) s1 t1 1 4
  refine Sat.farr 148 md148 pp148 0 rfl rfl rfl (pc := 11) 4 rfl rfl rfl (by omega) (by omega) (by omega) K1 (Nat.le_of_ble_eq_true rfl) (by omega) L1 H1 rfl (fun s2 t2 K2 L2 H2 A2 B2 => ?_)
  have K2 : s2 208 = .inr (.inr (5, [some (some (209)), some (some (210)), some none])) := K2
  have R2 : ∀ j, j < 208 → t2 j = σ j := fun j hj => (B2 j (by omega)).trans (R1 j hj)
  have Z2_1 : t2 (209) = (fun _ => 0) := by rw [B2 (209) (by omega)]; exact Z1_1
  have Z2_2 : t2 (210) = (fun _ => 0) := A2
  show Sat X 1 3 128 148 (iPost 208 4 sh σ (fun σ' => ShC σ' (fun _ => 0) (fun _ => 0) (fun _ => 0))) 18 [vr 208] [] (211) s2 t2 2 8
  refine Sat.farr 148 md148 pp148 0 rfl rfl rfl (pc := 18) 120 rfl rfl rfl (by omega) (by omega) (by omega) K2 (Nat.le_of_ble_eq_true rfl) (by omega) L2 H2 rfl (fun s3 t3 K3 L3 H3 A3 B3 => ?_)
  have K3 : s3 208 = .inr (.inr (5, [some (some (209)), some (some (210)), some (some (211))])) := K3
  have R3 : ∀ j, j < 208 → t3 j = σ j := fun j hj => (B3 j (by omega)).trans (R2 j hj)
  have Z3_1 : t3 (209) = (fun _ => 0) := by rw [B3 (209) (by omega)]; exact Z2_1
  have Z3_2 : t3 (210) = (fun _ => 0) := by rw [B3 (210) (by omega)]; exact Z2_2
  have Z3_3 : t3 (211) = (fun _ => 0) := A3
  show Sat X 1 3 128 148 (iPost 208 4 sh σ (fun σ' => ShC σ' (fun _ => 0) (fun _ => 0) (fun _ => 0))) 26 [vr 208] [] (212) s3 t3 3 128
  refine Sat.run 148 md148 pp148 0 rfl rfl rfl (by omega) (by omega) 2 26 ?_
  show True ∧ iPost 208 4 sh σ (fun σ' => ShC σ' (fun _ => 0) (fun _ => 0) (fun _ => 0)) none (212) s3 t3
  refine ⟨trivial, rfl, by omega, L3, fun j a b => ?_, R3, ?_⟩
  · by_cases e : j = 208
    · subst e; rw [K3]; exact (rfl).symm
    · exact H3 j (by omega) (by omega)
  · exact fun s a b => ⟨by rw [Z3_1], by rw [Z3_2], fun i x y => by rw [Z3_3]; rfl⟩
theorem i_X4 : IC X 2 5 1299 145 4 165 6 (fun σ' => True) := by
  intro sh σ h0 hz
  refine Call.mk md145 (by decide) rfl (by omega) (Nat.le_of_ble_eq_true rfl) ?_
  intro hin hav
  show Sat X 2 5 1299 145 (iPost 165 6 sh σ (fun σ' => True)) 0 [vr 165] [] (166) sh σ 0 0
  have K0 : sh 165 = .inr (.inr (4, [some none, some none, none, some none, some none])) := h0
  have L0 : ∀ j, j < 165 → sh j = sh j := fun _ _ => rfl
  have H0 : ∀ j, 165 < j → j < 166 → sh j = SH j := fun j a b => by omega
  have R0 : ∀ j, j < 165 → σ j = σ j := fun _ _ => rfl
  have W0_2 : σ 165 2 = 0 := by rw [hz]
  refine Sat.fobj 145 md145 pp145 0 rfl rfl rfl (pc := 0) rfl rfl (by omega) (by omega) ?_
  show Sat X 2 5 1299 145 (iPost 165 6 sh σ (fun σ' => True)) 4 [vr 165] [] (166) sh σ 0 0
  refine Sat.farr 145 md145 pp145 0 rfl rfl rfl (pc := 4) 324 rfl rfl rfl (by omega) (by omega) (by omega) K0 (Nat.le_of_ble_eq_true rfl) (by omega) L0 H0 rfl (fun s1 t1 K1 L1 H1 A1 B1 => ?_)
  have K1 : s1 165 = .inr (.inr (4, [some (some (166)), some none, none, some none, some none])) := K1
  have R1 : ∀ j, j < 165 → t1 j = σ j := fun j hj => (B1 j (by omega)).trans (R0 j hj)
  have W1_2 : t1 165 2 = 0 := by rw [B1 165 (by omega)]; exact W0_2
  show Sat X 2 5 1299 145 (iPost 165 6 sh σ (fun σ' => True)) 13 [vr 165] [] (167) s1 t1 1 324
  refine Sat.farr 145 md145 pp145 0 rfl rfl rfl (pc := 13) 324 rfl rfl rfl (by omega) (by omega) (by omega) K1 (Nat.le_of_ble_eq_true rfl) (by omega) L1 H1 rfl (fun s2 t2 K2 L2 H2 A2 B2 => ?_)
  have K2 : s2 165 = .inr (.inr (4, [some (some (166)), some (some (167)), none, some none, some none])) := K2
  have R2 : ∀ j, j < 165 → t2 j = σ j := fun j hj => (B2 j (by omega)).trans (R1 j hj)
  have W2_2 : t2 165 2 = 0 := by rw [B2 165 (by omega)]; exact W1_2
  show Sat X 2 5 1299 145 (iPost 165 6 sh σ (fun σ' => True)) 22 [vr 165] [] (168) s2 t2 2 648
  refine Sat.fint 145 md145 pp145 0 rfl rfl rfl (pc := 22) 0 rfl (Or.inl rfl) (by omega) (by omega) K2 rfl ?_
  have hst3 : ∃ t, t = st t2 165 2 0 := ⟨_, rfl⟩
  obtain ⟨t3, et3⟩ := hst3
  have R3 : ∀ j, j < 165 → t3 j = σ j := fun j hj => (by rw [et3]; exact st_off _ _ _ (by omega) : t3 j = t2 j).trans (R2 j hj)
  have W3_2 : t3 165 2 = 0 := by rw [et3]; exact st_hit
  have K3 := K2
  have L3 := L2
  have H3 := H2
  show Sat X 2 5 1299 145 (iPost 165 6 sh σ (fun σ' => True)) 27 [vr 165] [] (168) s2 (st t2 165 2 0) 2 648
  rw [← et3]
  show Sat X 2 5 1299 145 (iPost 165 6 sh σ (fun σ' => True)) 27 [vr 165] [] (168) s2 t3 2 648
  refine Sat.farr 145 md145 pp145 0 rfl rfl rfl (pc := 27) 324 rfl rfl rfl (by omega) (by omega) (by omega) K3 (Nat.le_of_ble_eq_true rfl) (by omega) L3 H3 rfl (fun s4 t4 K4 L4 H4 A4 B4 => ?_)
  have K4 : s4 165 = .inr (.inr (4, [some (some (166)), some (some (167)), none, some (some (168)), some none])) := K4
  have R4 : ∀ j, j < 165 → t4 j = σ j := fun j hj => (B4 j (by omega)).trans (R3 j hj)
  have W4_2 : t4 165 2 = 0 := by rw [B4 165 (by omega)]; exact W3_2
  show Sat X 2 5 1299 145 (iPost 165 6 sh σ (fun σ' => True)) 36 [vr 165] [] (169) s4 t4 3 972
  refine Sat.fnew 145 md145 pp145 0 rfl rfl rfl (pc := 36) rfl rfl rfl rfl (q := (RX3, TX3, 3)) rfl (i_X3 ispa169) (by omega) (by omega) (by show 3 + 1 + 1 ≤ 5; omega) (by show 972 + 3 + 324 ≤ 1299; omega) K4 (Nat.le_of_ble_eq_true rfl) (by omega) L4 H4 (fun s5 t5 K5 L5 H5 B5 F5 => ?_)
  have K5 : s5 165 = .inr (.inr (4, [some (some (166)), some (some (167)), none, some (some (168)), some (some (169))])) := K5
  have R5 : ∀ j, j < 165 → t5 j = σ j := fun j hj => (B5 j (by omega)).trans (R4 j hj)
  have W5_2 : t5 165 2 = 0 := by rw [B5 165 (by omega)]; exact W4_2
  show Sat X 2 5 1299 145 (iPost 165 6 sh σ (fun σ' => True)) 47 [vr 165] [] (171) s5 t5 5 1299
  refine Sat.run 145 md145 pp145 0 rfl rfl rfl (by omega) (by omega) 2 47 ?_
  show True ∧ iPost 165 6 sh σ (fun σ' => True) none (171) s5 t5
  refine ⟨trivial, rfl, by omega, L5, fun j a b => ?_, R5, ?_⟩
  · by_cases e : j = 165
    · subst e; rw [K5]; exact (rfl).symm
    · exact H5 j (by omega) (by omega)
  · exact trivial
theorem i_X0 : IC X 2 7 980 114 0 171 8 (fun σ' => SpOK σ' 173 0) := by
  intro sh σ h0 hz
  refine Call.mk md114 (by decide) rfl (by omega) (Nat.le_of_ble_eq_true rfl) ?_
  intro hin hav
  show Sat X 2 7 980 114 (iPost 171 8 sh σ (fun σ' => SpOK σ' 173 0)) 0 [vr 171] [] (172) sh σ 0 0
  have K0 : sh 171 = .inr (.inr (0, [some none, none, none, some none])) := h0
  have L0 : ∀ j, j < 171 → sh j = sh j := fun _ _ => rfl
  have H0 : ∀ j, 171 < j → j < 172 → sh j = SH j := fun j a b => by omega
  have R0 : ∀ j, j < 171 → σ j = σ j := fun _ _ => rfl
  have W0_1 : σ 171 1 = 0 := by rw [hz]
  have W0_2 : σ 171 2 = 0 := by rw [hz]
  refine Sat.fobj 114 md114 pp114 0 rfl rfl rfl (pc := 0) rfl rfl (by omega) (by omega) ?_
  show Sat X 2 7 980 114 (iPost 171 8 sh σ (fun σ' => SpOK σ' 173 0)) 4 [vr 171] [] (172) sh σ 0 0
  refine Sat.farr 114 md114 pp114 0 rfl rfl rfl (pc := 4) 81 rfl rfl rfl (by omega) (by omega) (by omega) K0 (Nat.le_of_ble_eq_true rfl) (by omega) L0 H0 rfl (fun s1 t1 K1 L1 H1 A1 B1 => ?_)
  have K1 : s1 171 = .inr (.inr (0, [some (some (172)), none, none, some none])) := K1
  have R1 : ∀ j, j < 171 → t1 j = σ j := fun j hj => (B1 j (by omega)).trans (R0 j hj)
  have W1_1 : t1 171 1 = 0 := by rw [B1 171 (by omega)]; exact W0_1
  have W1_2 : t1 171 2 = 0 := by rw [B1 171 (by omega)]; exact W0_2
  show Sat X 2 7 980 114 (iPost 171 8 sh σ (fun σ' => SpOK σ' 173 0)) 12 [vr 171] [] (173) s1 t1 1 81
  refine Sat.fint 114 md114 pp114 0 rfl rfl rfl (pc := 12) 0 rfl (Or.inl rfl) (by omega) (by omega) K1 rfl ?_
  have hst2 : ∃ t, t = st t1 171 1 0 := ⟨_, rfl⟩
  obtain ⟨t2, et2⟩ := hst2
  have R2 : ∀ j, j < 171 → t2 j = σ j := fun j hj => (by rw [et2]; exact st_off _ _ _ (by omega) : t2 j = t1 j).trans (R1 j hj)
  have W2_1 : t2 171 1 = 0 := by rw [et2]; exact st_hit
  have W2_2 : t2 171 2 = 0 := by rw [et2, st_mis (by omega)]; exact W1_2
  have K2 := K1
  have L2 := L1
  have H2 := H1
  show Sat X 2 7 980 114 (iPost 171 8 sh σ (fun σ' => SpOK σ' 173 0)) 17 [vr 171] [] (173) s1 (st t1 171 1 0) 1 81
  rw [← et2]
  show Sat X 2 7 980 114 (iPost 171 8 sh σ (fun σ' => SpOK σ' 173 0)) 17 [vr 171] [] (173) s1 t2 1 81
  refine Sat.fint 114 md114 pp114 0 rfl rfl rfl (pc := 17) 0 rfl (Or.inl rfl) (by omega) (by omega) K2 rfl ?_
  have hst3 : ∃ t, t = st t2 171 2 0 := ⟨_, rfl⟩
  obtain ⟨t3, et3⟩ := hst3
  have R3 : ∀ j, j < 171 → t3 j = σ j := fun j hj => (by rw [et3]; exact st_off _ _ _ (by omega) : t3 j = t2 j).trans (R2 j hj)
  have W3_1 : t3 171 1 = 0 := by rw [et3, st_mis (by omega)]; exact W2_1
  have W3_2 : t3 171 2 = 0 := by rw [et3]; exact st_hit
  have K3 := K2
  have L3 := L2
  have H3 := H2
  show Sat X 2 7 980 114 (iPost 171 8 sh σ (fun σ' => SpOK σ' 173 0)) 22 [vr 171] [] (173) s1 (st t2 171 2 0) 1 81
  rw [← et3]
  show Sat X 2 7 980 114 (iPost 171 8 sh σ (fun σ' => SpOK σ' 173 0)) 22 [vr 171] [] (173) s1 t3 1 81
  refine Sat.fnew 114 md114 pp114 0 rfl rfl rfl (pc := 22) rfl rfl rfl rfl (q := (RX6, TX6, 8)) rfl (i_X6 issp173) (by omega) (by omega) (by show 1 + 1 + 5 ≤ 7; omega) (by show 81 + 8 + 891 ≤ 980; omega) K3 (Nat.le_of_ble_eq_true rfl) (by omega) L3 H3 (fun s4 t4 K4 L4 H4 B4 F4 => ?_)
  have K4 : s4 171 = .inr (.inr (0, [some (some (172)), none, none, some (some (173))])) := K4
  have R4 : ∀ j, j < 171 → t4 j = σ j := fun j hj => (B4 j (by omega)).trans (R3 j hj)
  have W4_1 : t4 171 1 = 0 := by rw [B4 171 (by omega)]; exact W3_1
  have W4_2 : t4 171 2 = 0 := by rw [B4 171 (by omega)]; exact W3_2
  show Sat X 2 7 980 114 (iPost 171 8 sh σ (fun σ' => SpOK σ' 173 0)) 33 [vr 171] [] (179) s4 t4 7 980
  refine Sat.run 114 md114 pp114 0 rfl rfl rfl (by omega) (by omega) 2 33 ?_
  show True ∧ iPost 171 8 sh σ (fun σ' => SpOK σ' 173 0) none (179) s4 t4
  refine ⟨trivial, rfl, by omega, L4, fun j a b => ?_, R4, ?_⟩
  · by_cases e : j = 171
    · subst e; rw [K4]; exact (rfl).symm
    · exact H4 j (by omega) (by omega)
  · exact F4
theorem i_X8 : IC X 2 10 1145 170 8 197 11 (fun σ' => SpOK σ' 201 0) := by
  intro sh σ h0 hz
  refine Call.mk md170 (by decide) rfl (by omega) (Nat.le_of_ble_eq_true rfl) ?_
  intro hin hav
  show Sat X 2 10 1145 170 (iPost 197 11 sh σ (fun σ' => SpOK σ' 201 0)) 0 [vr 197] [] (198) sh σ 0 0
  have K0 : sh 197 = .inr (.inr (8, [some none, some none, some none])) := h0
  have L0 : ∀ j, j < 197 → sh j = sh j := fun _ _ => rfl
  have H0 : ∀ j, 197 < j → j < 198 → sh j = SH j := fun j a b => by omega
  have R0 : ∀ j, j < 197 → σ j = σ j := fun _ _ => rfl
  refine Sat.fobj 170 md170 pp170 0 rfl rfl rfl (pc := 0) rfl rfl (by omega) (by omega) ?_
  show Sat X 2 10 1145 170 (iPost 197 11 sh σ (fun σ' => SpOK σ' 201 0)) 4 [vr 197] [] (198) sh σ 0 0
  refine Sat.fnew 170 md170 pp170 0 rfl rfl rfl (pc := 4) rfl rfl rfl rfl (q := (RX9, TX9, 3)) rfl (i_X9 iswk198) (by omega) (by omega) (by show 0 + 1 + 2 ≤ 10; omega) (by show 0 + 3 + 162 ≤ 1145; omega) K0 (Nat.le_of_ble_eq_true rfl) (by omega) L0 H0 (fun s1 t1 K1 L1 H1 B1 F1 => ?_)
  have K1 : s1 197 = .inr (.inr (8, [some (some (198)), some none, some none])) := K1
  have R1 : ∀ j, j < 197 → t1 j = σ j := fun j hj => (B1 j (by omega)).trans (R0 j hj)
  show Sat X 2 10 1145 170 (iPost 197 11 sh σ (fun σ' => SpOK σ' 201 0)) 15 [vr 197] [] (201) s1 t1 3 165
  refine Sat.fnew 170 md170 pp170 0 rfl rfl rfl (pc := 15) rfl rfl rfl rfl (q := (RX6, TX6, 8)) rfl (i_X6 issp201) (by omega) (by omega) (by show 3 + 1 + 5 ≤ 10; omega) (by show 165 + 8 + 891 ≤ 1145; omega) K1 (Nat.le_of_ble_eq_true rfl) (by omega) L1 H1 (fun s2 t2 K2 L2 H2 B2 F2 => ?_)
  have K2 : s2 197 = .inr (.inr (8, [some (some (198)), some (some (201)), some none])) := K2
  have R2 : ∀ j, j < 197 → t2 j = σ j := fun j hj => (B2 j (by omega)).trans (R1 j hj)
  show Sat X 2 10 1145 170 (iPost 197 11 sh σ (fun σ' => SpOK σ' 201 0)) 26 [vr 197] [] (207) s2 t2 9 1064
  refine Sat.farr 170 md170 pp170 0 rfl rfl rfl (pc := 26) 81 rfl rfl rfl (by omega) (by omega) (by omega) K2 (Nat.le_of_ble_eq_true rfl) (by omega) L2 H2 rfl (fun s3 t3 K3 L3 H3 A3 B3 => ?_)
  have K3 : s3 197 = .inr (.inr (8, [some (some (198)), some (some (201)), some (some (207))])) := K3
  have R3 : ∀ j, j < 197 → t3 j = σ j := fun j hj => (B3 j (by omega)).trans (R2 j hj)
  show Sat X 2 10 1145 170 (iPost 197 11 sh σ (fun σ' => SpOK σ' 201 0)) 34 [vr 197] [] (208) s3 t3 10 1145
  refine Sat.run 170 md170 pp170 0 rfl rfl rfl (by omega) (by omega) 2 34 ?_
  show True ∧ iPost 197 11 sh σ (fun σ' => SpOK σ' 201 0) none (208) s3 t3
  refine ⟨trivial, rfl, by omega, L3, fun j a b => ?_, R3, ?_⟩
  · by_cases e : j = 197
    · subst e; rw [K3]; exact (rfl).symm
    · exact H3 j (by omega) (by omega)
  · exact F2.cg (fun j a b => B3 j (by omega)) (Int.le_refl _)
end CTR
