-- THE CLASS'S MAZE, at cell k: what changes it
theorem bit_eq {x j : Int} (h0 : 0 ≤ x) (h1 : x < 65536) (h2 : 0 ≤ j) (h3 : j < 31) : band (bushr x j) 1 = x / 2 ^ j.toNat % 2 ∧ band (bshr x j) 1 = x / 2 ^ j.toNat % 2 := by
  obtain ⟨a, rfl⟩ := Int.eq_ofNat_of_zero_le h0
  obtain ⟨b, rfl⟩ := Int.eq_ofNat_of_zero_le h2
  have hb : b < 31 := by omega
  have ha : a < 65536 := by omega
  have e1 : bushr (a : Int) (b : Int) = ((a / 2 ^ b : Nat) : Int) := by
    unfold bushr
    rw [i_nat, i_nat]
    have := pk_ushrN (n := a) (by omega) (Int32.ofNat b) b (by
      have : b = 0 ∨ b = 1 ∨ b = 2 ∨ b = 3 ∨ b = 4 ∨ b = 5 ∨ b = 6 ∨ b = 7 ∨ b = 8 ∨ b = 9 ∨ b = 10 ∨ b = 11 ∨ b = 12 ∨ b = 13 ∨ b = 14 ∨ b = 15 ∨ b = 16 ∨ b = 17 ∨ b = 18 ∨ b = 19 ∨ b = 20 ∨ b = 21 ∨ b = 22 ∨ b = 23 ∨ b = 24 ∨ b = 25 ∨ b = 26 ∨ b = 27 ∨ b = 28 ∨ b = 29 ∨ b = 30 := by omega
      rcases this with h | h | h | h | h | h | h | h | h | h | h | h | h | h | h | h | h | h | h | h | h | h | h | h | h | h | h | h | h | h | h <;> subst h <;> decide +kernel)
    have e2 : nI a = Int32.ofNat a := rfl
    rw [e2] at this
    rw [this]
    have hle : a / 2 ^ b ≤ a := Nat.div_le_self _ _
    exact nI_toInt (by omega)
  have e2 : bshr (a : Int) (b : Int) = ((a / 2 ^ b : Nat) : Int) := by
    unfold bshr
    rw [i_nat, i_nat]
    have := pk_shrN (n := a) (by omega) (Int32.ofNat b &&& 31) b (by
      have : b = 0 ∨ b = 1 ∨ b = 2 ∨ b = 3 ∨ b = 4 ∨ b = 5 ∨ b = 6 ∨ b = 7 ∨ b = 8 ∨ b = 9 ∨ b = 10 ∨ b = 11 ∨ b = 12 ∨ b = 13 ∨ b = 14 ∨ b = 15 ∨ b = 16 ∨ b = 17 ∨ b = 18 ∨ b = 19 ∨ b = 20 ∨ b = 21 ∨ b = 22 ∨ b = 23 ∨ b = 24 ∨ b = 25 ∨ b = 26 ∨ b = 27 ∨ b = 28 ∨ b = 29 ∨ b = 30 := by omega
      rcases this with h | h | h | h | h | h | h | h | h | h | h | h | h | h | h | h | h | h | h | h | h | h | h | h | h | h | h | h | h | h | h <;> subst h <;> decide +kernel)
    have e2 : nI a = Int32.ofNat a := rfl
    rw [e2] at this
    rw [this]
    have hle : a / 2 ^ b ≤ a := Nat.div_le_self _ _
    exact nI_toInt (by omega)
  have e3 : ∀ c : Nat, c < 65536 → band (c : Int) 1 = ((c % 2 : Nat) : Int) := by
    intro c hc
    unfold band
    rw [i_nat]
    have := pk_andN (n := c) (by omega) (m := Int32.ofInt 1) 1 (by decide +kernel)
    have e2 : nI c = Int32.ofNat c := rfl
    rw [e2] at this
    rw [this]
    exact nI_toInt (by omega)
  have hle : a / 2 ^ b ≤ a := Nat.div_le_self _ _
  rw [e1, e2, e3 _ (by omega)]
  have e4 : ((b : Int)).toNat = b := rfl
  rw [e4]
  have e5 : ((a / 2 ^ b % 2 : Nat) : Int) = (a : Int) / 2 ^ b % 2 := by
    rw [Int.natCast_emod, Int.natCast_ediv, Int.natCast_pow]
    rfl
  exact ⟨e5, e5⟩
/-- a lamp more -/
def addL (M : Int → Int) (f w c : Int) : Int → Int := fun j => if j = 247 + 3 * M 2 then f else if j = 248 + 3 * M 2 then w else if j = 249 + 3 * M 2 then c else if j = 2 then M 2 + 1 else M j
def flip (M : Int → Int) (f : Int) : Int → Int := fun j => if j = 85 + f then 1 - M (85 + f) else M j
def set1 (M : Int → Int) (i v : Int) : Int → Int := fun j => if j = i then v else M j
section MZW
variable {X : Cx} {σ : Sg} {k : Nat} {M : Int → Int}
theorem mz_place (h : MzC σ k M) {f kd o : Int} (h0 : 0 ≤ f) (h1 : f < 81) : MzC (st (st (st σ (k + 1) f kd) (k + 2) f o) (k + 3) f 0) k (lay M f kd o) := by
  unfold MzC at *
  generalize hσ : st (st (st σ (k + 1) f kd) (k + 2) f o) (k + 3) f 0 = σ'
  have e1 : σ' (k + 1) = updI (σ (k + 1)) f kd := by rw [← hσ, st_off _ _ _ (show k + 1 ≠ k + 3 by omega), st_off _ _ _ (show k + 1 ≠ k + 2 by omega), st_row]
  have e2 : σ' (k + 2) = updI (σ (k + 2)) f o := by rw [← hσ, st_off _ _ _ (show k + 2 ≠ k + 3 by omega), st_row, st_off _ _ _ (show k + 2 ≠ k + 1 by omega)]
  have e3 : σ' (k + 3) = updI (σ (k + 3)) f 0 := by rw [← hσ, st_row, st_off _ _ _ (show k + 3 ≠ k + 2 by omega), st_off _ _ _ (show k + 3 ≠ k + 1 by omega)]
  have eo : ∀ j, j ≠ k + 1 → j ≠ k + 2 → j ≠ k + 3 → σ' j = σ j := fun j a b c => by rw [← hσ, st_off _ _ _ c, st_off _ _ _ b, st_off _ _ _ a]
  rw [e1, e2, e3, eo k (by omega) (by omega) (by omega), eo (k + 4) (by omega) (by omega) (by omega), eo (k + 5) (by omega) (by omega) (by omega), eo (k + 6) (by omega) (by omega) (by omega)]
  obtain ⟨g1, g2, g3, g4, g5⟩ := h
  have el : ∀ j, j ≠ 4 + f → j ≠ 85 + f → j ≠ 166 + f → lay M f kd o j = M j := fun j a b c => by unfold lay; rw [if_neg a, if_neg b, if_neg c]
  refine ⟨by rw [el 0 (by omega) (by omega) (by omega)]; exact g1, by rw [el 1 (by omega) (by omega) (by omega)]; exact g2, by rw [el 2 (by omega) (by omega) (by omega)]; exact g3, fun j a b => ?_, fun l a b => ?_⟩
  · obtain ⟨x1, x2, x3⟩ := g4 j a b
    unfold updI
    by_cases hj : j = f
    · subst hj
      unfold lay
      rw [if_pos rfl, if_pos rfl, if_pos rfl, if_pos rfl, if_neg (by omega), if_pos rfl, if_neg (by omega), if_neg (by omega), if_pos rfl]
      exact ⟨rfl, rfl, rfl⟩
    · rw [if_neg hj, if_neg hj, if_neg hj, el (4 + j) (by omega) (by omega) (by omega), el (85 + j) (by omega) (by omega) (by omega), el (166 + j) (by omega) (by omega) (by omega)]
      exact ⟨x1, x2, x3⟩
  · rw [el (247 + 3 * l) (by omega) (by omega) (by omega), el (248 + 3 * l) (by omega) (by omega) (by omega), el (249 + 3 * l) (by omega) (by omega) (by omega)]
    exact g5 l a b
theorem fr_st2 {lo hi k : Nat} {σ σ0 : Sg} {i x : Int} (h : Fr lo hi σ0 σ) (h1 : lo ≤ k) (h2 : k ≤ hi) : Fr lo hi σ0 (st σ k i x) := h.tr (Fr.st h1 h2)
theorem c_place (hk : Ismz k) (hM : MzC σ k M) (f kd o : Int) (h0 : 0 ≤ f) (h1 : f < 81) : C0 X 1 132 [vr k, vi f, vi kd, vi o] σ (fun r σ' => r = none ∧ MzC σ' k (lay M f kd o) ∧ Fr k (k + 6) σ σ') := by
  refine C0.intro md132 (by decide) rfl (by decide) (Nat.le_of_ble_eq_true rfl) ?_
  intro hin hav
  show S0 X _ 132 _ 0 [vr k, vi f, vi kd, vi o] [] _
  refine S0.run 132 md132 pp132 0 rfl rfl rfl 40 0 ?_
  simp only [ev_s, ev_hd, ev_sf, ev_hd0, ev_sf0, ev_0, ev_1, ev_34, ev_li, ev_lr, ev_lx, ev_2, ev_35, ev_3, ev_4, ev_b0, ev_b1, ev_b2, ev_b3, ev_b4, ev_b5, ev_b6, ev_b7, ev_b8, ev_b9, ev_b10, ev_5, ev_6, ev_c0, ev_c1, ev_c2, ev_c3, ev_c4, ev_c5, ev_7, ev_8, ev_9, ev_33, ev_11, ev_12, ev_12x, ev_13, ev_14, ev_15, ev_16, ev_18, ev_18x, ev_22, ev_23, ev_24, ev_32, ev_25, ev_26, ev_27, ev_28, ev_31, ev_w1, ev_w2, ev_p1, ev_p2, ev_p3, ev_p4, ev_p5, ev_p6, ev_p0, ev_n0, ev_n1, ev_n2, ev_n3, ev_n4, ev_n5, ev_n6, ev_n7, ev_m0, ev_m1, ev_m2, ev_m3, ev_m4, ev_m5, ev_m6, ev_m7, ev_r0, ev_r1, ev_r2, ev16, ev30, cond_true, cond_false, true_and, and_true, Int.cast_ofNat_Int, Nat.reduceLT, Nat.reduceLeDiff, Nat.reduceBEq, Int.reduceLT, Int.reduceLE, Int.reduceEq, Int.reduceAdd, Nat.reduceEqDiff, not_true_eq_false, not_false_eq_true, false_implies, forall_const, eq_self, Nat.reduceAdd, Option.toList_some, Option.toList_none, List.cons_append, List.nil_append, List.length_cons, List.length_nil, Bool.false_eq_true, reduceCtorEq, true_or, or_true, false_or, or_false, Int.reduceNeg, implies_true, true_implies, xl1, xl2, xl3, xf1, xf2, xf3, p132_0, sq132_0, pfmz_0 hk, gfmz_0 hk, pfmz_1 hk, gfmz_1 hk, gfmz_2 hk, gfmz_3 hk, gfmz_4 hk, pfmz_5 hk, gfmz_5 hk, gfmz_6 hk, gfmz_7 hk, gfmz_8 hk, icmz hk, armz1 hk, almz1 hk, armz2 hk, almz2 hk, armz3 hk, almz3 hk, armz4 hk, almz4 hk, armz5 hk, almz5 hk, armz6 hk, almz6 hk, iimz1 hk, iimz2 hk, iimz3 hk, iimz4 hk, iimz5 hk, iimz6 hk]
  exact ⟨by omega, by omega, by omega, mz_place hM h0 h1, fr_st2 (fr_st2 (Fr.st (by omega) (by omega)) (by omega) (by omega)) (by omega) (by omega)⟩
theorem mz_flip (h : MzC σ k M) {f : Int} (h0 : 0 ≤ f) (h1 : f < 81) : MzC (st σ (k + 2) f (1 - σ (k + 2) f)) k (flip M f) := by
  unfold MzC at *
  have e : ∀ j, j ≠ k + 2 → st σ (k + 2) f (1 - σ (k + 2) f) j = σ j := fun j a => st_off _ _ _ a
  rw [e k (by omega), e (k + 1) (by omega), e (k + 3) (by omega), e (k + 4) (by omega), e (k + 5) (by omega), e (k + 6) (by omega), st_row]
  obtain ⟨g1, g2, g3, g4, g5⟩ := h
  have el : ∀ j, j ≠ 85 + f → flip M f j = M j := fun j a => by unfold flip; rw [if_neg a]
  refine ⟨by rw [el 0 (by omega)]; exact g1, by rw [el 1 (by omega)]; exact g2, by rw [el 2 (by omega)]; exact g3, fun j a b => ?_, fun l a b => ?_⟩
  · obtain ⟨x1, x2, x3⟩ := g4 j a b
    rw [el (4 + j) (by omega), el (166 + j) (by omega)]
    unfold updI
    by_cases hj : j = f
    · subst hj
      unfold flip
      rw [if_pos rfl, if_pos rfl, x2]
      exact ⟨x1, rfl, x3⟩
    · rw [if_neg hj, el (85 + j) (by omega)]
      exact ⟨x1, x2, x3⟩
  · rw [el (247 + 3 * l) (by omega), el (248 + 3 * l) (by omega), el (249 + 3 * l) (by omega)]
    exact g5 l a b
theorem c_leanOver (hk : Ismz k) (hM : MzC σ k M) (f : Int) (h0 : 0 ≤ f) (h1 : f < 81) (h2 : 0 ≤ M (85 + f) ∧ M (85 + f) ≤ 2) : C0 X 1 133 [vr k, vi f] σ (fun r σ' => r = none ∧ MzC σ' k (flip M f) ∧ Fr k (k + 6) σ σ') := by
  have e2 := (hM.2.2.2.1 f h0 h1).2.1
  refine C0.intro md133 (by decide) rfl (by decide) (Nat.le_of_ble_eq_true rfl) ?_
  intro hin hav
  show S0 X _ 133 _ 0 [vr k, vi f] [] _
  refine S0.run 133 md133 pp133 0 rfl rfl rfl 40 0 ?_
  simp only [ev_s, ev_hd, ev_sf, ev_hd0, ev_sf0, ev_0, ev_1, ev_34, ev_li, ev_lr, ev_lx, ev_2, ev_35, ev_3, ev_4, ev_b0, ev_b1, ev_b2, ev_b3, ev_b4, ev_b5, ev_b6, ev_b7, ev_b8, ev_b9, ev_b10, ev_5, ev_6, ev_c0, ev_c1, ev_c2, ev_c3, ev_c4, ev_c5, ev_7, ev_8, ev_9, ev_33, ev_11, ev_12, ev_12x, ev_13, ev_14, ev_15, ev_16, ev_18, ev_18x, ev_22, ev_23, ev_24, ev_32, ev_25, ev_26, ev_27, ev_28, ev_31, ev_w1, ev_w2, ev_p1, ev_p2, ev_p3, ev_p4, ev_p5, ev_p6, ev_p0, ev_n0, ev_n1, ev_n2, ev_n3, ev_n4, ev_n5, ev_n6, ev_n7, ev_m0, ev_m1, ev_m2, ev_m3, ev_m4, ev_m5, ev_m6, ev_m7, ev_r0, ev_r1, ev_r2, ev16, ev30, cond_true, cond_false, true_and, and_true, Int.cast_ofNat_Int, Nat.reduceLT, Nat.reduceLeDiff, Nat.reduceBEq, Int.reduceLT, Int.reduceLE, Int.reduceEq, Int.reduceAdd, Nat.reduceEqDiff, not_true_eq_false, not_false_eq_true, false_implies, forall_const, eq_self, Nat.reduceAdd, Option.toList_some, Option.toList_none, List.cons_append, List.nil_append, List.length_cons, List.length_nil, Bool.false_eq_true, reduceCtorEq, true_or, or_true, false_or, or_false, Int.reduceNeg, implies_true, true_implies, xl1, xl2, xl3, xf1, xf2, xf3, p133_0, sq133_0, pfmz_0 hk, gfmz_0 hk, pfmz_1 hk, gfmz_1 hk, gfmz_2 hk, gfmz_3 hk, gfmz_4 hk, pfmz_5 hk, gfmz_5 hk, gfmz_6 hk, gfmz_7 hk, gfmz_8 hk, icmz hk, armz1 hk, almz1 hk, armz2 hk, almz2 hk, armz3 hk, almz3 hk, armz4 hk, almz4 hk, armz5 hk, almz5 hk, armz6 hk, almz6 hk, iimz1 hk, iimz2 hk, iimz3 hk, iimz4 hk, iimz5 hk, iimz6 hk]
  exact ⟨by omega, by unfold InR; omega, by omega, mz_flip hM h0 h1, Fr.st (by omega) (by omega)⟩
theorem mz_addL (h : MzC σ k M) {f w c : Int} (h0 : 0 ≤ M 2) (h1 : M 2 < 6) : MzC (st (st (st (st σ (k + 4) (M 2) f) (k + 5) (M 2) w) (k + 6) (M 2) c) k 5 (M 2 + 1)) k (addL M f w c) := by
  unfold MzC at *
  generalize hσ : st (st (st (st σ (k + 4) (M 2) f) (k + 5) (M 2) w) (k + 6) (M 2) c) k 5 (M 2 + 1) = σ'
  have ek : σ' k = updI (σ k) 5 (M 2 + 1) := by rw [← hσ, st_row, st_off _ _ _ (show k ≠ k + 6 by omega), st_off _ _ _ (show k ≠ k + 5 by omega), st_off _ _ _ (show k ≠ k + 4 by omega)]
  have e4 : σ' (k + 4) = updI (σ (k + 4)) (M 2) f := by rw [← hσ, st_off _ _ _ (show k + 4 ≠ k by omega), st_off _ _ _ (show k + 4 ≠ k + 6 by omega), st_off _ _ _ (show k + 4 ≠ k + 5 by omega), st_row]
  have e5 : σ' (k + 5) = updI (σ (k + 5)) (M 2) w := by rw [← hσ, st_off _ _ _ (show k + 5 ≠ k by omega), st_off _ _ _ (show k + 5 ≠ k + 6 by omega), st_row, st_off _ _ _ (show k + 5 ≠ k + 4 by omega)]
  have e6 : σ' (k + 6) = updI (σ (k + 6)) (M 2) c := by rw [← hσ, st_off _ _ _ (show k + 6 ≠ k by omega), st_row, st_off _ _ _ (show k + 6 ≠ k + 5 by omega), st_off _ _ _ (show k + 6 ≠ k + 4 by omega)]
  have eo : ∀ j, j ≠ k → j ≠ k + 4 → j ≠ k + 5 → j ≠ k + 6 → σ' j = σ j := fun j a b d e => by rw [← hσ, st_off _ _ _ a, st_off _ _ _ e, st_off _ _ _ d, st_off _ _ _ b]
  rw [ek, e4, e5, e6, eo (k + 1) (by omega) (by omega) (by omega) (by omega), eo (k + 2) (by omega) (by omega) (by omega) (by omega), eo (k + 3) (by omega) (by omega) (by omega) (by omega)]
  obtain ⟨g1, g2, g3, g4, g5⟩ := h
  have el : ∀ j, j ≠ 247 + 3 * M 2 → j ≠ 248 + 3 * M 2 → j ≠ 249 + 3 * M 2 → j ≠ 2 → addL M f w c j = M j := fun j a b d e => by unfold addL; rw [if_neg a, if_neg b, if_neg d, if_neg e]
  unfold updI
  refine ⟨by rw [if_neg (by omega), el 0 (by omega) (by omega) (by omega) (by omega)]; exact g1, by rw [if_neg (by omega), el 1 (by omega) (by omega) (by omega) (by omega)]; exact g2, ?_, fun j a b => ?_, fun l a b => ?_⟩
  · unfold addL
    rw [if_pos rfl, if_neg (by omega), if_neg (by omega), if_neg (by omega), if_pos rfl]
  · rw [el (4 + j) (by omega) (by omega) (by omega) (by omega), el (85 + j) (by omega) (by omega) (by omega) (by omega), el (166 + j) (by omega) (by omega) (by omega) (by omega)]
    exact g4 j a b
  · by_cases hl : l = M 2
    · subst hl
      unfold addL
      rw [if_pos rfl, if_pos rfl, if_pos rfl, if_pos rfl, if_neg (by omega), if_pos rfl, if_neg (by omega), if_neg (by omega), if_pos rfl]
      exact ⟨rfl, rfl, rfl⟩
    · rw [if_neg hl, if_neg hl, if_neg hl, el (247 + 3 * l) (by omega) (by omega) (by omega) (by omega), el (248 + 3 * l) (by omega) (by omega) (by omega) (by omega), el (249 + 3 * l) (by omega) (by omega) (by omega) (by omega)]
      exact g5 l a b
theorem st_get {σ : Sg} {k k' : Nat} {i x j : Int} (h : k' ≠ k) : st σ k i x k' j = σ k' j := by rw [st_off _ _ _ h]
theorem c_addLamp (hk : Ismz k) (hM : MzC σ k M) (f w c : Int) (h0 : 0 ≤ M 2) (h1 : M 2 < 6) : C0 X 1 134 [vr k, vi f, vi w, vi c] σ (fun r σ' => r = none ∧ MzC σ' k (addL M f w c) ∧ Fr k (k + 6) σ σ') := by
  have e5 := hM.2.2.1
  have s1 : ∀ x, st σ (k + 4) (M 2) x k 5 = M 2 := fun x => by rw [st_get (by omega)]; exact e5
  have s2 : ∀ x y, st (st σ (k + 4) (M 2) x) (k + 5) (M 2) y k 5 = M 2 := fun x y => by rw [st_get (by omega)]; exact s1 x
  have s3 : ∀ x y z, st (st (st σ (k + 4) (M 2) x) (k + 5) (M 2) y) (k + 6) (M 2) z k 5 = M 2 := fun x y z => by rw [st_get (by omega)]; exact s2 x y
  refine C0.intro md134 (by decide) rfl (by decide) (Nat.le_of_ble_eq_true rfl) ?_
  intro hin hav
  show S0 X _ 134 _ 0 [vr k, vi f, vi w, vi c] [] _
  refine S0.run 134 md134 pp134 0 rfl rfl rfl 60 0 ?_
  simp only [ev_s, ev_hd, ev_sf, ev_hd0, ev_sf0, ev_0, ev_1, ev_34, ev_li, ev_lr, ev_lx, ev_2, ev_35, ev_3, ev_4, ev_b0, ev_b1, ev_b2, ev_b3, ev_b4, ev_b5, ev_b6, ev_b7, ev_b8, ev_b9, ev_b10, ev_5, ev_6, ev_c0, ev_c1, ev_c2, ev_c3, ev_c4, ev_c5, ev_7, ev_8, ev_9, ev_33, ev_11, ev_12, ev_12x, ev_13, ev_14, ev_15, ev_16, ev_18, ev_18x, ev_22, ev_23, ev_24, ev_32, ev_25, ev_26, ev_27, ev_28, ev_31, ev_w1, ev_w2, ev_p1, ev_p2, ev_p3, ev_p4, ev_p5, ev_p6, ev_p0, ev_n0, ev_n1, ev_n2, ev_n3, ev_n4, ev_n5, ev_n6, ev_n7, ev_m0, ev_m1, ev_m2, ev_m3, ev_m4, ev_m5, ev_m6, ev_m7, ev_r0, ev_r1, ev_r2, ev16, ev30, cond_true, cond_false, true_and, and_true, Int.cast_ofNat_Int, Nat.reduceLT, Nat.reduceLeDiff, Nat.reduceBEq, Int.reduceLT, Int.reduceLE, Int.reduceEq, Int.reduceAdd, Nat.reduceEqDiff, not_true_eq_false, not_false_eq_true, false_implies, forall_const, eq_self, Nat.reduceAdd, Option.toList_some, Option.toList_none, List.cons_append, List.nil_append, List.length_cons, List.length_nil, Bool.false_eq_true, reduceCtorEq, true_or, or_true, false_or, or_false, Int.reduceNeg, implies_true, true_implies, xl1, xl2, xl3, xf1, xf2, xf3, p134_0, p134_49, sq134_0, sq134_49, pfmz_0 hk, gfmz_0 hk, pfmz_1 hk, gfmz_1 hk, gfmz_2 hk, gfmz_3 hk, gfmz_4 hk, pfmz_5 hk, gfmz_5 hk, gfmz_6 hk, gfmz_7 hk, gfmz_8 hk, icmz hk, armz1 hk, almz1 hk, armz2 hk, almz2 hk, armz3 hk, almz3 hk, armz4 hk, almz4 hk, armz5 hk, almz5 hk, armz6 hk, almz6 hk, iimz1 hk, iimz2 hk, iimz3 hk, iimz4 hk, iimz5 hk, iimz6 hk, e5, s1, s2, s3]
  refine ⟨fun q => by omega, fun _ => ⟨by omega, by omega, by omega, by unfold InR; omega, mz_addL hM h0 h1, ?_⟩⟩
  exact fr_st2 (fr_st2 (fr_st2 (Fr.st (by omega) (by omega)) (by omega) (by omega)) (by omega) (by omega)) (by omega) (by omega)
end MZW
