-- THE SPREAD: the class's, from a place
section SPE
variable {X : Cx} {σ : Sg} {M : Int → Int} {k m : Nat}
/-- a whole spread stands at k -/
def GFP (σ σ' : Sg) (k : Nat) (M : Int → Int) (f w : Int) : Prop := σ' k 5 = σ k 5 + 1 ∧ σ' k 6 = f ∧ Fr k (k + 4) σ σ' ∧ ∃ c : Nat, SPI σ' k M (4 * f + w) c c ∧ ∃ j : Nat, j < c ∧ σ' (k + 1) j = 4 * f + w
theorem c_goFrom (hk : Issp k) (hm : Ismz m) (hC : MzC σ m M) (hM : wfB M) (hd : m + 6 < k ∨ k + 4 < m) {B : Int} (hB : SpOK σ k B) (hBB : B < 2000000000) (f w : Int) (hf : isF M f) (hw : isW w) : C0 X 4 156 [vr k, vr m, vi f, vi w] σ (fun r' σ' => r' = none ∧ GFP σ σ' k M f w) := by
  obtain ⟨B1, B2, B3⟩ := hB
  have hr : isP (4 * f + w) := by omega
  have hf4 : isF M ((4 * f + w) / 4) := by rw [show (4 * f + w) / 4 = f from by omega]; exact hf
  refine C0.intro md156 (by decide) rfl (by decide) (Nat.le_of_ble_eq_true rfl) ?_
  intro hin hav
  show S0 X _ 156 _ 0 [vr k, vr m, vi f, vi w, vx 9] [] _
  have loop : ∀ (n i c : Nat) (σ1 : Sg), i + n = 324 → i ≤ c → SPI σ1 k M (4 * f + w) i c → (∃ j : Nat, j < c ∧ σ1 (k + 1) j = 4 * f + w) → Fr k (k + 4) σ σ1 → σ1 k 5 = σ k 5 + 1 → σ1 k 6 = f → S0 X 4 156 (fun r' σ' => r' = none ∧ GFP σ σ' k M f w) 29 [vr k, vr m, vi f, vi w, vi (i : Int)] [] σ1 := by
    intro n
    induction n with
    | zero =>
      intro i c σ1 h1 h2 hS hs hF h5 h6
      have hb := hS.1.2.2.1.bd hM hr hf4
      have e1 := hS.1.1
      have : i = c := by omega
      subst this
      refine S0.run 156 md156 pp156 0 rfl rfl rfl 40 29 ?_
      simp only [ev_s, ev_hd, ev_sf, ev_hd0, ev_sf0, ev_0, ev_1, ev_34, ev_li, ev_lr, ev_lx, ev_2, ev_35, ev_3, ev_4, ev_b0, ev_b1, ev_b2, ev_b3, ev_b4, ev_b5, ev_b6, ev_b7, ev_b8, ev_b9, ev_b10, ev_5, ev_6, ev_c0, ev_c1, ev_c2, ev_c3, ev_c4, ev_c5, ev_7, ev_8, ev_9, ev_33, ev_11, ev_12, ev_12x, ev_13, ev_14, ev_15, ev_16, ev_18, ev_18x, ev_22, ev_23, ev_24, ev_32, ev_25, ev_26, ev_27, ev_28, ev_31, ev_w1, ev_w2, ev_p1, ev_p2, ev_p3, ev_p4, ev_p5, ev_p6, ev_p0, ev_n0, ev_n1, ev_n2, ev_n3, ev_n4, ev_n5, ev_n6, ev_n7, ev_m0, ev_m1, ev_m2, ev_m3, ev_m4, ev_m5, ev_m6, ev_m7, ev_r0, ev_r1, ev_r2, ev16, ev30, cond_true, cond_false, true_and, and_true, Int.cast_ofNat_Int, Nat.reduceLT, Nat.reduceLeDiff, Nat.reduceBEq, Int.reduceLT, Int.reduceLE, Int.reduceEq, Int.reduceAdd, Nat.reduceEqDiff, not_true_eq_false, not_false_eq_true, false_implies, forall_const, eq_self, Nat.reduceAdd, Option.toList_some, Option.toList_none, List.cons_append, List.nil_append, List.length_cons, List.length_nil, Bool.false_eq_true, reduceCtorEq, true_or, or_true, false_or, or_false, Int.reduceNeg, implies_true, true_implies, xl1, xl2, xl3, xf1, xf2, xf3, p156_0, p156_29, p156_75, sq156_0, sq156_29, sq156_75, gfsp_0 hk, pfsp_1 hk, gfsp_1 hk, gfsp_2 hk, gfsp_3 hk, gfsp_4 hk, pfsp_5 hk, gfsp_5 hk, pfsp_6 hk, gfsp_6 hk, gfsp_7 hk, icsp hk, arsp1 hk, alsp1 hk, arsp2 hk, alsp2 hk, arsp3 hk, alsp3 hk, arsp4 hk, alsp4 hk, arsp5 hk, alsp5 hk, iisp1 hk, iisp2 hk, iisp3 hk, iisp4 hk, iisp5 hk, e1]
      refine ⟨fun _ => ⟨h5, h6, hF, i, hS, hs⟩, fun q => by omega⟩
    | succ n ih =>
      intro i c σ1 h1 h2 hS hs hF h5 h6
      have hb := hS.1.2.2.1.bd hM hr hf4
      have e1 := hS.1.1
      by_cases hic : i = c
      · subst hic
        refine S0.run 156 md156 pp156 0 rfl rfl rfl 40 29 ?_
        simp only [ev_s, ev_hd, ev_sf, ev_hd0, ev_sf0, ev_0, ev_1, ev_34, ev_li, ev_lr, ev_lx, ev_2, ev_35, ev_3, ev_4, ev_b0, ev_b1, ev_b2, ev_b3, ev_b4, ev_b5, ev_b6, ev_b7, ev_b8, ev_b9, ev_b10, ev_5, ev_6, ev_c0, ev_c1, ev_c2, ev_c3, ev_c4, ev_c5, ev_7, ev_8, ev_9, ev_33, ev_11, ev_12, ev_12x, ev_13, ev_14, ev_15, ev_16, ev_18, ev_18x, ev_22, ev_23, ev_24, ev_32, ev_25, ev_26, ev_27, ev_28, ev_31, ev_w1, ev_w2, ev_p1, ev_p2, ev_p3, ev_p4, ev_p5, ev_p6, ev_p0, ev_n0, ev_n1, ev_n2, ev_n3, ev_n4, ev_n5, ev_n6, ev_n7, ev_m0, ev_m1, ev_m2, ev_m3, ev_m4, ev_m5, ev_m6, ev_m7, ev_r0, ev_r1, ev_r2, ev16, ev30, cond_true, cond_false, true_and, and_true, Int.cast_ofNat_Int, Nat.reduceLT, Nat.reduceLeDiff, Nat.reduceBEq, Int.reduceLT, Int.reduceLE, Int.reduceEq, Int.reduceAdd, Nat.reduceEqDiff, not_true_eq_false, not_false_eq_true, false_implies, forall_const, eq_self, Nat.reduceAdd, Option.toList_some, Option.toList_none, List.cons_append, List.nil_append, List.length_cons, List.length_nil, Bool.false_eq_true, reduceCtorEq, true_or, or_true, false_or, or_false, Int.reduceNeg, implies_true, true_implies, xl1, xl2, xl3, xf1, xf2, xf3, p156_0, p156_29, p156_75, sq156_0, sq156_29, sq156_75, gfsp_0 hk, pfsp_1 hk, gfsp_1 hk, gfsp_2 hk, gfsp_3 hk, gfsp_4 hk, pfsp_5 hk, gfsp_5 hk, pfsp_6 hk, gfsp_6 hk, gfsp_7 hk, icsp hk, arsp1 hk, alsp1 hk, arsp2 hk, alsp2 hk, arsp3 hk, alsp3 hk, arsp4 hk, alsp4 hk, arsp5 hk, alsp5 hk, iisp1 hk, iisp2 hk, iisp3 hk, iisp4 hk, iisp5 hk, e1]
        refine ⟨fun _ => ⟨h5, h6, hF, i, hS, hs⟩, fun q => by omega⟩
      · have hp := (rch_P hM hr hf4 (hS.1.2.2.1.1 i (by omega))).1
        have hp : isP (σ1 (k + 1) (i : Int)) := hp
        refine S0.run 156 md156 pp156 0 rfl rfl rfl 40 29 ?_
        simp only [ev_s, ev_hd, ev_sf, ev_hd0, ev_sf0, ev_0, ev_1, ev_34, ev_li, ev_lr, ev_lx, ev_2, ev_35, ev_3, ev_4, ev_b0, ev_b1, ev_b2, ev_b3, ev_b4, ev_b5, ev_b6, ev_b7, ev_b8, ev_b9, ev_b10, ev_5, ev_6, ev_c0, ev_c1, ev_c2, ev_c3, ev_c4, ev_c5, ev_7, ev_8, ev_9, ev_33, ev_11, ev_12, ev_12x, ev_13, ev_14, ev_15, ev_16, ev_18, ev_18x, ev_22, ev_23, ev_24, ev_32, ev_25, ev_26, ev_27, ev_28, ev_31, ev_w1, ev_w2, ev_p1, ev_p2, ev_p3, ev_p4, ev_p5, ev_p6, ev_p0, ev_n0, ev_n1, ev_n2, ev_n3, ev_n4, ev_n5, ev_n6, ev_n7, ev_m0, ev_m1, ev_m2, ev_m3, ev_m4, ev_m5, ev_m6, ev_m7, ev_r0, ev_r1, ev_r2, ev16, ev30, cond_true, cond_false, true_and, and_true, Int.cast_ofNat_Int, Nat.reduceLT, Nat.reduceLeDiff, Nat.reduceBEq, Int.reduceLT, Int.reduceLE, Int.reduceEq, Int.reduceAdd, Nat.reduceEqDiff, not_true_eq_false, not_false_eq_true, false_implies, forall_const, eq_self, Nat.reduceAdd, Option.toList_some, Option.toList_none, List.cons_append, List.nil_append, List.length_cons, List.length_nil, Bool.false_eq_true, reduceCtorEq, true_or, or_true, false_or, or_false, Int.reduceNeg, implies_true, true_implies, xl1, xl2, xl3, xf1, xf2, xf3, p156_0, p156_29, p156_75, sq156_0, sq156_29, sq156_75, gfsp_0 hk, pfsp_1 hk, gfsp_1 hk, gfsp_2 hk, gfsp_3 hk, gfsp_4 hk, pfsp_5 hk, gfsp_5 hk, pfsp_6 hk, gfsp_6 hk, gfsp_7 hk, icsp hk, arsp1 hk, alsp1 hk, arsp2 hk, alsp2 hk, arsp3 hk, alsp3 hk, arsp4 hk, alsp4 hk, arsp5 hk, alsp5 hk, iisp1 hk, iisp2 hk, iisp3 hk, iisp4 hk, iisp5 hk, e1]
        refine ⟨fun q => by omega, fun _ => ⟨fun q => by omega, fun _ => ?_⟩⟩
        repeat (refine And.intro (by (try unfold InR); omega) ?_)
        refine K0.use (c_goOn hk hm (hC.fr hF hd) hM hd hr hf4 (by omega) hS _ rfl) (by decide) (Nat.le_of_ble_eq_true rfl) (fun r' σ2 hi hv hq => ?_)
        obtain ⟨rfl, c2, d1, d2, d3, d4, d5⟩ := hq
        refine S0.run 156 md156 pp156 0 rfl rfl rfl 40 69 ?_
        simp only [ev_s, ev_hd, ev_sf, ev_hd0, ev_sf0, ev_0, ev_1, ev_34, ev_li, ev_lr, ev_lx, ev_2, ev_35, ev_3, ev_4, ev_b0, ev_b1, ev_b2, ev_b3, ev_b4, ev_b5, ev_b6, ev_b7, ev_b8, ev_b9, ev_b10, ev_5, ev_6, ev_c0, ev_c1, ev_c2, ev_c3, ev_c4, ev_c5, ev_7, ev_8, ev_9, ev_33, ev_11, ev_12, ev_12x, ev_13, ev_14, ev_15, ev_16, ev_18, ev_18x, ev_22, ev_23, ev_24, ev_32, ev_25, ev_26, ev_27, ev_28, ev_31, ev_w1, ev_w2, ev_p1, ev_p2, ev_p3, ev_p4, ev_p5, ev_p6, ev_p0, ev_n0, ev_n1, ev_n2, ev_n3, ev_n4, ev_n5, ev_n6, ev_n7, ev_m0, ev_m1, ev_m2, ev_m3, ev_m4, ev_m5, ev_m6, ev_m7, ev_r0, ev_r1, ev_r2, ev16, ev30, cond_true, cond_false, true_and, and_true, Int.cast_ofNat_Int, Nat.reduceLT, Nat.reduceLeDiff, Nat.reduceBEq, Int.reduceLT, Int.reduceLE, Int.reduceEq, Int.reduceAdd, Nat.reduceEqDiff, not_true_eq_false, not_false_eq_true, false_implies, forall_const, eq_self, Nat.reduceAdd, Option.toList_some, Option.toList_none, List.cons_append, List.nil_append, List.length_cons, List.length_nil, Bool.false_eq_true, reduceCtorEq, true_or, or_true, false_or, or_false, Int.reduceNeg, implies_true, true_implies, xl1, xl2, xl3, xf1, xf2, xf3, p156_0, p156_29, p156_75, sq156_0, sq156_29, sq156_75, sq156_69, gfsp_0 hk, pfsp_1 hk, gfsp_1 hk, gfsp_2 hk, gfsp_3 hk, gfsp_4 hk, pfsp_5 hk, gfsp_5 hk, pfsp_6 hk, gfsp_6 hk, gfsp_7 hk, icsp hk, arsp1 hk, alsp1 hk, arsp2 hk, alsp2 hk, arsp3 hk, alsp3 hk, arsp4 hk, alsp4 hk, arsp5 hk, alsp5 hk, iisp1 hk, iisp2 hk, iisp3 hk, iisp4 hk, iisp5 hk]
        obtain ⟨j, x, y⟩ := hs
        exact ⟨by unfold InR; omega, ih (i + 1) c2 σ2 (by omega) (by omega) d2 ⟨j, by omega, by rw [d3 j x]; exact y⟩ (hF.tr d4) (by rw [d5 5 (by omega)]; exact h5) (by rw [d5 6 (by omega)]; exact h6)⟩
  refine S0.run 156 md156 pp156 0 rfl rfl rfl 40 0 ?_
  simp only [ev_s, ev_hd, ev_sf, ev_hd0, ev_sf0, ev_0, ev_1, ev_34, ev_li, ev_lr, ev_lx, ev_2, ev_35, ev_3, ev_4, ev_b0, ev_b1, ev_b2, ev_b3, ev_b4, ev_b5, ev_b6, ev_b7, ev_b8, ev_b9, ev_b10, ev_5, ev_6, ev_c0, ev_c1, ev_c2, ev_c3, ev_c4, ev_c5, ev_7, ev_8, ev_9, ev_33, ev_11, ev_12, ev_12x, ev_13, ev_14, ev_15, ev_16, ev_18, ev_18x, ev_22, ev_23, ev_24, ev_32, ev_25, ev_26, ev_27, ev_28, ev_31, ev_w1, ev_w2, ev_p1, ev_p2, ev_p3, ev_p4, ev_p5, ev_p6, ev_p0, ev_n0, ev_n1, ev_n2, ev_n3, ev_n4, ev_n5, ev_n6, ev_n7, ev_m0, ev_m1, ev_m2, ev_m3, ev_m4, ev_m5, ev_m6, ev_m7, ev_r0, ev_r1, ev_r2, ev16, ev30, cond_true, cond_false, true_and, and_true, Int.cast_ofNat_Int, Nat.reduceLT, Nat.reduceLeDiff, Nat.reduceBEq, Int.reduceLT, Int.reduceLE, Int.reduceEq, Int.reduceAdd, Nat.reduceEqDiff, not_true_eq_false, not_false_eq_true, false_implies, forall_const, eq_self, Nat.reduceAdd, Option.toList_some, Option.toList_none, List.cons_append, List.nil_append, List.length_cons, List.length_nil, Bool.false_eq_true, reduceCtorEq, true_or, or_true, false_or, or_false, Int.reduceNeg, implies_true, true_implies, xl1, xl2, xl3, xf1, xf2, xf3, p156_0, p156_29, p156_75, sq156_0, sq156_29, sq156_75, gfsp_0 hk, pfsp_1 hk, gfsp_1 hk, gfsp_2 hk, gfsp_3 hk, gfsp_4 hk, pfsp_5 hk, gfsp_5 hk, pfsp_6 hk, gfsp_6 hk, gfsp_7 hk, icsp hk, arsp1 hk, alsp1 hk, arsp2 hk, alsp2 hk, arsp3 hk, alsp3 hk, arsp4 hk, alsp4 hk, arsp5 hk, alsp5 hk, iisp1 hk, iisp2 hk, iisp3 hk, iisp4 hk, iisp5 hk]
  refine ⟨by unfold InR; omega, ?_⟩
  have z1 : ∀ k', k' ≠ k → st (st (st σ k 5 (σ k 5 + 1)) k 1 0) k 6 f k' = σ k' := fun k' a => by rw [st_off _ _ _ a, st_off _ _ _ a, st_off _ _ _ a]
  have z2 : st (st (st σ k 5 (σ k 5 + 1)) k 1 0) k 6 f k 5 = σ k 5 + 1 := by rw [st_mis (by omega), st_mis (by omega), st_hit]
  have z3 : st (st (st σ k 5 (σ k 5 + 1)) k 1 0) k 6 f k 1 = 0 := by rw [st_mis (by omega), st_hit]
  have z4 : st (st (st σ k 5 (σ k 5 + 1)) k 1 0) k 6 f k 6 = f := st_hit
  generalize st (st (st σ k 5 (σ k 5 + 1)) k 1 0) k 6 f = S at z1 z2 z3 z4 ⊢
  have hP : PLI S k M (4 * f + w) 0 0 := by
    refine ⟨by rw [z3]; rfl, fun p hp => ?_, WL.nil _ _ _, fun p hp => ?_⟩
    · rw [z2, z1 (k + 2) (by omega)]
      have := B2 p hp.1 hp.2
      exact ⟨fun q => by omega, fun ⟨j, a, b⟩ => by omega⟩
    · rw [z2, z1 (k + 2) (by omega)]
      have := B2 p hp.1 hp.2
      omega
  refine K0.use (c_add hk hM hr hf4 (Nat.le_refl 0) hP f w (rch_self M _) hf.1 hf.2.1 hw) (by decide) (Nat.le_of_ble_eq_true rfl) (fun r' σ2 hi hv hq => ?_)
  obtain ⟨rfl, c2, d1, d2, d3, d4, d5, d6⟩ := hq
  refine S0.run 156 md156 pp156 0 rfl rfl rfl 40 26 ?_
  simp only [ev_s, ev_hd, ev_sf, ev_hd0, ev_sf0, ev_0, ev_1, ev_34, ev_li, ev_lr, ev_lx, ev_2, ev_35, ev_3, ev_4, ev_b0, ev_b1, ev_b2, ev_b3, ev_b4, ev_b5, ev_b6, ev_b7, ev_b8, ev_b9, ev_b10, ev_5, ev_6, ev_c0, ev_c1, ev_c2, ev_c3, ev_c4, ev_c5, ev_7, ev_8, ev_9, ev_33, ev_11, ev_12, ev_12x, ev_13, ev_14, ev_15, ev_16, ev_18, ev_18x, ev_22, ev_23, ev_24, ev_32, ev_25, ev_26, ev_27, ev_28, ev_31, ev_w1, ev_w2, ev_p1, ev_p2, ev_p3, ev_p4, ev_p5, ev_p6, ev_p0, ev_n0, ev_n1, ev_n2, ev_n3, ev_n4, ev_n5, ev_n6, ev_n7, ev_m0, ev_m1, ev_m2, ev_m3, ev_m4, ev_m5, ev_m6, ev_m7, ev_r0, ev_r1, ev_r2, ev16, ev30, cond_true, cond_false, true_and, and_true, Int.cast_ofNat_Int, Nat.reduceLT, Nat.reduceLeDiff, Nat.reduceBEq, Int.reduceLT, Int.reduceLE, Int.reduceEq, Int.reduceAdd, Nat.reduceEqDiff, not_true_eq_false, not_false_eq_true, false_implies, forall_const, eq_self, Nat.reduceAdd, Option.toList_some, Option.toList_none, List.cons_append, List.nil_append, List.length_cons, List.length_nil, Bool.false_eq_true, reduceCtorEq, true_or, or_true, false_or, or_false, Int.reduceNeg, implies_true, true_implies, xl1, xl2, xl3, xf1, xf2, xf3, p156_0, p156_29, p156_75, sq156_0, sq156_29, sq156_75, sq156_26, gfsp_0 hk, pfsp_1 hk, gfsp_1 hk, gfsp_2 hk, gfsp_3 hk, gfsp_4 hk, pfsp_5 hk, gfsp_5 hk, pfsp_6 hk, gfsp_6 hk, gfsp_7 hk, icsp hk, arsp1 hk, alsp1 hk, arsp2 hk, alsp2 hk, arsp3 hk, alsp3 hk, arsp4 hk, alsp4 hk, arsp5 hk, alsp5 hk, iisp1 hk, iisp2 hk, iisp3 hk, iisp4 hk, iisp5 hk]
  have y5 : σ2 k 5 = σ k 5 + 1 := by rw [d6 5 (by omega)]; exact z2
  refine loop 324 0 c2 σ2 (by omega) (by omega) ⟨d2, fun g a b => ?_⟩ d4 (fun k' hk' => by rw [d5 k' (by omega) (by omega) (by omega), z1 k' (by omega)]) y5 (by rw [d6 6 (by omega)]; exact z4)
  have h3 := B3 g a b
  rw [y5, d5 (k + 3) (by omega) (by omega) (by omega), d5 (k + 4) (by omega) (by omega) (by omega), z1 (k + 3) (by omega), z1 (k + 4) (by omega)]
  exact ⟨⟨fun q => by omega, fun ⟨j, x, y⟩ => by omega⟩, ⟨fun q => by omega, fun ⟨j, x, y⟩ => by omega⟩, by omega, by omega⟩
end SPE
