-- THE SPREAD: what a whole one tells
section SPF
variable {X : Cx} {σ : Sg} {M : Int → Int} {k m : Nat}
theorem GFP.ok {σ' : Sg} {f w B : Int} (h : GFP σ σ' k M f w) (hB : SpOK σ k B) : SpOK σ' k (B + 1) := by
  obtain ⟨h5, h6, hF, c, hS, hs⟩ := h
  refine ⟨by rw [h5]; have := hB.1; omega, fun p a b => hS.1.2.2.2 p ⟨a, b⟩, fun f a b => ?_⟩
  exact (hS.2 f a b).2.2
theorem GFP.come {σ' : Sg} {f w : Int} (h : GFP σ σ' k M f w) (g : Int) (a : 0 ≤ g) (b : g < 81) : (σ' (k + 3) g = σ' k 5 ↔ cmt M (4 * f + w) g) ∧ (σ' (k + 4) g = σ' k 5 ↔ ens M (4 * f + w) g) := by
  obtain ⟨h5, h6, hF, c, hS, hs⟩ := h
  have hall := hS.1.2.2.1.all hs
  obtain ⟨q1, q2, -⟩ := hS.2 g a b
  rw [q1, q2]
  unfold cmt ens
  constructor
  · constructor
    · intro ⟨j, x, y, z⟩
      exact ⟨_, (hall _).mpr ⟨j, x, rfl⟩, y, z⟩
    · intro ⟨p, x, y, z⟩
      obtain ⟨j, u, e⟩ := (hall p).mp x
      have e : σ' (k + 1) j = p := e
      exact ⟨j, u, by rw [e]; exact y, z⟩
  · constructor
    · intro ⟨j, x, y, z⟩
      exact ⟨_, (hall _).mpr ⟨j, x, rfl⟩, y, z⟩
    · intro ⟨p, x, y, z⟩
      obtain ⟨j, u, e⟩ := (hall p).mp x
      have e : σ' (k + 1) j = p := e
      exact ⟨j, u, by rw [e]; exact y, z⟩
theorem c_holds (hk : Issp k) (f : Int) (h0 : 0 ≤ f) (h1 : f < 81) : C0 X 2 161 [vr k, vi f] σ (rI (if f = σ k 6 ∨ σ (k + 3) f = σ k 5 then 1 else 0) σ) := by
  refine C0.intro md161 (by decide) rfl (by decide) (Nat.le_of_ble_eq_true rfl) ?_
  intro hin hav
  show S0 X _ 161 _ 0 [vr k, vi f] [] _
  refine S0.run 161 md161 pp161 2 rfl rfl rfl 30 0 ?_
  simp only [ev_s, ev_hd, ev_sf, ev_hd0, ev_sf0, ev_0, ev_1, ev_34, ev_li, ev_lr, ev_lx, ev_2, ev_35, ev_3, ev_4, ev_b0, ev_b1, ev_b2, ev_b3, ev_b4, ev_b5, ev_b6, ev_b7, ev_b8, ev_b9, ev_b10, ev_5, ev_6, ev_c0, ev_c1, ev_c2, ev_c3, ev_c4, ev_c5, ev_7, ev_8, ev_9, ev_33, ev_11, ev_12, ev_12x, ev_13, ev_14, ev_15, ev_16, ev_18, ev_18x, ev_22, ev_23, ev_24, ev_32, ev_25, ev_26, ev_27, ev_28, ev_31, ev_w1, ev_w2, ev_p1, ev_p2, ev_p3, ev_p4, ev_p5, ev_p6, ev_p0, ev_n0, ev_n1, ev_n2, ev_n3, ev_n4, ev_n5, ev_n6, ev_n7, ev_m0, ev_m1, ev_m2, ev_m3, ev_m4, ev_m5, ev_m6, ev_m7, ev_r0, ev_r1, ev_r2, ev16, ev30, cond_true, cond_false, true_and, and_true, Int.cast_ofNat_Int, Nat.reduceLT, Nat.reduceLeDiff, Nat.reduceBEq, Int.reduceLT, Int.reduceLE, Int.reduceEq, Int.reduceAdd, Nat.reduceEqDiff, not_true_eq_false, not_false_eq_true, false_implies, forall_const, eq_self, Nat.reduceAdd, Option.toList_some, Option.toList_none, List.cons_append, List.nil_append, List.length_cons, List.length_nil, Bool.false_eq_true, reduceCtorEq, true_or, or_true, false_or, or_false, Int.reduceNeg, implies_true, true_implies, xl1, xl2, xl3, xf1, xf2, xf3, p161_0, p161_16, p161_20, p161_21, sq161_0, sq161_16, sq161_20, sq161_21, gfsp_0 hk, pfsp_1 hk, gfsp_1 hk, gfsp_2 hk, gfsp_3 hk, gfsp_4 hk, pfsp_5 hk, gfsp_5 hk, pfsp_6 hk, gfsp_6 hk, gfsp_7 hk, icsp hk, arsp1 hk, alsp1 hk, arsp2 hk, alsp2 hk, arsp3 hk, alsp3 hk, arsp4 hk, alsp4 hk, arsp5 hk, alsp5 hk, iisp1 hk, iisp2 hk, iisp3 hk, iisp4 hk, iisp5 hk]
  refine ⟨fun q => rB_t (Or.inl q), fun q => ?_⟩
  refine K0.useB (c_comesTo hk f h0 h1) (by decide) (Nat.le_of_ble_eq_true rfl) (fun q2 => ?_) (fun q2 => ?_)
  · refine S0.run 161 md161 pp161 2 rfl rfl rfl 30 13 ?_
    simp only [ev_s, ev_hd, ev_sf, ev_hd0, ev_sf0, ev_0, ev_1, ev_34, ev_li, ev_lr, ev_lx, ev_2, ev_35, ev_3, ev_4, ev_b0, ev_b1, ev_b2, ev_b3, ev_b4, ev_b5, ev_b6, ev_b7, ev_b8, ev_b9, ev_b10, ev_5, ev_6, ev_c0, ev_c1, ev_c2, ev_c3, ev_c4, ev_c5, ev_7, ev_8, ev_9, ev_33, ev_11, ev_12, ev_12x, ev_13, ev_14, ev_15, ev_16, ev_18, ev_18x, ev_22, ev_23, ev_24, ev_32, ev_25, ev_26, ev_27, ev_28, ev_31, ev_w1, ev_w2, ev_p1, ev_p2, ev_p3, ev_p4, ev_p5, ev_p6, ev_p0, ev_n0, ev_n1, ev_n2, ev_n3, ev_n4, ev_n5, ev_n6, ev_n7, ev_m0, ev_m1, ev_m2, ev_m3, ev_m4, ev_m5, ev_m6, ev_m7, ev_r0, ev_r1, ev_r2, ev16, ev30, cond_true, cond_false, true_and, and_true, Int.cast_ofNat_Int, Nat.reduceLT, Nat.reduceLeDiff, Nat.reduceBEq, Int.reduceLT, Int.reduceLE, Int.reduceEq, Int.reduceAdd, Nat.reduceEqDiff, not_true_eq_false, not_false_eq_true, false_implies, forall_const, eq_self, Nat.reduceAdd, Option.toList_some, Option.toList_none, List.cons_append, List.nil_append, List.length_cons, List.length_nil, Bool.false_eq_true, reduceCtorEq, true_or, or_true, false_or, or_false, Int.reduceNeg, implies_true, true_implies, xl1, xl2, xl3, xf1, xf2, xf3, p161_0, p161_16, p161_20, p161_21, sq161_0, sq161_16, sq161_20, sq161_21, sq161_13, gfsp_0 hk, pfsp_1 hk, gfsp_1 hk, gfsp_2 hk, gfsp_3 hk, gfsp_4 hk, pfsp_5 hk, gfsp_5 hk, pfsp_6 hk, gfsp_6 hk, gfsp_7 hk, icsp hk, arsp1 hk, alsp1 hk, arsp2 hk, alsp2 hk, arsp3 hk, alsp3 hk, arsp4 hk, alsp4 hk, arsp5 hk, alsp5 hk, iisp1 hk, iisp2 hk, iisp3 hk, iisp4 hk, iisp5 hk]
    exact rB_t (Or.inr q2)
  · refine S0.run 161 md161 pp161 2 rfl rfl rfl 30 13 ?_
    simp only [ev_s, ev_hd, ev_sf, ev_hd0, ev_sf0, ev_0, ev_1, ev_34, ev_li, ev_lr, ev_lx, ev_2, ev_35, ev_3, ev_4, ev_b0, ev_b1, ev_b2, ev_b3, ev_b4, ev_b5, ev_b6, ev_b7, ev_b8, ev_b9, ev_b10, ev_5, ev_6, ev_c0, ev_c1, ev_c2, ev_c3, ev_c4, ev_c5, ev_7, ev_8, ev_9, ev_33, ev_11, ev_12, ev_12x, ev_13, ev_14, ev_15, ev_16, ev_18, ev_18x, ev_22, ev_23, ev_24, ev_32, ev_25, ev_26, ev_27, ev_28, ev_31, ev_w1, ev_w2, ev_p1, ev_p2, ev_p3, ev_p4, ev_p5, ev_p6, ev_p0, ev_n0, ev_n1, ev_n2, ev_n3, ev_n4, ev_n5, ev_n6, ev_n7, ev_m0, ev_m1, ev_m2, ev_m3, ev_m4, ev_m5, ev_m6, ev_m7, ev_r0, ev_r1, ev_r2, ev16, ev30, cond_true, cond_false, true_and, and_true, Int.cast_ofNat_Int, Nat.reduceLT, Nat.reduceLeDiff, Nat.reduceBEq, Int.reduceLT, Int.reduceLE, Int.reduceEq, Int.reduceAdd, Nat.reduceEqDiff, not_true_eq_false, not_false_eq_true, false_implies, forall_const, eq_self, Nat.reduceAdd, Option.toList_some, Option.toList_none, List.cons_append, List.nil_append, List.length_cons, List.length_nil, Bool.false_eq_true, reduceCtorEq, true_or, or_true, false_or, or_false, Int.reduceNeg, implies_true, true_implies, xl1, xl2, xl3, xf1, xf2, xf3, p161_0, p161_16, p161_20, p161_21, sq161_0, sq161_16, sq161_20, sq161_21, sq161_13, gfsp_0 hk, pfsp_1 hk, gfsp_1 hk, gfsp_2 hk, gfsp_3 hk, gfsp_4 hk, pfsp_5 hk, gfsp_5 hk, pfsp_6 hk, gfsp_6 hk, gfsp_7 hk, icsp hk, arsp1 hk, alsp1 hk, arsp2 hk, alsp2 hk, arsp3 hk, alsp3 hk, arsp4 hk, alsp4 hk, arsp5 hk, alsp5 hk, iisp1 hk, iisp2 hk, iisp3 hk, iisp4 hk, iisp5 hk]
    exact rB_f (fun c => c.elim q q2)
end SPF
