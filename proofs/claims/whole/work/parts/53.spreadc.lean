-- THE SPREAD: the class's
section SPC
variable {X : Cx} {σ : Sg} {M : Int → Int} {k m : Nat}
/-- the places of a Spread at k, c of them, i of them followed -/
def PLI (σ : Sg) (k : Nat) (M : Int → Int) (r : Int) (i c : Nat) : Prop := σ k 1 = c ∧ (∀ p, isP p → (σ (k + 2) p = σ k 5 ↔ ∃ j : Nat, j < c ∧ σ (k + 1) j = p)) ∧ WL M r i c (fun j => σ (k + 1) j) ∧ ∀ p, isP p → σ (k + 2) p ≤ σ k 5
/-- p is among the places now -/
def ADP (σ σ' : Sg) (k : Nat) (M : Int → Int) (r : Int) (i c : Nat) (p : Int) : Prop := ∃ c' : Nat, c ≤ c' ∧ PLI σ' k M r i c' ∧ (∀ j : Nat, j < c → σ' (k + 1) j = σ (k + 1) j) ∧ (∃ l : Nat, l < c' ∧ σ' (k + 1) l = p) ∧ (∀ k', k' ≠ k → k' ≠ k + 1 → k' ≠ k + 2 → σ' k' = σ k') ∧ ∀ j, j ≠ 1 → σ' k j = σ k j
theorem c_add (hk : Issp k) (hM : wfB M) {r : Int} (hr : isP r) (hf : isF M (r / 4)) {i c : Nat} (hi : i ≤ c) (hP : PLI σ k M r i c) (f w : Int) (hp : rch M r (4 * f + w)) (h0 : 0 ≤ f) (h1 : f < 81) (hw : isW w) : C0 X 1 158 [vr k, vi f, vi w] σ (fun r' σ' => r' = none ∧ ADP σ σ' k M r i c (4 * f + w)) := by
  have hP0 := hP
  obtain ⟨p1, p2, p3, p4⟩ := hP
  have hip : isP (4 * f + w) := by omega
  have hlt : ¬ σ (k + 2) (4 * f + w) = σ k 5 → c < 324 := fun q => by
    have := (p3.push hi hp (fun j hj e => q ((p2 _ hip).mpr ⟨j, hj, e⟩)) (g' := fun j => if j = c then 4 * f + w else σ (k + 1) j) (fun j hj => if_neg (by omega)) (if_pos rfl)).bd hM hr hf
    omega
  refine C0.intro md158 (by decide) rfl (by decide) (Nat.le_of_ble_eq_true rfl) ?_
  intro hin hav
  show S0 X _ 158 _ 0 [vr k, vi f, vi w, vx 9] [] _
  refine S0.run 158 md158 pp158 0 rfl rfl rfl 40 0 ?_
  simp only [ev_s, ev_hd, ev_sf, ev_hd0, ev_sf0, ev_0, ev_1, ev_34, ev_li, ev_lr, ev_lx, ev_2, ev_35, ev_3, ev_4, ev_b0, ev_b1, ev_b2, ev_b3, ev_b4, ev_b5, ev_b6, ev_b7, ev_b8, ev_b9, ev_b10, ev_5, ev_6, ev_c0, ev_c1, ev_c2, ev_c3, ev_c4, ev_c5, ev_7, ev_8, ev_9, ev_33, ev_11, ev_12, ev_12x, ev_13, ev_14, ev_15, ev_16, ev_18, ev_18x, ev_22, ev_23, ev_24, ev_32, ev_25, ev_26, ev_27, ev_28, ev_31, ev_w1, ev_w2, ev_p1, ev_p2, ev_p3, ev_p4, ev_p5, ev_p6, ev_p0, ev_n0, ev_n1, ev_n2, ev_n3, ev_n4, ev_n5, ev_n6, ev_n7, ev_m0, ev_m1, ev_m2, ev_m3, ev_m4, ev_m5, ev_m6, ev_m7, ev_r0, ev_r1, ev_r2, ev16, ev30, cond_true, cond_false, true_and, and_true, Int.cast_ofNat_Int, Nat.reduceLT, Nat.reduceLeDiff, Nat.reduceBEq, Int.reduceLT, Int.reduceLE, Int.reduceEq, Int.reduceAdd, Nat.reduceEqDiff, not_true_eq_false, not_false_eq_true, false_implies, forall_const, eq_self, Nat.reduceAdd, Option.toList_some, Option.toList_none, List.cons_append, List.nil_append, List.length_cons, List.length_nil, Bool.false_eq_true, reduceCtorEq, true_or, or_true, false_or, or_false, Int.reduceNeg, implies_true, true_implies, xl1, xl2, xl3, xf1, xf2, xf3, p158_0, p158_59, sq158_0, sq158_59, gfsp_0 hk, pfsp_1 hk, gfsp_1 hk, gfsp_2 hk, gfsp_3 hk, gfsp_4 hk, pfsp_5 hk, gfsp_5 hk, pfsp_6 hk, gfsp_6 hk, gfsp_7 hk, icsp hk, arsp1 hk, alsp1 hk, arsp2 hk, alsp2 hk, arsp3 hk, alsp3 hk, arsp4 hk, alsp4 hk, arsp5 hk, alsp5 hk, iisp1 hk, iisp2 hk, iisp3 hk, iisp4 hk, iisp5 hk, p1]
  refine ⟨by unfold InR; omega, by unfold InR; omega, hip, fun q => ?_, fun q => ⟨fun q2 => ?_, fun q2 => ?_⟩⟩
  · obtain ⟨l, a, b⟩ := (p2 _ hip).mp q
    exact ⟨c, Nat.le_refl c, hP0, fun _ _ => rfl, ⟨l, a, b⟩, fun _ _ _ _ => rfl, fun _ _ => rfl⟩
  · have := hlt q
    omega
  · have s1 : st σ (k + 2) (4 * f + w) (σ k 5) k 1 = (c : Int) := by rw [st_off _ _ _ (by omega)]; exact p1
    rw [s1]
    have s3 : st (st σ (k + 2) (4 * f + w) (σ k 5)) (k + 1) (c : Int) (4 * f + w) k 1 + 1 = ((c + 1 : Nat) : Int) := by rw [st_off _ _ _ (by omega), s1]; rfl
    rw [s3]
    refine ⟨hip, by omega, by unfold InR; omega, ?_⟩
    have T2 : ∀ j, j ≠ 1 → st (st (st σ (k + 2) (4 * f + w) (σ k 5)) (k + 1) (c : Int) (4 * f + w)) k 1 ((c + 1 : Nat) : Int) k j = σ k j := fun j hj => by rw [st_mis hj, st_off _ _ _ (by omega), st_off _ _ _ (by omega)]
    have T3 : ∀ j : Nat, j < c → st (st (st σ (k + 2) (4 * f + w) (σ k 5)) (k + 1) (c : Int) (4 * f + w)) k 1 ((c + 1 : Nat) : Int) (k + 1) j = σ (k + 1) j := fun j hj => by rw [st_off _ _ _ (by omega), st_mis (by omega), st_off _ _ _ (by omega)]
    have T4 : st (st (st σ (k + 2) (4 * f + w) (σ k 5)) (k + 1) (c : Int) (4 * f + w)) k 1 ((c + 1 : Nat) : Int) (k + 1) (c : Int) = 4 * f + w := by rw [st_off _ _ _ (by omega), st_hit]
    have T5 : st (st (st σ (k + 2) (4 * f + w) (σ k 5)) (k + 1) (c : Int) (4 * f + w)) k 1 ((c + 1 : Nat) : Int) (k + 2) (4 * f + w) = σ k 5 := by rw [st_off _ _ _ (by omega), st_off _ _ _ (by omega), st_hit]
    have T6 : ∀ x, x ≠ 4 * f + w → st (st (st σ (k + 2) (4 * f + w) (σ k 5)) (k + 1) (c : Int) (4 * f + w)) k 1 ((c + 1 : Nat) : Int) (k + 2) x = σ (k + 2) x := fun x hx => by rw [st_off _ _ _ (by omega), st_off _ _ _ (by omega), st_mis hx]
    have T7 : ∀ k', k' ≠ k → k' ≠ k + 1 → k' ≠ k + 2 → st (st (st σ (k + 2) (4 * f + w) (σ k 5)) (k + 1) (c : Int) (4 * f + w)) k 1 ((c + 1 : Nat) : Int) k' = σ k' := fun k' a b d => by rw [st_off _ _ _ a, st_off _ _ _ b, st_off _ _ _ d]
    have T1 : st (st (st σ (k + 2) (4 * f + w) (σ k 5)) (k + 1) (c : Int) (4 * f + w)) k 1 ((c + 1 : Nat) : Int) k 1 = ((c + 1 : Nat) : Int) := st_hit
    generalize st (st (st σ (k + 2) (4 * f + w) (σ k 5)) (k + 1) (c : Int) (4 * f + w)) k 1 ((c + 1 : Nat) : Int) = S at T1 T2 T3 T4 T5 T6 T7 ⊢
    have T8 := T2 5 (by omega)
    refine ⟨c + 1, by omega, ⟨T1, fun x hx => ?_, p3.push hi hp (fun j hj e => q ((p2 _ hip).mpr ⟨j, hj, e⟩)) T3 T4, fun x hx => ?_⟩, T3, ⟨c, by omega, T4⟩, T7, T2⟩
    · rw [T8]
      by_cases e : x = 4 * f + w
      · rw [e, T5]
        exact ⟨fun _ => ⟨c, by omega, T4⟩, fun _ => rfl⟩
      · rw [T6 x e, p2 x hx]
        constructor
        · intro ⟨j, a, b⟩
          exact ⟨j, by omega, by rw [T3 j a]; exact b⟩
        · intro ⟨j, a, b⟩
          by_cases hj : j = c
          · rw [hj, T4] at b; exact absurd b.symm e
          · exact ⟨j, by omega, by rw [← T3 j (by omega)]; exact b⟩
    · rw [T8]
      by_cases e : x = 4 * f + w
      · rw [e, T5]; omega
      · rw [T6 x e]; exact p4 x hx
def SPI (σ : Sg) (k : Nat) (M : Int → Int) (r : Int) (i c : Nat) : Prop := PLI σ k M r i c ∧ ∀ f, 0 ≤ f → f < 81 → (σ (k + 3) f = σ k 5 ↔ ∃ j : Nat, j < i ∧ nx1 M (σ (k + 1) j) = f ∧ ¬ stopsP M f) ∧ (σ (k + 4) f = σ k 5 ↔ ∃ j : Nat, j < i ∧ nx1 M (σ (k + 1) j) = f ∧ stopsP M f) ∧ σ (k + 3) f ≤ σ k 5 ∧ σ (k + 4) f ≤ σ k 5
theorem spi_next {σ' : Sg} {r : Int} {i c c' : Nat} (h : SPI σ k M r i c) (hi : i < c) (hc : c ≤ c') (hP : PLI σ' k M r i c') (hg : ∀ j : Nat, j < c → σ' (k + 1) j = σ (k + 1) j) (h5 : σ' k 5 = σ k 5) (hs : ∀ b, sucs M (σ (k + 1) i) b → ∃ l : Nat, l < c' ∧ σ' (k + 1) l = b) (h3 : ∀ f, 0 ≤ f → f < 81 → σ' (k + 3) f = if nx1 M (σ (k + 1) i) = f ∧ ¬ stopsP M f then σ k 5 else σ (k + 3) f) (h4 : ∀ f, 0 ≤ f → f < 81 → σ' (k + 4) f = if nx1 M (σ (k + 1) i) = f ∧ stopsP M f then σ k 5 else σ (k + 4) f) : SPI σ' k M r (i + 1) c' := by
  refine ⟨⟨hP.1, hP.2.1, hP.2.2.1.next (fun b hb => ?_), hP.2.2.2⟩, fun f a b => ?_⟩
  · have hb : sucs M (σ' (k + 1) i) b := hb
    rw [hg i hi] at hb
    exact hs b hb
  · obtain ⟨q1, q2, q3, q4⟩ := h.2 f a b
    have key : ∀ (P : Prop) (x y : Int), (x = σ k 5 ↔ ∃ j : Nat, j < i ∧ nx1 M (σ (k + 1) j) = f ∧ P) → (y = σ k 5 ↔ (nx1 M (σ (k + 1) i) = f ∧ P) ∨ x = σ k 5) → (y = σ k 5 ↔ ∃ j : Nat, j < i + 1 ∧ nx1 M (σ' (k + 1) j) = f ∧ P) := by
      intro P x y e1 e2
      rw [e2, e1]
      constructor
      · intro q
        rcases q with q | ⟨j, u, v, w⟩
        · exact ⟨i, by omega, by rw [hg i hi]; exact q.1, q.2⟩
        · exact ⟨j, by omega, by rw [hg j (by omega)]; exact v, w⟩
      · intro ⟨j, u, v, w⟩
        rw [hg j (by omega)] at v
        by_cases e : j = i
        · rw [e] at v; exact Or.inl ⟨v, w⟩
        · exact Or.inr ⟨j, by omega, v, w⟩
    rw [h5]
    refine ⟨key _ _ _ q1 ?_, key _ _ _ q2 ?_, ?_, ?_⟩
    · rw [h3 f a b]
      by_cases e : nx1 M (σ (k + 1) i) = f ∧ ¬ stopsP M f
      · rw [if_pos e]; exact ⟨fun _ => Or.inl e, fun _ => rfl⟩
      · rw [if_neg e]; exact ⟨Or.inr, fun q => q.resolve_left e⟩
    · rw [h4 f a b]
      by_cases e : nx1 M (σ (k + 1) i) = f ∧ stopsP M f
      · rw [if_pos e]; exact ⟨fun _ => Or.inl e, fun _ => rfl⟩
      · rw [if_neg e]; exact ⟨Or.inr, fun q => q.resolve_left e⟩
    · rw [h3 f a b]; split <;> omega
    · rw [h4 f a b]; split <;> omega
theorem c_comesTo (hk : Issp k) (f : Int) (h0 : 0 ≤ f) (h1 : f < 81) : C0 X 1 159 [vr k, vi f] σ (rI (if σ (k + 3) f = σ k 5 then 1 else 0) σ) := by
  refine C0.intro md159 (by decide) rfl (by decide) (Nat.le_of_ble_eq_true rfl) ?_
  intro hin hav
  show S0 X _ 159 _ 0 [vr k, vi f] [] _
  refine S0.run 159 md159 pp159 2 rfl rfl rfl 30 0 ?_
  simp only [ev_s, ev_hd, ev_sf, ev_hd0, ev_sf0, ev_0, ev_1, ev_34, ev_li, ev_lr, ev_lx, ev_2, ev_35, ev_3, ev_4, ev_b0, ev_b1, ev_b2, ev_b3, ev_b4, ev_b5, ev_b6, ev_b7, ev_b8, ev_b9, ev_b10, ev_5, ev_6, ev_c0, ev_c1, ev_c2, ev_c3, ev_c4, ev_c5, ev_7, ev_8, ev_9, ev_33, ev_11, ev_12, ev_12x, ev_13, ev_14, ev_15, ev_16, ev_18, ev_18x, ev_22, ev_23, ev_24, ev_32, ev_25, ev_26, ev_27, ev_28, ev_31, ev_w1, ev_w2, ev_p1, ev_p2, ev_p3, ev_p4, ev_p5, ev_p6, ev_p0, ev_n0, ev_n1, ev_n2, ev_n3, ev_n4, ev_n5, ev_n6, ev_n7, ev_m0, ev_m1, ev_m2, ev_m3, ev_m4, ev_m5, ev_m6, ev_m7, ev_r0, ev_r1, ev_r2, ev16, ev30, cond_true, cond_false, true_and, and_true, Int.cast_ofNat_Int, Nat.reduceLT, Nat.reduceLeDiff, Nat.reduceBEq, Int.reduceLT, Int.reduceLE, Int.reduceEq, Int.reduceAdd, Nat.reduceEqDiff, not_true_eq_false, not_false_eq_true, false_implies, forall_const, eq_self, Nat.reduceAdd, Option.toList_some, Option.toList_none, List.cons_append, List.nil_append, List.length_cons, List.length_nil, Bool.false_eq_true, reduceCtorEq, true_or, or_true, false_or, or_false, Int.reduceNeg, implies_true, true_implies, xl1, xl2, xl3, xf1, xf2, xf3, p159_0, p159_17, p159_18, sq159_0, sq159_17, sq159_18, gfsp_0 hk, pfsp_1 hk, gfsp_1 hk, gfsp_2 hk, gfsp_3 hk, gfsp_4 hk, pfsp_5 hk, gfsp_5 hk, pfsp_6 hk, gfsp_6 hk, gfsp_7 hk, icsp hk, arsp1 hk, alsp1 hk, arsp2 hk, alsp2 hk, arsp3 hk, alsp3 hk, arsp4 hk, alsp4 hk, arsp5 hk, alsp5 hk, iisp1 hk, iisp2 hk, iisp3 hk, iisp4 hk, iisp5 hk]
  exact ⟨⟨h0, h1⟩, fun q => rB_f q, fun q => rB_t (Classical.not_not.mp q)⟩
theorem c_endsAt (hk : Issp k) (f : Int) (h0 : 0 ≤ f) (h1 : f < 81) : C0 X 1 160 [vr k, vi f] σ (rI (if σ (k + 4) f = σ k 5 then 1 else 0) σ) := by
  refine C0.intro md160 (by decide) rfl (by decide) (Nat.le_of_ble_eq_true rfl) ?_
  intro hin hav
  show S0 X _ 160 _ 0 [vr k, vi f] [] _
  refine S0.run 160 md160 pp160 2 rfl rfl rfl 30 0 ?_
  simp only [ev_s, ev_hd, ev_sf, ev_hd0, ev_sf0, ev_0, ev_1, ev_34, ev_li, ev_lr, ev_lx, ev_2, ev_35, ev_3, ev_4, ev_b0, ev_b1, ev_b2, ev_b3, ev_b4, ev_b5, ev_b6, ev_b7, ev_b8, ev_b9, ev_b10, ev_5, ev_6, ev_c0, ev_c1, ev_c2, ev_c3, ev_c4, ev_c5, ev_7, ev_8, ev_9, ev_33, ev_11, ev_12, ev_12x, ev_13, ev_14, ev_15, ev_16, ev_18, ev_18x, ev_22, ev_23, ev_24, ev_32, ev_25, ev_26, ev_27, ev_28, ev_31, ev_w1, ev_w2, ev_p1, ev_p2, ev_p3, ev_p4, ev_p5, ev_p6, ev_p0, ev_n0, ev_n1, ev_n2, ev_n3, ev_n4, ev_n5, ev_n6, ev_n7, ev_m0, ev_m1, ev_m2, ev_m3, ev_m4, ev_m5, ev_m6, ev_m7, ev_r0, ev_r1, ev_r2, ev16, ev30, cond_true, cond_false, true_and, and_true, Int.cast_ofNat_Int, Nat.reduceLT, Nat.reduceLeDiff, Nat.reduceBEq, Int.reduceLT, Int.reduceLE, Int.reduceEq, Int.reduceAdd, Nat.reduceEqDiff, not_true_eq_false, not_false_eq_true, false_implies, forall_const, eq_self, Nat.reduceAdd, Option.toList_some, Option.toList_none, List.cons_append, List.nil_append, List.length_cons, List.length_nil, Bool.false_eq_true, reduceCtorEq, true_or, or_true, false_or, or_false, Int.reduceNeg, implies_true, true_implies, xl1, xl2, xl3, xf1, xf2, xf3, p160_0, p160_17, p160_18, sq160_0, sq160_17, sq160_18, gfsp_0 hk, pfsp_1 hk, gfsp_1 hk, gfsp_2 hk, gfsp_3 hk, gfsp_4 hk, pfsp_5 hk, gfsp_5 hk, pfsp_6 hk, gfsp_6 hk, gfsp_7 hk, icsp hk, arsp1 hk, alsp1 hk, arsp2 hk, alsp2 hk, arsp3 hk, alsp3 hk, arsp4 hk, alsp4 hk, arsp5 hk, alsp5 hk, iisp1 hk, iisp2 hk, iisp3 hk, iisp4 hk, iisp5 hk]
  exact ⟨⟨h0, h1⟩, fun q => rB_f q, fun q => rB_t (Classical.not_not.mp q)⟩
end SPC
