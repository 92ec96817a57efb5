-- THE SPREAD: the reference's
section SPM
variable {X : Cx} {σ : Sg} {A : AT} {M : Int → Int}
/-- what tells a spread leaves the state, and all cells from 223 on, as they are -/
def XS (σ σ' : Sg) : Prop := XF σ σ' ∧ ∀ k, 223 ≤ k → σ' k = σ k
theorem XS.rf : XS σ σ := ⟨XF.rf, fun _ _ => rfl⟩
theorem XS.tr {σ1 σ2 : Sg} (h : XS σ σ1) (g : XS σ1 σ2) : XS σ σ2 := ⟨h.1.tr g.1, fun k a => (g.2 k a).trans (h.2 k a)⟩
theorem XS.sta {k : Nat} {i x : Int} (h1 : 218 ≤ k) (h2 : k ≤ 222) : XS σ (st σ k i x) := ⟨XF.sta h1 (by omega), fun j a => st_off _ _ _ (by omega)⟩
theorem XS.st2 {i x : Int} (h1 : i ≠ 2) (h2 : i ≠ 6) : XS σ (st σ 212 i x) := ⟨XF.st2 h1 h2, fun j a => st_off _ _ _ (by omega)⟩
theorem XS.mr {σ' : Sg} (h : XS σ σ') (hR : MzR σ M) : MzR σ' M := h.1.mr hR
theorem XS.mv {σ' : Sg} (h : XS σ σ') (hV : MV σ A) : MV σ' A := h.1.mv hV
/-- a whole spread as the reference tells it -/
def TSP (σ' : Sg) (M : Int → Int) (r : Int) : Prop := (∀ p, isP p → (σ' 219 p ≠ 0 ↔ rch M r p) ∧ (σ' 220 p ≠ 0 ↔ ∃ a, rch M r a ∧ sucs M a p)) ∧ ∀ f, 0 ≤ f → f < 81 → (σ' 221 f ≠ 0 ↔ ens M r f ∧ M (4 + f) = 3)
/-- under way: dn are done, Z is being followed and has come to E, c wait -/
def TSI (s : Sg) (M : Int → Int) (r : Int) (dn Z E : Int → Prop) (c : Nat) : Prop := s 212 14 = c ∧ (∀ p, isP p → s 219 p ≠ 0 → rch M r p ∧ (dn p ∨ Z p ∨ ∃ j : Nat, j < c ∧ s 222 j = p)) ∧ (∀ j : Nat, j < c → isP (s 222 j) ∧ s 219 (s 222 j) ≠ 0 ∧ ¬ dn (s 222 j) ∧ ¬ Z (s 222 j)) ∧ (∀ i j : Nat, i < j → j < c → s 222 i ≠ s 222 j) ∧ (∀ p, dn p ∨ Z p → isP p ∧ s 219 p ≠ 0) ∧ (∀ a b, dn a → sucs M a b → s 219 b ≠ 0) ∧ (∀ p, isP p → (s 220 p ≠ 0 ↔ (∃ a, dn a ∧ sucs M a p) ∨ E p)) ∧ (∀ p, E p → s 219 p ≠ 0) ∧ s 219 r ≠ 0
def TSE (s : Sg) (M : Int → Int) (dn : Int → Prop) : Prop := ∀ f, 0 ≤ f → f < 81 → (s 221 f ≠ 0 ↔ ∃ a, dn a ∧ nx1 M a = f ∧ stopsP M f ∧ M (4 + f) = 3)
def none1 : Int → Prop := fun _ => False
theorem TSI.bd {r : Int} {dn Z E : Int → Prop} {c : Nat} (h : TSI σ M r dn Z E c) : c ≤ 324 := nodup_bd (g := fun j => σ 222 j) (fun j hj => (h.2.2.1 j hj).1) h.2.2.2.1
theorem TSI.fin {r x : Int} {dn E : Int → Prop} {c : Nat} (h : TSI σ M r dn (fun p => p = x) E c) (he : ∀ b, sucs M x b ↔ E b) : TSI σ M r (fun p => dn p ∨ p = x) none1 none1 c := by
  obtain ⟨h1, h2, h3, h4, h5, h6, h7, h8, h9⟩ := h
  refine ⟨h1, fun p a b => ⟨(h2 p a b).1, ?_⟩, fun j hj => ⟨(h3 j hj).1, (h3 j hj).2.1, fun q => q.elim (h3 j hj).2.2.1 (h3 j hj).2.2.2, fun q => q⟩, h4, fun p hp => h5 p (hp.elim id (fun q => q.elim)), fun a b ha hs => ?_, fun p hp => ?_, fun p hp => hp.elim, h9⟩
  · rcases (h2 p a b).2 with q | q | q
    · exact Or.inl (Or.inl q)
    · exact Or.inl (Or.inr q)
    · exact Or.inr (Or.inr q)
  · rcases ha with q | q
    · exact h6 a b q hs
    · subst q; exact h8 b ((he b).mp hs)
  · rw [h7 p hp]
    constructor
    · intro q
      rcases q with ⟨a, u, v⟩ | q
      · exact Or.inl ⟨a, Or.inl u, v⟩
      · exact Or.inl ⟨x, Or.inr rfl, (he p).mpr q⟩
    · intro q
      rcases q with ⟨a, u, v⟩ | q
      · rcases u with u | u
        · exact Or.inl ⟨a, u, v⟩
        · subst u; exact Or.inr ((he p).mp v)
      · exact q.elim
theorem TSI.done {r : Int} {dn : Int → Prop} (h : TSI σ M r dn none1 none1 0) (he : TSE σ M dn) (hM : wfB M) (hr : isP r) (hf : isF M (r / 4)) : TSP σ M r := by
  obtain ⟨h1, h2, h3, h4, h5, h6, h7, h8, h9⟩ := h
  have md : ∀ p, isP p → σ 219 p ≠ 0 → dn p := fun p a b => by
    rcases (h2 p a b).2 with q | q | ⟨j, q, -⟩
    · exact q
    · exact q.elim
    · omega
  have all : ∀ p, rch M r p → isP p ∧ σ 219 p ≠ 0 := fun p hp => hp (fun p => isP p ∧ σ 219 p ≠ 0) ⟨hr, h9⟩ (fun a b ha hs => ⟨(sucs_P hM ha.1 hs).1, h6 a b (md a ha.1 ha.2) hs⟩)
  have dr : ∀ a, dn a ↔ rch M r a := fun a => ⟨fun q => (h2 a (h5 a (Or.inl q)).1 (h5 a (Or.inl q)).2).1, fun q => md a (all a q).1 (all a q).2⟩
  refine ⟨fun p hp => ⟨⟨fun q => (h2 p hp q).1, fun q => (all p q).2⟩, ?_⟩, fun f a b => ?_⟩
  · rw [h7 p hp]
    constructor
    · intro q
      rcases q with ⟨a, u, v⟩ | q
      · exact ⟨a, (dr a).mp u, v⟩
      · exact q.elim
    · intro ⟨a, u, v⟩
      exact Or.inl ⟨a, (dr a).mpr u, v⟩
  · rw [he f a b]
    constructor
    · intro ⟨x, u, v, w, y⟩
      exact ⟨⟨x, (dr x).mp u, v, w⟩, y⟩
    · intro ⟨⟨x, u, v, w⟩, y⟩
      exact ⟨x, (dr x).mpr u, v, w, y⟩
theorem m_come {r : Int} {dn Z E : Int → Prop} {c : Nat} (h : TSI σ M r dn Z E c) (p : Int) (hp : isP p) (hr : rch M r p) : C0 X 1 76 [vr 212, vi p] σ (fun r' σ' => r' = none ∧ ∃ c', TSI σ' M r dn Z (fun q => E q ∨ q = p) c' ∧ σ' 221 = σ 221 ∧ XS σ σ') := by
  have hbd : σ 219 p = 0 → c < 324 := fun q => by
    have := nodup_bd (c := c + 1) (g := fun j => if j = c then p else σ 222 j) (fun j hj => by
      show isP (if j = c then p else σ 222 j)
      split
      · exact hp
      · exact (h.2.2.1 j (by omega)).1) (fun i j a b => by
      show (if i = c then p else σ 222 i) ≠ (if j = c then p else σ 222 j)
      rw [if_neg (by omega)]
      split
      · intro e; exact (h.2.2.1 i (by omega)).2.1 (by rw [e]; exact q)
      · exact h.2.2.2.1 i j a (by omega))
    omega
  obtain ⟨h1, h2, h3, h4, h5, h6, h7, h8, h9⟩ := h
  refine C0.intro md76 (by decide) rfl (by decide) (Nat.le_of_ble_eq_true rfl) ?_
  intro hin hav
  show S0 X _ 76 _ 0 [vr 212, vi p] [] _
  refine S0.run 76 md76 pp76 0 rfl rfl rfl 40 0 ?_
  simp only [ev_s, ev_hd, ev_sf, ev_hd0, ev_sf0, ev_0, ev_1, ev_34, ev_li, ev_lr, ev_lx, ev_2, ev_35, ev_3, ev_4, ev_b0, ev_b1, ev_b2, ev_b3, ev_b4, ev_b5, ev_b6, ev_b7, ev_b8, ev_b9, ev_b10, ev_5, ev_6, ev_c0, ev_c1, ev_c2, ev_c3, ev_c4, ev_c5, ev_7, ev_8, ev_9, ev_33, ev_11, ev_12, ev_12x, ev_13, ev_14, ev_15, ev_16, ev_18, ev_18x, ev_22, ev_23, ev_24, ev_32, ev_25, ev_26, ev_27, ev_28, ev_31, ev_w1, ev_w2, ev_p1, ev_p2, ev_p3, ev_p4, ev_p5, ev_p6, ev_p0, ev_n0, ev_n1, ev_n2, ev_n3, ev_n4, ev_n5, ev_n6, ev_n7, ev_m0, ev_m1, ev_m2, ev_m3, ev_m4, ev_m5, ev_m6, ev_m7, ev_r0, ev_r1, ev_r2, ev16, ev30, gf212_0, gf212_1, pf212_2, gf212_2, gf212_3, gf212_4, gf212_5, pf212_6, gf212_6, pf212_7, gf212_7, gf212_8, pf212_9, gf212_9, gf212_10, gf212_11, gf212_12, gf212_13, pf212_14, gf212_14, gf212_15, gf212_16, gf212_17, pf212_18, gf212_18, gf212_19, gf212_20, gf212_21, gf212_22, gf212_23, ic212, ar213, al213, ii213, ar214, al214, ii214, ar215, al215, ii215, ar216, al216, ii216, ar217, al217, ii217, ar218, al218, ii218, ar219, al219, ar220, al220, ar221, al221, ar222, al222, ii222, ar223, al223, ii223, ar224, al224, ii224, ar225, al225, ar226, al226, ii226, ar227, al227, ii227, ar228, al228, ii228, ar229, al229, ar230, al230, ii230, cond_true, cond_false, true_and, and_true, Int.cast_ofNat_Int, Nat.reduceLT, Nat.reduceLeDiff, Nat.reduceBEq, Int.reduceLT, Int.reduceLE, Int.reduceEq, Int.reduceAdd, Nat.reduceEqDiff, not_true_eq_false, not_false_eq_true, false_implies, forall_const, eq_self, Nat.reduceAdd, Option.toList_some, Option.toList_none, List.cons_append, List.nil_append, List.length_cons, List.length_nil, Bool.false_eq_true, reduceCtorEq, true_or, or_true, false_or, or_false, Int.reduceNeg, implies_true, true_implies, xl1, xl2, xl3, xf1, xf2, xf3, p76_0, p76_43, sq76_0, sq76_43]
  have e1 : st σ 220 p 1 219 p = σ 219 p := by rw [st_off _ _ _ (by omega)]
  have x7 : ∀ (S : Sg), (∀ y, S 220 y = if y = p then 1 else σ 220 y) → ∀ y, isP y → (S 220 y ≠ 0 ↔ (∃ a, dn a ∧ sucs M a y) ∨ E y ∨ y = p) := by
    intro S hS y hy
    rw [hS y]
    by_cases e : y = p
    · rw [if_pos e]; exact ⟨fun _ => Or.inr (Or.inr e), fun _ => by omega⟩
    · rw [if_neg e, h7 y hy]
      constructor
      · intro q; rcases q with q | q; exact Or.inl q; exact Or.inr (Or.inl q)
      · intro q; rcases q with q | q | q; exact Or.inl q; exact Or.inr q; exact absurd q e
  rw [e1]
  refine ⟨hp, hp, fun q => ?_, fun q => ?_⟩
  · refine ⟨c, ⟨?_, ?_, ?_, ?_, ?_, ?_, x7 _ (fun y => ?_), ?_, ?_⟩, st_off _ _ _ (by omega), XS.sta (by omega) (by omega)⟩
    all_goals (try rw [st_off _ _ _ (by omega)])
    all_goals (try rw [st_off σ _ _ (show (219 : Nat) ≠ 220 by omega)])
    all_goals (try rw [st_off σ _ _ (show (222 : Nat) ≠ 220 by omega)])
    · exact h1
    · exact h2
    · exact h3
    · exact h4
    · exact h5
    · exact h6
    · by_cases e : y = p
      · rw [if_pos e, e, st_hit]
      · rw [if_neg e, st_mis e]
    · intro y hy
      rcases hy with hy | hy
      · exact h8 y hy
      · rw [hy]; exact q
    · exact h9
  · have q := Classical.not_not.mp q
    have hc := hbd q
    have e2 : st (st σ 220 p 1) 219 p 1 212 14 = (c : Int) := by rw [st_off _ _ _ (by omega), st_off _ _ _ (by omega)]; exact h1
    rw [e2]
    have e3 : st (st (st σ 220 p 1) 219 p 1) 222 (c : Int) p 212 14 + 1 = ((c + 1 : Nat) : Int) := by rw [st_off _ _ _ (by omega), e2]; rfl
    rw [e3]
    refine ⟨hp, by omega, by unfold InR; omega, c + 1, ?_, ?_, ?_⟩
    · have t1 : ∀ y, st (st (st (st σ 220 p 1) 219 p 1) 222 (c : Int) p) 212 14 ((c + 1 : Nat) : Int) 219 y = if y = p then 1 else σ 219 y := fun y => by
        rw [st_off _ _ _ (by omega), st_off _ _ _ (by omega)]
        by_cases e : y = p
        · rw [if_pos e, e, st_hit]
        · rw [if_neg e, st_mis e, st_off _ _ _ (by omega)]
      have t2 : ∀ y, st (st (st (st σ 220 p 1) 219 p 1) 222 (c : Int) p) 212 14 ((c + 1 : Nat) : Int) 220 y = if y = p then 1 else σ 220 y := fun y => by
        rw [st_off _ _ _ (by omega), st_off _ _ _ (by omega), st_off _ _ _ (by omega)]
        by_cases e : y = p
        · rw [if_pos e, e, st_hit]
        · rw [if_neg e, st_mis e]
      have t3 : ∀ j : Nat, j < c → st (st (st (st σ 220 p 1) 219 p 1) 222 (c : Int) p) 212 14 ((c + 1 : Nat) : Int) 222 j = σ 222 j := fun j hj => by
        rw [st_off _ _ _ (by omega), st_mis (by omega), st_off _ _ _ (by omega), st_off _ _ _ (by omega)]
      have t4 : st (st (st (st σ 220 p 1) 219 p 1) 222 (c : Int) p) 212 14 ((c + 1 : Nat) : Int) 222 (c : Int) = p := by rw [st_off _ _ _ (by omega), st_hit]
      have t5 : st (st (st (st σ 220 p 1) 219 p 1) 222 (c : Int) p) 212 14 ((c + 1 : Nat) : Int) 212 14 = ((c + 1 : Nat) : Int) := st_hit
      generalize st (st (st (st σ 220 p 1) 219 p 1) 222 (c : Int) p) 212 14 ((c + 1 : Nat) : Int) = S at t1 t2 t3 t4 t5
      have t6 : ∀ y, σ 219 y ≠ 0 → S 219 y ≠ 0 := fun y hy => by rw [t1]; split; omega; exact hy
      have t7 : S 219 p ≠ 0 := by rw [t1, if_pos rfl]; omega
      have nd : ¬ (dn p ∨ Z p) := fun c => (h5 p c).2 q
      refine ⟨t5, fun y hy hm => ?_, fun j hj => ?_, fun i j a b => ?_, fun y hy => ⟨(h5 y hy).1, t6 y (h5 y hy).2⟩, fun a b u v => t6 b (h6 a b u v), x7 S t2, fun y hy => ?_, t6 r h9⟩
      · by_cases e : y = p
        · subst e
          exact ⟨hr, Or.inr (Or.inr ⟨c, by omega, t4⟩)⟩
        · rw [t1, if_neg e] at hm
          refine ⟨(h2 y hy hm).1, ?_⟩
          rcases (h2 y hy hm).2 with q | q | ⟨j, u, v⟩
          · exact Or.inl q
          · exact Or.inr (Or.inl q)
          · exact Or.inr (Or.inr ⟨j, by omega, by rw [t3 j u]; exact v⟩)
      · by_cases e : j = c
        · subst e
          rw [t4]
          exact ⟨hp, t7, fun c => nd (Or.inl c), fun c => nd (Or.inr c)⟩
        · rw [t3 j (by omega)]
          have := h3 j (by omega)
          exact ⟨this.1, t6 _ this.2.1, this.2.2⟩
      · rw [t3 i (by omega)]
        by_cases e : j = c
        · subst e
          rw [t4]
          intro e
          exact (h3 i a).2.1 (by rw [e]; exact q)
        · rw [t3 j (by omega)]
          exact h4 i j a (by omega)
      · rcases hy with hy | hy
        · exact t6 y (h8 y hy)
        · rw [hy]; exact t7
    · rw [st_off _ _ _ (by omega), st_off _ _ _ (by omega), st_off _ _ _ (by omega), st_off _ _ _ (by omega)]
    · exact (((XS.sta (by omega) (by omega)).tr (XS.sta (by omega) (by omega))).tr (XS.sta (by omega) (by omega))).tr (XS.st2 (by omega) (by omega))
end SPM
