-- RAYS: where one goes, and how long its path is
def it (M : Int → Int) (r : Int) : Nat → Int
  | 0 => r
  | n + 1 => nxr M (it M r n)
abbrev isP (r : Int) : Prop := 0 ≤ r ∧ r < 324
theorem dxy (w : Int) : (-1 ≤ dx w ∧ dx w ≤ 1) ∧ (-1 ≤ dy w ∧ dy w ≤ 1) := by
  unfold dx dy
  repeat' split
  all_goals omega
theorem nxf_F {M : Int → Int} (hM : wfM M) {f w : Int} (h0 : 0 ≤ f) (h1 : f < 81) : nxf M f w = -1 ∨ (isF M (nxf M f w) ∧ nxf M f w / 9 = f / 9 + dy w ∧ nxf M f w % 9 = f % 9 + dx w) := by
  obtain ⟨a, b, -⟩ := hM
  unfold nxf
  generalize dx w = d
  generalize dy w = e
  split
  · right; omega
  · left; rfl
theorem wout_W {M : Int → Int} {f w : Int} (hw : isW w) : isW (wout M f w) := by
  unfold wout trn
  repeat' split
  all_goals omega
theorem wout_inj {M : Int → Int} {f w v : Int} (hw : isW w) (hv : isW v) (h : wout M f w = wout M f v) : w = v := by
  unfold wout trn at h
  by_cases hm : isMir (M (4 + f))
  · rw [if_pos hm, if_pos hm] at h
    by_cases hl : M (85 + f) = 0
    · rw [if_pos hl, if_pos hl] at h; omega
    · rw [if_neg hl, if_neg hl] at h
      by_cases a : w < 2 <;> by_cases b : v < 2
      · rw [if_pos a, if_pos b] at h; omega
      · rw [if_pos a, if_neg b] at h; omega
      · rw [if_neg a, if_pos b] at h; omega
      · rw [if_neg a, if_neg b] at h; omega
  · rw [if_neg hm, if_neg hm] at h; exact h
theorem nxr_R {M : Int → Int} (hM : wfM M) {r : Int} (hr : isP r) : nxr M r = -1 ∨ (isP (nxr M r) ∧ nxr M r / 4 = nxf M (r / 4) (r % 4) ∧ nxr M r % 4 = wout M (nxr M r / 4) (r % 4) ∧ isF M (nxr M r / 4) ∧ nxf M (r / 4) (r % 4) / 9 = r / 4 / 9 + dy (r % 4) ∧ nxf M (r / 4) (r % 4) % 9 = r / 4 % 9 + dx (r % 4) ∧ ¬ stopsP M (nxr M r / 4)) := by
  have h := nxf_F hM (f := r / 4) (w := r % 4) (by omega) (by omega)
  have hw := wout_W (M := M) (f := nxf M (r / 4) (r % 4)) (w := r % 4) (by omega)
  by_cases q : nxf M (r / 4) (r % 4) < 0 ∨ stopsP M (nxf M (r / 4) (r % 4))
  · left; unfold nxr; rw [if_pos q]
  · have e : nxr M r = 4 * nxf M (r / 4) (r % 4) + wout M (nxf M (r / 4) (r % 4)) (r % 4) := by unfold nxr; rw [if_neg q]
    have e2 : nxr M r / 4 = nxf M (r / 4) (r % 4) := by omega
    right
    rw [e2]
    refine ⟨by omega, rfl, by omega, by omega, by omega, by omega, fun c => q (Or.inr c)⟩
theorem nxr_inj {M : Int → Int} (hM : wfM M) {a b : Int} (ha : isP a) (hb : isP b) (h : nxr M a = nxr M b) (h0 : 0 ≤ nxr M a) : a = b := by
  rcases nxr_R hM ha with q | ⟨q1, q2, q3, q4, q5, q6, -⟩
  · omega
  rcases nxr_R hM hb with p | ⟨p1, p2, p3, p4, p5, p6, -⟩
  · omega
  rw [h] at q3 q2
  have hw : a % 4 = b % 4 := wout_inj (by omega) (by omega) (q3.symm.trans p3)
  rw [hw] at q5 q6 q2
  omega
theorem php : ∀ (n : Nat) (g : Nat → Int), (∀ i, i ≤ n → 0 ≤ g i ∧ g i < n) → ∃ i j, i < j ∧ j ≤ n ∧ g i = g j
  | 0, g, h => by have := h 0 (Nat.le_refl 0); omega
  | n + 1, g, h => by
    by_cases q : ∃ i, i ≤ n ∧ g i = g (n + 1)
    · obtain ⟨i, a, b⟩ := q
      exact ⟨i, n + 1, by omega, by omega, b⟩
    · have hn := h (n + 1) (Nat.le_refl _)
      obtain ⟨i, j, a, b, c⟩ := php n (fun i => if g (n + 1) < g i then g i - 1 else g i) (fun i hi => by
        have h1 := h i (by omega)
        have h2 : g i ≠ g (n + 1) := fun e => q ⟨i, hi, e⟩
        show 0 ≤ (if g (n + 1) < g i then g i - 1 else g i) ∧ (if g (n + 1) < g i then g i - 1 else g i) < (n : Int)
        split <;> omega)
      refine ⟨i, j, a, by omega, ?_⟩
      have h2 : g i ≠ g (n + 1) := fun e => q ⟨i, by omega, e⟩
      have h3 : g j ≠ g (n + 1) := fun e => q ⟨j, by omega, e⟩
      have c : (if g (n + 1) < g i then g i - 1 else g i) = (if g (n + 1) < g j then g j - 1 else g j) := c
      split at c <;> split at c <;> omega
theorem it_P {M : Int → Int} (hM : wfM M) {r : Int} (hr : isP r) : ∀ n : Nat, (∀ i, i ≤ n → 0 ≤ it M r i) → isP (it M r n)
  | 0, _ => hr
  | n + 1, h => by
    have h1 := it_P hM hr n (fun i hi => h i (by omega))
    have h2 := h (n + 1) (Nat.le_refl _)
    show isP (nxr M (it M r n))
    have h2 : 0 ≤ nxr M (it M r n) := h2
    rcases nxr_R hM h1 with q | q
    · omega
    · exact q.1
theorem it_back {M : Int → Int} (hM : wfM M) {r : Int} (hr : isP r) : ∀ i d : Nat, (∀ l, l ≤ i + d → 0 ≤ it M r l) → it M r i = it M r (i + d) → it M r d = r
  | 0, d, _, h => by rw [Nat.zero_add] at h; exact h.symm
  | i + 1, d, hl, h => by
    have e : i + 1 + d = (i + d) + 1 := by omega
    rw [e] at h
    refine it_back hM hr i d (fun l q => hl l (by omega)) (nxr_inj hM (it_P hM hr i (fun l q => hl l (by omega))) (it_P hM hr (i + d) (fun l q => hl l (by omega))) h ?_)
    exact hl (i + 1) (by omega)
theorem ray_ends {M : Int → Int} (hM : wfM M) {r : Int} (hr : isP r) : ∃ N : Nat, 1 ≤ N ∧ N ≤ 324 ∧ (it M r N < 0 ∨ it M r N = r) := by
  by_cases q : ∀ i, i ≤ 324 → 0 ≤ it M r i
  · obtain ⟨i, j, a, b, c⟩ := php 324 (it M r) (fun i hi => it_P hM hr i (fun l q2 => q l (by omega)))
    refine ⟨j - i, by omega, by omega, Or.inr (it_back hM hr i (j - i) (fun l q2 => q l (by omega)) ?_)⟩
    rw [show i + (j - i) = j from by omega]
    exact c
  · obtain ⟨i, h⟩ := Classical.not_forall.mp q
    obtain ⟨h1, h2⟩ := Classical.not_imp.mp h
    refine ⟨i, ?_, h1, Or.inl (by omega)⟩
    cases i with
    | zero => exact absurd hr.1 h2
    | succ i => omega
theorem ff_sp (p : Int → Prop) [DecidablePred p] : ∀ (n : Nat) (i : Int), (∃ j, i ≤ j ∧ j < i + n ∧ p j) → (i ≤ ff p i n ∧ ff p i n < i + n) ∧ p (ff p i n) ∧ ∀ j, i ≤ j → j < ff p i n → ¬ p j
  | 0, i, ⟨j, a, b, _⟩ => by omega
  | n + 1, i, ⟨j, a, b, c⟩ => by
    by_cases q : p i
    · have e : ff p i (n + 1) = i := by show (if p i then i else ff p (i + 1) n) = i; rw [if_pos q]
      rw [e]
      exact ⟨by omega, q, fun j a b => by omega⟩
    · have e : ff p i (n + 1) = ff p (i + 1) n := by show (if p i then i else ff p (i + 1) n) = _; rw [if_neg q]
      have hj : j ≠ i := fun h => q (h ▸ c)
      obtain ⟨h1, h2, h3⟩ := ff_sp p n (i + 1) ⟨j, by omega, by omega, c⟩
      rw [e]
      refine ⟨by omega, h2, fun l a b => ?_⟩
      by_cases hl : l = i
      · subst hl; exact q
      · exact h3 l (by omega) b
/-- how many places a path has -/
def plen (M : Int → Int) (r : Int) : Int := ff (fun n => it M r n.toNat < 0 ∨ it M r n.toNat = r) 1 324
def pcl (M : Int → Int) (r : Int) : Int := if it M r (plen M r).toNat = r then 1 else 0
theorem plen_ok {M : Int → Int} (hM : wfM M) {r : Int} (hr : isP r) : (1 ≤ plen M r ∧ plen M r ≤ 324) ∧ (it M r (plen M r).toNat < 0 ∨ it M r (plen M r).toNat = r) ∧ ∀ i : Nat, (i : Int) < plen M r → isP (it M r i) ∧ (1 ≤ i → it M r i ≠ r) := by
  obtain ⟨N, a, b, c⟩ := ray_ends hM hr
  obtain ⟨h1, h2, h3⟩ := ff_sp (fun n : Int => it M r n.toNat < 0 ∨ it M r n.toNat = r) 324 1 ⟨(N : Int), by omega, by omega, c⟩
  refine ⟨⟨h1.1, by unfold plen; omega⟩, h2, fun i hi => ?_⟩
  have key : ∀ l : Nat, 1 ≤ l → l ≤ i → ¬ (it M r l < 0 ∨ it M r l = r) := fun l u v => h3 (l : Int) (by omega) (by unfold plen at hi; omega)
  refine ⟨it_P hM hr i (fun l q => ?_), fun q e => key i q (Nat.le_refl i) (Or.inr e)⟩
  cases l with
  | zero => exact hr.1
  | succ l => have := key (l + 1) (by omega) q; omega
section RAYS
variable {X : Cx} {σ : Sg} {A : AT} {B : Int} {M : Int → Int} {k m : Nat}
theorem st_hit {k : Nat} {i x : Int} : st σ k i x k i = x := by unfold st; rw [if_pos ⟨rfl, rfl⟩]
theorem st_mis {k k' : Nat} {i j x : Int} (h : j ≠ i) : st σ k i x k' j = σ k' j := by unfold st; rw [if_neg (fun q => h q.2)]
theorem c_placeBehind (hk : Ismz m) (hC : MzC σ m M) (hM : wfM M) (r : Int) (hr : isP r) : C0 X 3 144 [vr m, vi r] σ (rI (nxr M r) σ) := by
  refine C0.intro md144 (by decide) rfl (by decide) (Nat.le_of_ble_eq_true rfl) ?_
  intro hin hav
  show S0 X _ 144 _ 0 [vr m, vi r, vx 9, vx 9] [] _
  have h := nxf_F hM (f := r / 4) (w := r % 4) (by omega) (by omega)
  refine S0.run 144 md144 pp144 1 rfl rfl rfl 40 0 ?_
  simp only [ev_s, ev_hd, ev_sf, ev_hd0, ev_sf0, ev_0, ev_1, ev_34, ev_li, ev_lr, ev_lx, ev_2, ev_35, ev_3, ev_4, ev_b0, ev_b1, ev_b2, ev_b3, ev_b4, ev_b5, ev_b6, ev_b7, ev_b8, ev_b9, ev_b10, ev_5, ev_6, ev_c0, ev_c1, ev_c2, ev_c3, ev_c4, ev_c5, ev_7, ev_8, ev_9, ev_33, ev_11, ev_12, ev_12x, ev_13, ev_14, ev_15, ev_16, ev_18, ev_18x, ev_22, ev_23, ev_24, ev_32, ev_25, ev_26, ev_27, ev_28, ev_31, ev_w1, ev_w2, ev_p1, ev_p2, ev_p3, ev_p4, ev_p5, ev_p6, ev_p0, ev_n0, ev_n1, ev_n2, ev_n3, ev_n4, ev_n5, ev_n6, ev_n7, ev_m0, ev_m1, ev_m2, ev_m3, ev_m4, ev_m5, ev_m6, ev_m7, ev_r0, ev_r1, ev_r2, ev16, ev30, cond_true, cond_false, true_and, and_true, Int.cast_ofNat_Int, Nat.reduceLT, Nat.reduceLeDiff, Nat.reduceBEq, Int.reduceLT, Int.reduceLE, Int.reduceEq, Int.reduceAdd, Nat.reduceEqDiff, not_true_eq_false, not_false_eq_true, false_implies, forall_const, eq_self, Nat.reduceAdd, Option.toList_some, Option.toList_none, List.cons_append, List.nil_append, List.length_cons, List.length_nil, Bool.false_eq_true, reduceCtorEq, true_or, or_true, false_or, or_false, Int.reduceNeg, implies_true, true_implies, xl1, xl2, xl3, xf1, xf2, xf3, p144_0, p144_25, p144_27, sq144_0, sq144_25, sq144_27, pfmz_0 hk, gfmz_0 hk, pfmz_1 hk, gfmz_1 hk, gfmz_2 hk, gfmz_3 hk, gfmz_4 hk, pfmz_5 hk, gfmz_5 hk, gfmz_6 hk, gfmz_7 hk, gfmz_8 hk, icmz hk, armz1 hk, almz1 hk, armz2 hk, almz2 hk, armz3 hk, almz3 hk, armz4 hk, almz4 hk, armz5 hk, almz5 hk, armz6 hk, almz6 hk, iimz1 hk, iimz2 hk, iimz3 hk, iimz4 hk, iimz5 hk, iimz6 hk]
  refine ⟨hr.1, hr.1, ?_⟩
  refine K0.useI (c_nextField hk hC (r / 4) (r % 4) (by omega) (by omega) (by omega)) (by decide) (Nat.le_of_ble_eq_true rfl) (fun hi => ?_)
  refine S0.run 144 md144 pp144 1 rfl rfl rfl 40 12 ?_
  simp only [ev_s, ev_hd, ev_sf, ev_hd0, ev_sf0, ev_0, ev_1, ev_34, ev_li, ev_lr, ev_lx, ev_2, ev_35, ev_3, ev_4, ev_b0, ev_b1, ev_b2, ev_b3, ev_b4, ev_b5, ev_b6, ev_b7, ev_b8, ev_b9, ev_b10, ev_5, ev_6, ev_c0, ev_c1, ev_c2, ev_c3, ev_c4, ev_c5, ev_7, ev_8, ev_9, ev_33, ev_11, ev_12, ev_12x, ev_13, ev_14, ev_15, ev_16, ev_18, ev_18x, ev_22, ev_23, ev_24, ev_32, ev_25, ev_26, ev_27, ev_28, ev_31, ev_w1, ev_w2, ev_p1, ev_p2, ev_p3, ev_p4, ev_p5, ev_p6, ev_p0, ev_n0, ev_n1, ev_n2, ev_n3, ev_n4, ev_n5, ev_n6, ev_n7, ev_m0, ev_m1, ev_m2, ev_m3, ev_m4, ev_m5, ev_m6, ev_m7, ev_r0, ev_r1, ev_r2, ev16, ev30, cond_true, cond_false, true_and, and_true, Int.cast_ofNat_Int, Nat.reduceLT, Nat.reduceLeDiff, Nat.reduceBEq, Int.reduceLT, Int.reduceLE, Int.reduceEq, Int.reduceAdd, Nat.reduceEqDiff, not_true_eq_false, not_false_eq_true, false_implies, forall_const, eq_self, Nat.reduceAdd, Option.toList_some, Option.toList_none, List.cons_append, List.nil_append, List.length_cons, List.length_nil, Bool.false_eq_true, reduceCtorEq, true_or, or_true, false_or, or_false, Int.reduceNeg, implies_true, true_implies, xl1, xl2, xl3, xf1, xf2, xf3, p144_0, p144_25, p144_27, sq144_0, sq144_25, sq144_27, sq144_12, pfmz_0 hk, gfmz_0 hk, pfmz_1 hk, gfmz_1 hk, gfmz_2 hk, gfmz_3 hk, gfmz_4 hk, pfmz_5 hk, gfmz_5 hk, gfmz_6 hk, gfmz_7 hk, gfmz_8 hk, icmz hk, armz1 hk, almz1 hk, armz2 hk, almz2 hk, armz3 hk, almz3 hk, armz4 hk, almz4 hk, armz5 hk, almz5 hk, armz6 hk, almz6 hk, iimz1 hk, iimz2 hk, iimz3 hk, iimz4 hk, iimz5 hk, iimz6 hk]
  have hs : nxf M (r / 4) (r % 4) < 0 ∨ stopsP M (nxf M (r / 4) (r % 4)) → nxr M r = -1 := fun q => by unfold nxr; rw [if_pos q]
  refine ⟨fun q => ⟨rfl, by rw [hs (Or.inl q)]⟩, fun q => ?_⟩
  have hf : isF M (nxf M (r / 4) (r % 4)) := by rcases h with h | h; omega; exact h.1
  refine K0.useB (c_stopsRays hk hC _ hf.1 hf.2.1) (by decide) (Nat.le_of_ble_eq_true rfl) (fun q2 => ?_) (fun q2 => ?_)
  · refine S0.run 144 md144 pp144 1 rfl rfl rfl 40 22 ?_
    simp only [ev_s, ev_hd, ev_sf, ev_hd0, ev_sf0, ev_0, ev_1, ev_34, ev_li, ev_lr, ev_lx, ev_2, ev_35, ev_3, ev_4, ev_b0, ev_b1, ev_b2, ev_b3, ev_b4, ev_b5, ev_b6, ev_b7, ev_b8, ev_b9, ev_b10, ev_5, ev_6, ev_c0, ev_c1, ev_c2, ev_c3, ev_c4, ev_c5, ev_7, ev_8, ev_9, ev_33, ev_11, ev_12, ev_12x, ev_13, ev_14, ev_15, ev_16, ev_18, ev_18x, ev_22, ev_23, ev_24, ev_32, ev_25, ev_26, ev_27, ev_28, ev_31, ev_w1, ev_w2, ev_p1, ev_p2, ev_p3, ev_p4, ev_p5, ev_p6, ev_p0, ev_n0, ev_n1, ev_n2, ev_n3, ev_n4, ev_n5, ev_n6, ev_n7, ev_m0, ev_m1, ev_m2, ev_m3, ev_m4, ev_m5, ev_m6, ev_m7, ev_r0, ev_r1, ev_r2, ev16, ev30, cond_true, cond_false, true_and, and_true, Int.cast_ofNat_Int, Nat.reduceLT, Nat.reduceLeDiff, Nat.reduceBEq, Int.reduceLT, Int.reduceLE, Int.reduceEq, Int.reduceAdd, Nat.reduceEqDiff, not_true_eq_false, not_false_eq_true, false_implies, forall_const, eq_self, Nat.reduceAdd, Option.toList_some, Option.toList_none, List.cons_append, List.nil_append, List.length_cons, List.length_nil, Bool.false_eq_true, reduceCtorEq, true_or, or_true, false_or, or_false, Int.reduceNeg, implies_true, true_implies, xl1, xl2, xl3, xf1, xf2, xf3, p144_0, p144_25, p144_27, sq144_0, sq144_25, sq144_27, sq144_22, pfmz_0 hk, gfmz_0 hk, pfmz_1 hk, gfmz_1 hk, gfmz_2 hk, gfmz_3 hk, gfmz_4 hk, pfmz_5 hk, gfmz_5 hk, gfmz_6 hk, gfmz_7 hk, gfmz_8 hk, icmz hk, armz1 hk, almz1 hk, armz2 hk, almz2 hk, armz3 hk, almz3 hk, armz4 hk, almz4 hk, armz5 hk, almz5 hk, armz6 hk, almz6 hk, iimz1 hk, iimz2 hk, iimz3 hk, iimz4 hk, iimz5 hk, iimz6 hk]
    exact ⟨rfl, by rw [hs (Or.inr q2)]⟩
  · refine S0.run 144 md144 pp144 1 rfl rfl rfl 40 22 ?_
    simp only [ev_s, ev_hd, ev_sf, ev_hd0, ev_sf0, ev_0, ev_1, ev_34, ev_li, ev_lr, ev_lx, ev_2, ev_35, ev_3, ev_4, ev_b0, ev_b1, ev_b2, ev_b3, ev_b4, ev_b5, ev_b6, ev_b7, ev_b8, ev_b9, ev_b10, ev_5, ev_6, ev_c0, ev_c1, ev_c2, ev_c3, ev_c4, ev_c5, ev_7, ev_8, ev_9, ev_33, ev_11, ev_12, ev_12x, ev_13, ev_14, ev_15, ev_16, ev_18, ev_18x, ev_22, ev_23, ev_24, ev_32, ev_25, ev_26, ev_27, ev_28, ev_31, ev_w1, ev_w2, ev_p1, ev_p2, ev_p3, ev_p4, ev_p5, ev_p6, ev_p0, ev_n0, ev_n1, ev_n2, ev_n3, ev_n4, ev_n5, ev_n6, ev_n7, ev_m0, ev_m1, ev_m2, ev_m3, ev_m4, ev_m5, ev_m6, ev_m7, ev_r0, ev_r1, ev_r2, ev16, ev30, cond_true, cond_false, true_and, and_true, Int.cast_ofNat_Int, Nat.reduceLT, Nat.reduceLeDiff, Nat.reduceBEq, Int.reduceLT, Int.reduceLE, Int.reduceEq, Int.reduceAdd, Nat.reduceEqDiff, not_true_eq_false, not_false_eq_true, false_implies, forall_const, eq_self, Nat.reduceAdd, Option.toList_some, Option.toList_none, List.cons_append, List.nil_append, List.length_cons, List.length_nil, Bool.false_eq_true, reduceCtorEq, true_or, or_true, false_or, or_false, Int.reduceNeg, implies_true, true_implies, xl1, xl2, xl3, xf1, xf2, xf3, p144_0, p144_25, p144_27, sq144_0, sq144_25, sq144_27, sq144_22, pfmz_0 hk, gfmz_0 hk, pfmz_1 hk, gfmz_1 hk, gfmz_2 hk, gfmz_3 hk, gfmz_4 hk, pfmz_5 hk, gfmz_5 hk, gfmz_6 hk, gfmz_7 hk, gfmz_8 hk, icmz hk, armz1 hk, almz1 hk, armz2 hk, almz2 hk, armz3 hk, almz3 hk, armz4 hk, almz4 hk, armz5 hk, almz5 hk, armz6 hk, almz6 hk, iimz1 hk, iimz2 hk, iimz3 hk, iimz4 hk, iimz5 hk, iimz6 hk]
    repeat (refine And.intro (by (try unfold InR); omega) ?_)
    have hw := wout_W (M := M) (f := nxf M (r / 4) (r % 4)) (w := r % 4) (by omega)
    refine K0.useI (c_wayOut hk hC _ (r % 4) hf.1 hf.2.1 (by omega)) (by decide) (Nat.le_of_ble_eq_true rfl) (fun hi => ?_)
    refine S0.run 144 md144 pp144 1 rfl rfl rfl 40 36 ?_
    simp only [ev_s, ev_hd, ev_sf, ev_hd0, ev_sf0, ev_0, ev_1, ev_34, ev_li, ev_lr, ev_lx, ev_2, ev_35, ev_3, ev_4, ev_b0, ev_b1, ev_b2, ev_b3, ev_b4, ev_b5, ev_b6, ev_b7, ev_b8, ev_b9, ev_b10, ev_5, ev_6, ev_c0, ev_c1, ev_c2, ev_c3, ev_c4, ev_c5, ev_7, ev_8, ev_9, ev_33, ev_11, ev_12, ev_12x, ev_13, ev_14, ev_15, ev_16, ev_18, ev_18x, ev_22, ev_23, ev_24, ev_32, ev_25, ev_26, ev_27, ev_28, ev_31, ev_w1, ev_w2, ev_p1, ev_p2, ev_p3, ev_p4, ev_p5, ev_p6, ev_p0, ev_n0, ev_n1, ev_n2, ev_n3, ev_n4, ev_n5, ev_n6, ev_n7, ev_m0, ev_m1, ev_m2, ev_m3, ev_m4, ev_m5, ev_m6, ev_m7, ev_r0, ev_r1, ev_r2, ev16, ev30, cond_true, cond_false, true_and, and_true, Int.cast_ofNat_Int, Nat.reduceLT, Nat.reduceLeDiff, Nat.reduceBEq, Int.reduceLT, Int.reduceLE, Int.reduceEq, Int.reduceAdd, Nat.reduceEqDiff, not_true_eq_false, not_false_eq_true, false_implies, forall_const, eq_self, Nat.reduceAdd, Option.toList_some, Option.toList_none, List.cons_append, List.nil_append, List.length_cons, List.length_nil, Bool.false_eq_true, reduceCtorEq, true_or, or_true, false_or, or_false, Int.reduceNeg, implies_true, true_implies, xl1, xl2, xl3, xf1, xf2, xf3, p144_0, p144_25, p144_27, sq144_0, sq144_25, sq144_27, sq144_36, pfmz_0 hk, gfmz_0 hk, pfmz_1 hk, gfmz_1 hk, gfmz_2 hk, gfmz_3 hk, gfmz_4 hk, pfmz_5 hk, gfmz_5 hk, gfmz_6 hk, gfmz_7 hk, gfmz_8 hk, icmz hk, armz1 hk, almz1 hk, armz2 hk, almz2 hk, armz3 hk, almz3 hk, armz4 hk, almz4 hk, armz5 hk, almz5 hk, armz6 hk, almz6 hk, iimz1 hk, iimz2 hk, iimz3 hk, iimz4 hk, iimz5 hk, iimz6 hk]
    repeat (refine And.intro (by (try unfold InR); omega) ?_)
    refine rI_mk ?_
    unfold nxr
    rw [if_neg (by intro c; rcases c with c | c; exact q c; exact q2 c)]
/-- a path, told at k -/
def PaC (σ : Sg) (k : Nat) (M : Int → Int) (r : Int) : Prop := σ k 1 = plen M r ∧ σ k 2 = pcl M r ∧ ∀ i : Nat, (i : Int) < plen M r → σ (k + 1) i = it M r i
theorem c_follow (hp : Ispa k) (hk : Ismz m) (hC : MzC σ m M) (hM : wfM M) (hd : m + 6 < k ∨ k + 1 < m) (f w : Int) (hf : isF M f) (hw : isW w) : C0 X 4 143 [vr k, vr m, vi f, vi w] σ (fun r σ' => r = none ∧ PaC σ' k M (4 * f + w) ∧ Fr k (k + 1) σ σ') := by
  refine C0.intro md143 (by decide) rfl (by decide) (Nat.le_of_ble_eq_true rfl) ?_
  intro hin hav
  show S0 X _ 143 _ 0 [vr k, vr m, vi f, vi w, vx 9, vx 9, vx 9] [] _
  have hr : isP (4 * f + w) := by omega
  obtain ⟨l1, l2, l3⟩ := plen_ok hM hr
  have loop : ∀ (n i : Nat) (σ1 : Sg), ((i + n : Nat) : Int) = plen M (4 * f + w) → σ1 k 1 = i → σ1 k 2 = (if 1 ≤ i ∧ it M (4 * f + w) i = 4 * f + w then 1 else 0) → (∀ j : Nat, j < i → σ1 (k + 1) j = it M (4 * f + w) j) → Fr k (k + 1) σ σ1 → S0 X 4 143 (fun r σ' => r = none ∧ PaC σ' k M (4 * f + w) ∧ Fr k (k + 1) σ σ') 24 [vr k, vr m, vi f, vi w, vi (4 * f + w), vi (it M (4 * f + w) i), vi (i : Int)] [] σ1 := by
    intro n
    induction n with
    | zero =>
      intro i σ1 h1 h2 h3 h4 h5
      have ei : (plen M (4 * f + w)).toNat = i := by omega
      have done : PaC σ1 k M (4 * f + w) := by
        refine ⟨by omega, ?_, fun j hj => h4 j (by omega)⟩
        unfold pcl
        rw [ei, h3]
        by_cases q : it M (4 * f + w) i = 4 * f + w
        · rw [if_pos ⟨by omega, q⟩, if_pos q]
        · rw [if_neg (fun c => q c.2), if_neg q]
      refine S0.run 143 md143 pp143 0 rfl rfl rfl 60 24 ?_
      simp only [ev_s, ev_hd, ev_sf, ev_hd0, ev_sf0, ev_0, ev_1, ev_34, ev_li, ev_lr, ev_lx, ev_2, ev_35, ev_3, ev_4, ev_b0, ev_b1, ev_b2, ev_b3, ev_b4, ev_b5, ev_b6, ev_b7, ev_b8, ev_b9, ev_b10, ev_5, ev_6, ev_c0, ev_c1, ev_c2, ev_c3, ev_c4, ev_c5, ev_7, ev_8, ev_9, ev_33, ev_11, ev_12, ev_12x, ev_13, ev_14, ev_15, ev_16, ev_18, ev_18x, ev_22, ev_23, ev_24, ev_32, ev_25, ev_26, ev_27, ev_28, ev_31, ev_w1, ev_w2, ev_p1, ev_p2, ev_p3, ev_p4, ev_p5, ev_p6, ev_p0, ev_n0, ev_n1, ev_n2, ev_n3, ev_n4, ev_n5, ev_n6, ev_n7, ev_m0, ev_m1, ev_m2, ev_m3, ev_m4, ev_m5, ev_m6, ev_m7, ev_r0, ev_r1, ev_r2, ev16, ev30, cond_true, cond_false, true_and, and_true, Int.cast_ofNat_Int, Nat.reduceLT, Nat.reduceLeDiff, Nat.reduceBEq, Int.reduceLT, Int.reduceLE, Int.reduceEq, Int.reduceAdd, Nat.reduceEqDiff, not_true_eq_false, not_false_eq_true, false_implies, forall_const, eq_self, Nat.reduceAdd, Option.toList_some, Option.toList_none, List.cons_append, List.nil_append, List.length_cons, List.length_nil, Bool.false_eq_true, reduceCtorEq, true_or, or_true, false_or, or_false, Int.reduceNeg, implies_true, true_implies, xl1, xl2, xl3, xf1, xf2, xf3, p143_0, p143_24, p143_83, p143_84, p143_93, sq143_0, sq143_24, sq143_83, sq143_84, sq143_93, gfpa_0 hp, pfpa_1 hp, gfpa_1 hp, pfpa_2 hp, gfpa_2 hp, icpa hp, arpa1 hp, alpa1 hp, iipa1 hp, h3]
      refine ⟨fun _ => ⟨done, h5⟩, fun q => ⟨fun _ => ⟨done, h5⟩, fun q1 => ⟨fun _ => ⟨done, h5⟩, fun q2 => ?_⟩⟩⟩
      rw [ei] at l2
      exact absurd (by rw [if_pos ⟨by omega, l2.resolve_left q1⟩]; omega) q2
    | succ n ih =>
      intro i σ1 h1 h2 h3 h4 h5
      have hi1 := l3 i (by omega)
      have h3 : σ1 k 2 = 0 := by rw [h3, if_neg (fun c => hi1.2 c.1 c.2)]
      refine S0.run 143 md143 pp143 0 rfl rfl rfl 60 24 ?_
      simp only [ev_s, ev_hd, ev_sf, ev_hd0, ev_sf0, ev_0, ev_1, ev_34, ev_li, ev_lr, ev_lx, ev_2, ev_35, ev_3, ev_4, ev_b0, ev_b1, ev_b2, ev_b3, ev_b4, ev_b5, ev_b6, ev_b7, ev_b8, ev_b9, ev_b10, ev_5, ev_6, ev_c0, ev_c1, ev_c2, ev_c3, ev_c4, ev_c5, ev_7, ev_8, ev_9, ev_33, ev_11, ev_12, ev_12x, ev_13, ev_14, ev_15, ev_16, ev_18, ev_18x, ev_22, ev_23, ev_24, ev_32, ev_25, ev_26, ev_27, ev_28, ev_31, ev_w1, ev_w2, ev_p1, ev_p2, ev_p3, ev_p4, ev_p5, ev_p6, ev_p0, ev_n0, ev_n1, ev_n2, ev_n3, ev_n4, ev_n5, ev_n6, ev_n7, ev_m0, ev_m1, ev_m2, ev_m3, ev_m4, ev_m5, ev_m6, ev_m7, ev_r0, ev_r1, ev_r2, ev16, ev30, cond_true, cond_false, true_and, and_true, Int.cast_ofNat_Int, Nat.reduceLT, Nat.reduceLeDiff, Nat.reduceBEq, Int.reduceLT, Int.reduceLE, Int.reduceEq, Int.reduceAdd, Nat.reduceEqDiff, not_true_eq_false, not_false_eq_true, false_implies, forall_const, eq_self, Nat.reduceAdd, Option.toList_some, Option.toList_none, List.cons_append, List.nil_append, List.length_cons, List.length_nil, Bool.false_eq_true, reduceCtorEq, true_or, or_true, false_or, or_false, Int.reduceNeg, implies_true, true_implies, xl1, xl2, xl3, xf1, xf2, xf3, p143_0, p143_24, p143_83, p143_84, p143_93, sq143_0, sq143_24, sq143_83, sq143_84, sq143_93, gfpa_0 hp, pfpa_1 hp, gfpa_1 hp, pfpa_2 hp, gfpa_2 hp, icpa hp, arpa1 hp, alpa1 hp, iipa1 hp, h3]
      refine ⟨fun q => by omega, fun q => ⟨fun q => by omega, fun q => ⟨by omega, ?_, ?_⟩⟩⟩
      · rw [st_off _ _ _ (by omega), h2]
        unfold InR
        omega
      · have e2 : st σ1 (k + 1) (i : Int) (it M (4 * f + w) i) k 1 + 1 = ((i + 1 : Nat) : Int) := by rw [st_off _ _ _ (by omega), h2]; rfl
        rw [e2]
        have hF : Fr k (k + 1) σ (st (st σ1 (k + 1) (i : Int) (it M (4 * f + w) i)) k 1 ((i + 1 : Nat) : Int)) := fr_st2 (fr_st2 h5 (by omega) (by omega)) (by omega) (by omega)
        have nxt : ∀ b, b = (if 1 ≤ i + 1 ∧ it M (4 * f + w) (i + 1) = 4 * f + w then 1 else 0) → S0 X 4 143 (fun r σ' => r = none ∧ PaC σ' k M (4 * f + w) ∧ Fr k (k + 1) σ σ') 24 [vr k, vr m, vi f, vi w, vi (4 * f + w), vi (it M (4 * f + w) (i + 1)), vi ((i + 1 : Nat) : Int)] [] (st (st (st σ1 (k + 1) (i : Int) (it M (4 * f + w) i)) k 1 ((i + 1 : Nat) : Int)) k 2 b) := by
          intro b hb
          refine ih (i + 1) _ (by omega) ?_ ?_ (fun j hj => ?_) (fr_st2 hF (by omega) (by omega))
          · rw [st_mis (by omega), st_hit]
          · rw [st_hit]; exact hb
          · rw [st_off _ _ _ (by omega), st_off _ _ _ (by omega)]
            by_cases hji : j = i
            · subst hji; rw [st_hit]
            · rw [st_mis (by omega)]; exact h4 j (by omega)
        refine K0.useI (c_placeBehind hk (hC.fr hF hd) hM _ hi1.1) (by decide) (Nat.le_of_ble_eq_true rfl) (fun hi => ?_)
        refine S0.run 143 md143 pp143 0 rfl rfl rfl 60 69 ?_
        simp only [ev_s, ev_hd, ev_sf, ev_hd0, ev_sf0, ev_0, ev_1, ev_34, ev_li, ev_lr, ev_lx, ev_2, ev_35, ev_3, ev_4, ev_b0, ev_b1, ev_b2, ev_b3, ev_b4, ev_b5, ev_b6, ev_b7, ev_b8, ev_b9, ev_b10, ev_5, ev_6, ev_c0, ev_c1, ev_c2, ev_c3, ev_c4, ev_c5, ev_7, ev_8, ev_9, ev_33, ev_11, ev_12, ev_12x, ev_13, ev_14, ev_15, ev_16, ev_18, ev_18x, ev_22, ev_23, ev_24, ev_32, ev_25, ev_26, ev_27, ev_28, ev_31, ev_w1, ev_w2, ev_p1, ev_p2, ev_p3, ev_p4, ev_p5, ev_p6, ev_p0, ev_n0, ev_n1, ev_n2, ev_n3, ev_n4, ev_n5, ev_n6, ev_n7, ev_m0, ev_m1, ev_m2, ev_m3, ev_m4, ev_m5, ev_m6, ev_m7, ev_r0, ev_r1, ev_r2, ev16, ev30, cond_true, cond_false, true_and, and_true, Int.cast_ofNat_Int, Nat.reduceLT, Nat.reduceLeDiff, Nat.reduceBEq, Int.reduceLT, Int.reduceLE, Int.reduceEq, Int.reduceAdd, Nat.reduceEqDiff, not_true_eq_false, not_false_eq_true, false_implies, forall_const, eq_self, Nat.reduceAdd, Option.toList_some, Option.toList_none, List.cons_append, List.nil_append, List.length_cons, List.length_nil, Bool.false_eq_true, reduceCtorEq, true_or, or_true, false_or, or_false, Int.reduceNeg, implies_true, true_implies, xl1, xl2, xl3, xf1, xf2, xf3, p143_0, p143_24, p143_83, p143_84, p143_93, sq143_0, sq143_24, sq143_83, sq143_84, sq143_93, sq143_69, gfpa_0 hp, pfpa_1 hp, gfpa_1 hp, pfpa_2 hp, gfpa_2 hp, icpa hp, arpa1 hp, alpa1 hp, iipa1 hp]
        refine ⟨fun q => ⟨by unfold InR; omega, nxt 0 ?_⟩, fun q => ⟨by unfold InR; omega, nxt 1 ?_⟩⟩
        · rw [if_neg (fun c => q c.2)]
        · rw [if_pos ⟨by omega, Classical.not_not.mp q⟩]
  refine S0.run 143 md143 pp143 0 rfl rfl rfl 60 0 ?_
  simp only [ev_s, ev_hd, ev_sf, ev_hd0, ev_sf0, ev_0, ev_1, ev_34, ev_li, ev_lr, ev_lx, ev_2, ev_35, ev_3, ev_4, ev_b0, ev_b1, ev_b2, ev_b3, ev_b4, ev_b5, ev_b6, ev_b7, ev_b8, ev_b9, ev_b10, ev_5, ev_6, ev_c0, ev_c1, ev_c2, ev_c3, ev_c4, ev_c5, ev_7, ev_8, ev_9, ev_33, ev_11, ev_12, ev_12x, ev_13, ev_14, ev_15, ev_16, ev_18, ev_18x, ev_22, ev_23, ev_24, ev_32, ev_25, ev_26, ev_27, ev_28, ev_31, ev_w1, ev_w2, ev_p1, ev_p2, ev_p3, ev_p4, ev_p5, ev_p6, ev_p0, ev_n0, ev_n1, ev_n2, ev_n3, ev_n4, ev_n5, ev_n6, ev_n7, ev_m0, ev_m1, ev_m2, ev_m3, ev_m4, ev_m5, ev_m6, ev_m7, ev_r0, ev_r1, ev_r2, ev16, ev30, cond_true, cond_false, true_and, and_true, Int.cast_ofNat_Int, Nat.reduceLT, Nat.reduceLeDiff, Nat.reduceBEq, Int.reduceLT, Int.reduceLE, Int.reduceEq, Int.reduceAdd, Nat.reduceEqDiff, not_true_eq_false, not_false_eq_true, false_implies, forall_const, eq_self, Nat.reduceAdd, Option.toList_some, Option.toList_none, List.cons_append, List.nil_append, List.length_cons, List.length_nil, Bool.false_eq_true, reduceCtorEq, true_or, or_true, false_or, or_false, Int.reduceNeg, implies_true, true_implies, xl1, xl2, xl3, xf1, xf2, xf3, p143_0, p143_24, p143_83, p143_84, p143_93, sq143_0, sq143_24, sq143_83, sq143_84, sq143_93, gfpa_0 hp, pfpa_1 hp, gfpa_1 hp, pfpa_2 hp, gfpa_2 hp, icpa hp, arpa1 hp, alpa1 hp, iipa1 hp]
  repeat (refine And.intro (by (try unfold InR); omega) ?_)
  refine loop (plen M (4 * f + w)).toNat 0 _ (by omega) (by rw [st_hit]; rfl) (by rw [st_mis (by omega), st_hit, if_neg (by omega)]) (fun j hj => by omega) (fr_st2 (fr_st2 Fr.rf (by omega) (by omega)) (by omega) (by omega))
theorem m_next (hR : MzR σ M) (hM : wfM M) (r : Int) (hr : isP r) : C0 X 3 70 [vr 212, vi r] σ (rI (nxr M r) σ) := by
  refine C0.intro md70 (by decide) rfl (by decide) (Nat.le_of_ble_eq_true rfl) ?_
  intro hin hav
  show S0 X _ 70 _ 0 [vr 212, vi r, vx 9] [] _
  have h := nxf_F hM (f := r / 4) (w := r % 4) (by omega) (by omega)
  have hs : nxf M (r / 4) (r % 4) < 0 ∨ stopsP M (nxf M (r / 4) (r % 4)) → nxr M r = -1 := fun q => by unfold nxr; rw [if_pos q]
  refine S0.run 70 md70 pp70 1 rfl rfl rfl 40 0 ?_
  simp only [ev_s, ev_hd, ev_sf, ev_hd0, ev_sf0, ev_0, ev_1, ev_34, ev_li, ev_lr, ev_lx, ev_2, ev_35, ev_3, ev_4, ev_b0, ev_b1, ev_b2, ev_b3, ev_b4, ev_b5, ev_b6, ev_b7, ev_b8, ev_b9, ev_b10, ev_5, ev_6, ev_c0, ev_c1, ev_c2, ev_c3, ev_c4, ev_c5, ev_7, ev_8, ev_9, ev_33, ev_11, ev_12, ev_12x, ev_13, ev_14, ev_15, ev_16, ev_18, ev_18x, ev_22, ev_23, ev_24, ev_32, ev_25, ev_26, ev_27, ev_28, ev_31, ev_w1, ev_w2, ev_p1, ev_p2, ev_p3, ev_p4, ev_p5, ev_p6, ev_p0, ev_n0, ev_n1, ev_n2, ev_n3, ev_n4, ev_n5, ev_n6, ev_n7, ev_m0, ev_m1, ev_m2, ev_m3, ev_m4, ev_m5, ev_m6, ev_m7, ev_r0, ev_r1, ev_r2, ev16, ev30, gf212_0, gf212_1, pf212_2, gf212_2, gf212_3, gf212_4, gf212_5, pf212_6, gf212_6, pf212_7, gf212_7, gf212_8, pf212_9, gf212_9, gf212_10, gf212_11, gf212_12, gf212_13, pf212_14, gf212_14, gf212_15, gf212_16, gf212_17, pf212_18, gf212_18, gf212_19, gf212_20, gf212_21, gf212_22, gf212_23, ic212, ar213, al213, ii213, ar214, al214, ii214, ar215, al215, ii215, ar216, al216, ii216, ar217, al217, ii217, ar218, al218, ii218, ar219, al219, ar220, al220, ar221, al221, ar222, al222, ii222, ar223, al223, ii223, ar224, al224, ii224, ar225, al225, ar226, al226, ii226, ar227, al227, ii227, ar228, al228, ii228, ar229, al229, ar230, al230, ii230, cond_true, cond_false, true_and, and_true, Int.cast_ofNat_Int, Nat.reduceLT, Nat.reduceLeDiff, Nat.reduceBEq, Int.reduceLT, Int.reduceLE, Int.reduceEq, Int.reduceAdd, Nat.reduceEqDiff, not_true_eq_false, not_false_eq_true, false_implies, forall_const, eq_self, Nat.reduceAdd, Option.toList_some, Option.toList_none, List.cons_append, List.nil_append, List.length_cons, List.length_nil, Bool.false_eq_true, reduceCtorEq, true_or, or_true, false_or, or_false, Int.reduceNeg, implies_true, true_implies, xl1, xl2, xl3, xf1, xf2, xf3, p70_0, p70_23, p70_25, p70_57, p70_60, sq70_0, sq70_23, sq70_25, sq70_57, sq70_60]
  refine ⟨hr.1, hr.1, ?_⟩
  refine K0.useI (m_beside hR (r / 4) (r % 4) (by omega) (by omega) ⟨hM.1, hM.2.1⟩) (by decide) (Nat.le_of_ble_eq_true rfl) (fun hi => ?_)
  refine S0.run 70 md70 pp70 1 rfl rfl rfl 40 10 ?_
  simp only [ev_s, ev_hd, ev_sf, ev_hd0, ev_sf0, ev_0, ev_1, ev_34, ev_li, ev_lr, ev_lx, ev_2, ev_35, ev_3, ev_4, ev_b0, ev_b1, ev_b2, ev_b3, ev_b4, ev_b5, ev_b6, ev_b7, ev_b8, ev_b9, ev_b10, ev_5, ev_6, ev_c0, ev_c1, ev_c2, ev_c3, ev_c4, ev_c5, ev_7, ev_8, ev_9, ev_33, ev_11, ev_12, ev_12x, ev_13, ev_14, ev_15, ev_16, ev_18, ev_18x, ev_22, ev_23, ev_24, ev_32, ev_25, ev_26, ev_27, ev_28, ev_31, ev_w1, ev_w2, ev_p1, ev_p2, ev_p3, ev_p4, ev_p5, ev_p6, ev_p0, ev_n0, ev_n1, ev_n2, ev_n3, ev_n4, ev_n5, ev_n6, ev_n7, ev_m0, ev_m1, ev_m2, ev_m3, ev_m4, ev_m5, ev_m6, ev_m7, ev_r0, ev_r1, ev_r2, ev16, ev30, gf212_0, gf212_1, pf212_2, gf212_2, gf212_3, gf212_4, gf212_5, pf212_6, gf212_6, pf212_7, gf212_7, gf212_8, pf212_9, gf212_9, gf212_10, gf212_11, gf212_12, gf212_13, pf212_14, gf212_14, gf212_15, gf212_16, gf212_17, pf212_18, gf212_18, gf212_19, gf212_20, gf212_21, gf212_22, gf212_23, ic212, ar213, al213, ii213, ar214, al214, ii214, ar215, al215, ii215, ar216, al216, ii216, ar217, al217, ii217, ar218, al218, ii218, ar219, al219, ar220, al220, ar221, al221, ar222, al222, ii222, ar223, al223, ii223, ar224, al224, ii224, ar225, al225, ar226, al226, ii226, ar227, al227, ii227, ar228, al228, ii228, ar229, al229, ar230, al230, ii230, cond_true, cond_false, true_and, and_true, Int.cast_ofNat_Int, Nat.reduceLT, Nat.reduceLeDiff, Nat.reduceBEq, Int.reduceLT, Int.reduceLE, Int.reduceEq, Int.reduceAdd, Nat.reduceEqDiff, not_true_eq_false, not_false_eq_true, false_implies, forall_const, eq_self, Nat.reduceAdd, Option.toList_some, Option.toList_none, List.cons_append, List.nil_append, List.length_cons, List.length_nil, Bool.false_eq_true, reduceCtorEq, true_or, or_true, false_or, or_false, Int.reduceNeg, implies_true, true_implies, xl1, xl2, xl3, xf1, xf2, xf3, p70_0, p70_23, p70_25, p70_57, p70_60, sq70_0, sq70_23, sq70_25, sq70_57, sq70_60, sq70_10]
  refine ⟨fun q => ⟨rfl, by rw [hs (Or.inl q)]⟩, fun q => ?_⟩
  have hf : isF M (nxf M (r / 4) (r % 4)) := by rcases h with h | h; omega; exact h.1
  have e1 := hR (85 + nxf M (r / 4) (r % 4)) (by omega) (by omega)
  have hw := wout_W (M := M) (f := nxf M (r / 4) (r % 4)) (w := r % 4) (by omega)
  refine K0.useB (m_stops hR _ hf.1 hf.2.1) (by decide) (Nat.le_of_ble_eq_true rfl) (fun q2 => ?_) (fun q2 => ?_)
  · refine S0.run 70 md70 pp70 1 rfl rfl rfl 40 20 ?_
    simp only [ev_s, ev_hd, ev_sf, ev_hd0, ev_sf0, ev_0, ev_1, ev_34, ev_li, ev_lr, ev_lx, ev_2, ev_35, ev_3, ev_4, ev_b0, ev_b1, ev_b2, ev_b3, ev_b4, ev_b5, ev_b6, ev_b7, ev_b8, ev_b9, ev_b10, ev_5, ev_6, ev_c0, ev_c1, ev_c2, ev_c3, ev_c4, ev_c5, ev_7, ev_8, ev_9, ev_33, ev_11, ev_12, ev_12x, ev_13, ev_14, ev_15, ev_16, ev_18, ev_18x, ev_22, ev_23, ev_24, ev_32, ev_25, ev_26, ev_27, ev_28, ev_31, ev_w1, ev_w2, ev_p1, ev_p2, ev_p3, ev_p4, ev_p5, ev_p6, ev_p0, ev_n0, ev_n1, ev_n2, ev_n3, ev_n4, ev_n5, ev_n6, ev_n7, ev_m0, ev_m1, ev_m2, ev_m3, ev_m4, ev_m5, ev_m6, ev_m7, ev_r0, ev_r1, ev_r2, ev16, ev30, gf212_0, gf212_1, pf212_2, gf212_2, gf212_3, gf212_4, gf212_5, pf212_6, gf212_6, pf212_7, gf212_7, gf212_8, pf212_9, gf212_9, gf212_10, gf212_11, gf212_12, gf212_13, pf212_14, gf212_14, gf212_15, gf212_16, gf212_17, pf212_18, gf212_18, gf212_19, gf212_20, gf212_21, gf212_22, gf212_23, ic212, ar213, al213, ii213, ar214, al214, ii214, ar215, al215, ii215, ar216, al216, ii216, ar217, al217, ii217, ar218, al218, ii218, ar219, al219, ar220, al220, ar221, al221, ar222, al222, ii222, ar223, al223, ii223, ar224, al224, ii224, ar225, al225, ar226, al226, ii226, ar227, al227, ii227, ar228, al228, ii228, ar229, al229, ar230, al230, ii230, cond_true, cond_false, true_and, and_true, Int.cast_ofNat_Int, Nat.reduceLT, Nat.reduceLeDiff, Nat.reduceBEq, Int.reduceLT, Int.reduceLE, Int.reduceEq, Int.reduceAdd, Nat.reduceEqDiff, not_true_eq_false, not_false_eq_true, false_implies, forall_const, eq_self, Nat.reduceAdd, Option.toList_some, Option.toList_none, List.cons_append, List.nil_append, List.length_cons, List.length_nil, Bool.false_eq_true, reduceCtorEq, true_or, or_true, false_or, or_false, Int.reduceNeg, implies_true, true_implies, xl1, xl2, xl3, xf1, xf2, xf3, p70_0, p70_23, p70_25, p70_57, p70_60, sq70_0, sq70_23, sq70_25, sq70_57, sq70_60, sq70_20]
    exact ⟨rfl, by rw [hs (Or.inr q2)]⟩
  · refine S0.run 70 md70 pp70 1 rfl rfl rfl 40 20 ?_
    simp only [ev_s, ev_hd, ev_sf, ev_hd0, ev_sf0, ev_0, ev_1, ev_34, ev_li, ev_lr, ev_lx, ev_2, ev_35, ev_3, ev_4, ev_b0, ev_b1, ev_b2, ev_b3, ev_b4, ev_b5, ev_b6, ev_b7, ev_b8, ev_b9, ev_b10, ev_5, ev_6, ev_c0, ev_c1, ev_c2, ev_c3, ev_c4, ev_c5, ev_7, ev_8, ev_9, ev_33, ev_11, ev_12, ev_12x, ev_13, ev_14, ev_15, ev_16, ev_18, ev_18x, ev_22, ev_23, ev_24, ev_32, ev_25, ev_26, ev_27, ev_28, ev_31, ev_w1, ev_w2, ev_p1, ev_p2, ev_p3, ev_p4, ev_p5, ev_p6, ev_p0, ev_n0, ev_n1, ev_n2, ev_n3, ev_n4, ev_n5, ev_n6, ev_n7, ev_m0, ev_m1, ev_m2, ev_m3, ev_m4, ev_m5, ev_m6, ev_m7, ev_r0, ev_r1, ev_r2, ev16, ev30, gf212_0, gf212_1, pf212_2, gf212_2, gf212_3, gf212_4, gf212_5, pf212_6, gf212_6, pf212_7, gf212_7, gf212_8, pf212_9, gf212_9, gf212_10, gf212_11, gf212_12, gf212_13, pf212_14, gf212_14, gf212_15, gf212_16, gf212_17, pf212_18, gf212_18, gf212_19, gf212_20, gf212_21, gf212_22, gf212_23, ic212, ar213, al213, ii213, ar214, al214, ii214, ar215, al215, ii215, ar216, al216, ii216, ar217, al217, ii217, ar218, al218, ii218, ar219, al219, ar220, al220, ar221, al221, ar222, al222, ii222, ar223, al223, ii223, ar224, al224, ii224, ar225, al225, ar226, al226, ii226, ar227, al227, ii227, ar228, al228, ii228, ar229, al229, ar230, al230, ii230, cond_true, cond_false, true_and, and_true, Int.cast_ofNat_Int, Nat.reduceLT, Nat.reduceLeDiff, Nat.reduceBEq, Int.reduceLT, Int.reduceLE, Int.reduceEq, Int.reduceAdd, Nat.reduceEqDiff, not_true_eq_false, not_false_eq_true, false_implies, forall_const, eq_self, Nat.reduceAdd, Option.toList_some, Option.toList_none, List.cons_append, List.nil_append, List.length_cons, List.length_nil, Bool.false_eq_true, reduceCtorEq, true_or, or_true, false_or, or_false, Int.reduceNeg, implies_true, true_implies, xl1, xl2, xl3, xf1, xf2, xf3, p70_0, p70_23, p70_25, p70_57, p70_60, sq70_0, sq70_23, sq70_25, sq70_57, sq70_60, sq70_20]
    repeat (refine And.intro (by (try unfold InR); omega) ?_)
    have en : nxr M r = 4 * nxf M (r / 4) (r % 4) + wout M (nxf M (r / 4) (r % 4)) (r % 4) := by
      unfold nxr
      rw [if_neg (by intro c; rcases c with c | c; exact q c; exact q2 c)]
    refine K0.useI (m_kind hR _ hf.1 hf.2.1) (by decide) (Nat.le_of_ble_eq_true rfl) (fun hi => ?_)
    refine S0.run 70 md70 pp70 1 rfl rfl rfl 40 33 ?_
    simp only [ev_s, ev_hd, ev_sf, ev_hd0, ev_sf0, ev_0, ev_1, ev_34, ev_li, ev_lr, ev_lx, ev_2, ev_35, ev_3, ev_4, ev_b0, ev_b1, ev_b2, ev_b3, ev_b4, ev_b5, ev_b6, ev_b7, ev_b8, ev_b9, ev_b10, ev_5, ev_6, ev_c0, ev_c1, ev_c2, ev_c3, ev_c4, ev_c5, ev_7, ev_8, ev_9, ev_33, ev_11, ev_12, ev_12x, ev_13, ev_14, ev_15, ev_16, ev_18, ev_18x, ev_22, ev_23, ev_24, ev_32, ev_25, ev_26, ev_27, ev_28, ev_31, ev_w1, ev_w2, ev_p1, ev_p2, ev_p3, ev_p4, ev_p5, ev_p6, ev_p0, ev_n0, ev_n1, ev_n2, ev_n3, ev_n4, ev_n5, ev_n6, ev_n7, ev_m0, ev_m1, ev_m2, ev_m3, ev_m4, ev_m5, ev_m6, ev_m7, ev_r0, ev_r1, ev_r2, ev16, ev30, gf212_0, gf212_1, pf212_2, gf212_2, gf212_3, gf212_4, gf212_5, pf212_6, gf212_6, pf212_7, gf212_7, gf212_8, pf212_9, gf212_9, gf212_10, gf212_11, gf212_12, gf212_13, pf212_14, gf212_14, gf212_15, gf212_16, gf212_17, pf212_18, gf212_18, gf212_19, gf212_20, gf212_21, gf212_22, gf212_23, ic212, ar213, al213, ii213, ar214, al214, ii214, ar215, al215, ii215, ar216, al216, ii216, ar217, al217, ii217, ar218, al218, ii218, ar219, al219, ar220, al220, ar221, al221, ar222, al222, ii222, ar223, al223, ii223, ar224, al224, ii224, ar225, al225, ar226, al226, ii226, ar227, al227, ii227, ar228, al228, ii228, ar229, al229, ar230, al230, ii230, cond_true, cond_false, true_and, and_true, Int.cast_ofNat_Int, Nat.reduceLT, Nat.reduceLeDiff, Nat.reduceBEq, Int.reduceLT, Int.reduceLE, Int.reduceEq, Int.reduceAdd, Nat.reduceEqDiff, not_true_eq_false, not_false_eq_true, false_implies, forall_const, eq_self, Nat.reduceAdd, Option.toList_some, Option.toList_none, List.cons_append, List.nil_append, List.length_cons, List.length_nil, Bool.false_eq_true, reduceCtorEq, true_or, or_true, false_or, or_false, Int.reduceNeg, implies_true, true_implies, xl1, xl2, xl3, xf1, xf2, xf3, p70_0, p70_23, p70_25, p70_57, p70_60, sq70_0, sq70_23, sq70_25, sq70_57, sq70_60, sq70_33]
    refine K0.useB (m_leans _) (by decide) (Nat.le_of_ble_eq_true rfl) (fun q3 => ?_) (fun q3 => ?_)
    · have ew : wout M (nxf M (r / 4) (r % 4)) (r % 4) = trn (r % 4) (M (85 + nxf M (r / 4) (r % 4))) := by unfold wout; rw [if_pos q3]
      refine S0.run 70 md70 pp70 1 rfl rfl rfl 40 36 ?_
      simp only [ev_s, ev_hd, ev_sf, ev_hd0, ev_sf0, ev_0, ev_1, ev_34, ev_li, ev_lr, ev_lx, ev_2, ev_35, ev_3, ev_4, ev_b0, ev_b1, ev_b2, ev_b3, ev_b4, ev_b5, ev_b6, ev_b7, ev_b8, ev_b9, ev_b10, ev_5, ev_6, ev_c0, ev_c1, ev_c2, ev_c3, ev_c4, ev_c5, ev_7, ev_8, ev_9, ev_33, ev_11, ev_12, ev_12x, ev_13, ev_14, ev_15, ev_16, ev_18, ev_18x, ev_22, ev_23, ev_24, ev_32, ev_25, ev_26, ev_27, ev_28, ev_31, ev_w1, ev_w2, ev_p1, ev_p2, ev_p3, ev_p4, ev_p5, ev_p6, ev_p0, ev_n0, ev_n1, ev_n2, ev_n3, ev_n4, ev_n5, ev_n6, ev_n7, ev_m0, ev_m1, ev_m2, ev_m3, ev_m4, ev_m5, ev_m6, ev_m7, ev_r0, ev_r1, ev_r2, ev16, ev30, gf212_0, gf212_1, pf212_2, gf212_2, gf212_3, gf212_4, gf212_5, pf212_6, gf212_6, pf212_7, gf212_7, gf212_8, pf212_9, gf212_9, gf212_10, gf212_11, gf212_12, gf212_13, pf212_14, gf212_14, gf212_15, gf212_16, gf212_17, pf212_18, gf212_18, gf212_19, gf212_20, gf212_21, gf212_22, gf212_23, ic212, ar213, al213, ii213, ar214, al214, ii214, ar215, al215, ii215, ar216, al216, ii216, ar217, al217, ii217, ar218, al218, ii218, ar219, al219, ar220, al220, ar221, al221, ar222, al222, ii222, ar223, al223, ii223, ar224, al224, ii224, ar225, al225, ar226, al226, ii226, ar227, al227, ii227, ar228, al228, ii228, ar229, al229, ar230, al230, ii230, cond_true, cond_false, true_and, and_true, Int.cast_ofNat_Int, Nat.reduceLT, Nat.reduceLeDiff, Nat.reduceBEq, Int.reduceLT, Int.reduceLE, Int.reduceEq, Int.reduceAdd, Nat.reduceEqDiff, not_true_eq_false, not_false_eq_true, false_implies, forall_const, eq_self, Nat.reduceAdd, Option.toList_some, Option.toList_none, List.cons_append, List.nil_append, List.length_cons, List.length_nil, Bool.false_eq_true, reduceCtorEq, true_or, or_true, false_or, or_false, Int.reduceNeg, implies_true, true_implies, xl1, xl2, xl3, xf1, xf2, xf3, p70_0, p70_23, p70_25, p70_57, p70_60, sq70_0, sq70_23, sq70_25, sq70_57, sq70_60, sq70_36, e1]
      refine ⟨hr.1, ?_⟩
      repeat (refine And.intro (by (try unfold InR); omega) ?_)
      refine K0.useI (m_turned (r % 4) _ (by omega)) (by decide) (Nat.le_of_ble_eq_true rfl) (fun hi => ?_)
      refine S0.run 70 md70 pp70 1 rfl rfl rfl 40 54 ?_
      simp only [ev_s, ev_hd, ev_sf, ev_hd0, ev_sf0, ev_0, ev_1, ev_34, ev_li, ev_lr, ev_lx, ev_2, ev_35, ev_3, ev_4, ev_b0, ev_b1, ev_b2, ev_b3, ev_b4, ev_b5, ev_b6, ev_b7, ev_b8, ev_b9, ev_b10, ev_5, ev_6, ev_c0, ev_c1, ev_c2, ev_c3, ev_c4, ev_c5, ev_7, ev_8, ev_9, ev_33, ev_11, ev_12, ev_12x, ev_13, ev_14, ev_15, ev_16, ev_18, ev_18x, ev_22, ev_23, ev_24, ev_32, ev_25, ev_26, ev_27, ev_28, ev_31, ev_w1, ev_w2, ev_p1, ev_p2, ev_p3, ev_p4, ev_p5, ev_p6, ev_p0, ev_n0, ev_n1, ev_n2, ev_n3, ev_n4, ev_n5, ev_n6, ev_n7, ev_m0, ev_m1, ev_m2, ev_m3, ev_m4, ev_m5, ev_m6, ev_m7, ev_r0, ev_r1, ev_r2, ev16, ev30, gf212_0, gf212_1, pf212_2, gf212_2, gf212_3, gf212_4, gf212_5, pf212_6, gf212_6, pf212_7, gf212_7, gf212_8, pf212_9, gf212_9, gf212_10, gf212_11, gf212_12, gf212_13, pf212_14, gf212_14, gf212_15, gf212_16, gf212_17, pf212_18, gf212_18, gf212_19, gf212_20, gf212_21, gf212_22, gf212_23, ic212, ar213, al213, ii213, ar214, al214, ii214, ar215, al215, ii215, ar216, al216, ii216, ar217, al217, ii217, ar218, al218, ii218, ar219, al219, ar220, al220, ar221, al221, ar222, al222, ii222, ar223, al223, ii223, ar224, al224, ii224, ar225, al225, ar226, al226, ii226, ar227, al227, ii227, ar228, al228, ii228, ar229, al229, ar230, al230, ii230, cond_true, cond_false, true_and, and_true, Int.cast_ofNat_Int, Nat.reduceLT, Nat.reduceLeDiff, Nat.reduceBEq, Int.reduceLT, Int.reduceLE, Int.reduceEq, Int.reduceAdd, Nat.reduceEqDiff, not_true_eq_false, not_false_eq_true, false_implies, forall_const, eq_self, Nat.reduceAdd, Option.toList_some, Option.toList_none, List.cons_append, List.nil_append, List.length_cons, List.length_nil, Bool.false_eq_true, reduceCtorEq, true_or, or_true, false_or, or_false, Int.reduceNeg, implies_true, true_implies, xl1, xl2, xl3, xf1, xf2, xf3, p70_0, p70_23, p70_25, p70_57, p70_60, sq70_0, sq70_23, sq70_25, sq70_57, sq70_60, sq70_54]
      rw [← ew]
      repeat (refine And.intro (by (try unfold InR); omega) ?_)
      exact rI_mk en.symm
    · have ew : wout M (nxf M (r / 4) (r % 4)) (r % 4) = r % 4 := by unfold wout; rw [if_neg q3]
      refine S0.run 70 md70 pp70 1 rfl rfl rfl 40 36 ?_
      simp only [ev_s, ev_hd, ev_sf, ev_hd0, ev_sf0, ev_0, ev_1, ev_34, ev_li, ev_lr, ev_lx, ev_2, ev_35, ev_3, ev_4, ev_b0, ev_b1, ev_b2, ev_b3, ev_b4, ev_b5, ev_b6, ev_b7, ev_b8, ev_b9, ev_b10, ev_5, ev_6, ev_c0, ev_c1, ev_c2, ev_c3, ev_c4, ev_c5, ev_7, ev_8, ev_9, ev_33, ev_11, ev_12, ev_12x, ev_13, ev_14, ev_15, ev_16, ev_18, ev_18x, ev_22, ev_23, ev_24, ev_32, ev_25, ev_26, ev_27, ev_28, ev_31, ev_w1, ev_w2, ev_p1, ev_p2, ev_p3, ev_p4, ev_p5, ev_p6, ev_p0, ev_n0, ev_n1, ev_n2, ev_n3, ev_n4, ev_n5, ev_n6, ev_n7, ev_m0, ev_m1, ev_m2, ev_m3, ev_m4, ev_m5, ev_m6, ev_m7, ev_r0, ev_r1, ev_r2, ev16, ev30, gf212_0, gf212_1, pf212_2, gf212_2, gf212_3, gf212_4, gf212_5, pf212_6, gf212_6, pf212_7, gf212_7, gf212_8, pf212_9, gf212_9, gf212_10, gf212_11, gf212_12, gf212_13, pf212_14, gf212_14, gf212_15, gf212_16, gf212_17, pf212_18, gf212_18, gf212_19, gf212_20, gf212_21, gf212_22, gf212_23, ic212, ar213, al213, ii213, ar214, al214, ii214, ar215, al215, ii215, ar216, al216, ii216, ar217, al217, ii217, ar218, al218, ii218, ar219, al219, ar220, al220, ar221, al221, ar222, al222, ii222, ar223, al223, ii223, ar224, al224, ii224, ar225, al225, ar226, al226, ii226, ar227, al227, ii227, ar228, al228, ii228, ar229, al229, ar230, al230, ii230, cond_true, cond_false, true_and, and_true, Int.cast_ofNat_Int, Nat.reduceLT, Nat.reduceLeDiff, Nat.reduceBEq, Int.reduceLT, Int.reduceLE, Int.reduceEq, Int.reduceAdd, Nat.reduceEqDiff, not_true_eq_false, not_false_eq_true, false_implies, forall_const, eq_self, Nat.reduceAdd, Option.toList_some, Option.toList_none, List.cons_append, List.nil_append, List.length_cons, List.length_nil, Bool.false_eq_true, reduceCtorEq, true_or, or_true, false_or, or_false, Int.reduceNeg, implies_true, true_implies, xl1, xl2, xl3, xf1, xf2, xf3, p70_0, p70_23, p70_25, p70_57, p70_60, sq70_0, sq70_23, sq70_25, sq70_57, sq70_60, sq70_36]
      refine ⟨hr.1, ?_⟩
      repeat (refine And.intro (by (try unfold InR); omega) ?_)
      refine rI_mk ?_
      rw [en, ew]
def PaM (σ σ' : Sg) (M : Int → Int) (r : Int) : Prop := σ' 212 7 = plen M r ∧ σ' 212 9 = pcl M r ∧ (∀ i : Nat, (i : Int) < plen M r → σ' 218 i = it M r i) ∧ (∀ k, k ≠ 212 → k ≠ 218 → σ' k = σ k) ∧ ∀ j, j ≠ 7 → j ≠ 9 → σ' 212 j = σ 212 j
theorem m_tellPath (hR : MzR σ M) (hM : wfM M) (r : Int) (hr : isP r) : C0 X 4 71 [vr 212, vi r] σ (fun r' σ' => r' = none ∧ PaM σ σ' M r) := by
  refine C0.intro md71 (by decide) rfl (by decide) (Nat.le_of_ble_eq_true rfl) ?_
  intro hin hav
  show S0 X _ 71 _ 0 [vr 212, vi r, vx 9] [] _
  obtain ⟨l1, l2, l3⟩ := plen_ok hM hr
  have loop : ∀ (n i : Nat) (σ1 : Sg), ((i + n + 1 : Nat) : Int) = plen M r → σ1 212 7 = i → (∀ j : Nat, j < i → σ1 218 j = it M r j) → (∀ k, k ≠ 212 → k ≠ 218 → σ1 k = σ k) → (∀ j, j ≠ 7 → j ≠ 9 → σ1 212 j = σ 212 j) → S0 X 4 71 (fun r' σ' => r' = none ∧ PaM σ σ' M r) 7 [vr 212, vi r, vi (it M r i)] [] σ1 := by
    intro n
    induction n with
    | zero =>
      intro i σ1 h1 h2 h4 h5 h6
      have hi1 := l3 i (by omega)
      have ei : (plen M r).toNat = i + 1 := by omega
      rw [ei] at l2
      refine S0.run 71 md71 pp71 0 rfl rfl rfl 60 7 ?_
      simp only [ev_s, ev_hd, ev_sf, ev_hd0, ev_sf0, ev_0, ev_1, ev_34, ev_li, ev_lr, ev_lx, ev_2, ev_35, ev_3, ev_4, ev_b0, ev_b1, ev_b2, ev_b3, ev_b4, ev_b5, ev_b6, ev_b7, ev_b8, ev_b9, ev_b10, ev_5, ev_6, ev_c0, ev_c1, ev_c2, ev_c3, ev_c4, ev_c5, ev_7, ev_8, ev_9, ev_33, ev_11, ev_12, ev_12x, ev_13, ev_14, ev_15, ev_16, ev_18, ev_18x, ev_22, ev_23, ev_24, ev_32, ev_25, ev_26, ev_27, ev_28, ev_31, ev_w1, ev_w2, ev_p1, ev_p2, ev_p3, ev_p4, ev_p5, ev_p6, ev_p0, ev_n0, ev_n1, ev_n2, ev_n3, ev_n4, ev_n5, ev_n6, ev_n7, ev_m0, ev_m1, ev_m2, ev_m3, ev_m4, ev_m5, ev_m6, ev_m7, ev_r0, ev_r1, ev_r2, ev16, ev30, gf212_0, gf212_1, pf212_2, gf212_2, gf212_3, gf212_4, gf212_5, pf212_6, gf212_6, pf212_7, gf212_7, gf212_8, pf212_9, gf212_9, gf212_10, gf212_11, gf212_12, gf212_13, pf212_14, gf212_14, gf212_15, gf212_16, gf212_17, pf212_18, gf212_18, gf212_19, gf212_20, gf212_21, gf212_22, gf212_23, ic212, ar213, al213, ii213, ar214, al214, ii214, ar215, al215, ii215, ar216, al216, ii216, ar217, al217, ii217, ar218, al218, ii218, ar219, al219, ar220, al220, ar221, al221, ar222, al222, ii222, ar223, al223, ii223, ar224, al224, ii224, ar225, al225, ar226, al226, ii226, ar227, al227, ii227, ar228, al228, ii228, ar229, al229, ar230, al230, ii230, cond_true, cond_false, true_and, and_true, Int.cast_ofNat_Int, Nat.reduceLT, Nat.reduceLeDiff, Nat.reduceBEq, Int.reduceLT, Int.reduceLE, Int.reduceEq, Int.reduceAdd, Nat.reduceEqDiff, not_true_eq_false, not_false_eq_true, false_implies, forall_const, eq_self, Nat.reduceAdd, Option.toList_some, Option.toList_none, List.cons_append, List.nil_append, List.length_cons, List.length_nil, Bool.false_eq_true, reduceCtorEq, true_or, or_true, false_or, or_false, Int.reduceNeg, implies_true, true_implies, xl1, xl2, xl3, xf1, xf2, xf3, p71_0, p71_7, p71_42, p71_52, p71_53, sq71_0, sq71_7, sq71_42, sq71_52, sq71_53, h2]
      trace_state
      sorry
    | succ n ih =>
      intro i σ1 h1 h2 h4 h5 h6
      have hi1 := l3 i (by omega)
      have hi2 := l3 (i + 1) (by omega)
      refine S0.run 71 md71 pp71 0 rfl rfl rfl 60 7 ?_
      simp only [ev_s, ev_hd, ev_sf, ev_hd0, ev_sf0, ev_0, ev_1, ev_34, ev_li, ev_lr, ev_lx, ev_2, ev_35, ev_3, ev_4, ev_b0, ev_b1, ev_b2, ev_b3, ev_b4, ev_b5, ev_b6, ev_b7, ev_b8, ev_b9, ev_b10, ev_5, ev_6, ev_c0, ev_c1, ev_c2, ev_c3, ev_c4, ev_c5, ev_7, ev_8, ev_9, ev_33, ev_11, ev_12, ev_12x, ev_13, ev_14, ev_15, ev_16, ev_18, ev_18x, ev_22, ev_23, ev_24, ev_32, ev_25, ev_26, ev_27, ev_28, ev_31, ev_w1, ev_w2, ev_p1, ev_p2, ev_p3, ev_p4, ev_p5, ev_p6, ev_p0, ev_n0, ev_n1, ev_n2, ev_n3, ev_n4, ev_n5, ev_n6, ev_n7, ev_m0, ev_m1, ev_m2, ev_m3, ev_m4, ev_m5, ev_m6, ev_m7, ev_r0, ev_r1, ev_r2, ev16, ev30, gf212_0, gf212_1, pf212_2, gf212_2, gf212_3, gf212_4, gf212_5, pf212_6, gf212_6, pf212_7, gf212_7, gf212_8, pf212_9, gf212_9, gf212_10, gf212_11, gf212_12, gf212_13, pf212_14, gf212_14, gf212_15, gf212_16, gf212_17, pf212_18, gf212_18, gf212_19, gf212_20, gf212_21, gf212_22, gf212_23, ic212, ar213, al213, ii213, ar214, al214, ii214, ar215, al215, ii215, ar216, al216, ii216, ar217, al217, ii217, ar218, al218, ii218, ar219, al219, ar220, al220, ar221, al221, ar222, al222, ii222, ar223, al223, ii223, ar224, al224, ii224, ar225, al225, ar226, al226, ii226, ar227, al227, ii227, ar228, al228, ii228, ar229, al229, ar230, al230, ii230, cond_true, cond_false, true_and, and_true, Int.cast_ofNat_Int, Nat.reduceLT, Nat.reduceLeDiff, Nat.reduceBEq, Int.reduceLT, Int.reduceLE, Int.reduceEq, Int.reduceAdd, Nat.reduceEqDiff, not_true_eq_false, not_false_eq_true, false_implies, forall_const, eq_self, Nat.reduceAdd, Option.toList_some, Option.toList_none, List.cons_append, List.nil_append, List.length_cons, List.length_nil, Bool.false_eq_true, reduceCtorEq, true_or, or_true, false_or, or_false, Int.reduceNeg, implies_true, true_implies, xl1, xl2, xl3, xf1, xf2, xf3, p71_0, p71_7, p71_42, p71_52, p71_53, sq71_0, sq71_7, sq71_42, sq71_52, sq71_53, h2]
      sorry
  refine S0.run 71 md71 pp71 0 rfl rfl rfl 40 0 ?_
  simp only [ev_s, ev_hd, ev_sf, ev_hd0, ev_sf0, ev_0, ev_1, ev_34, ev_li, ev_lr, ev_lx, ev_2, ev_35, ev_3, ev_4, ev_b0, ev_b1, ev_b2, ev_b3, ev_b4, ev_b5, ev_b6, ev_b7, ev_b8, ev_b9, ev_b10, ev_5, ev_6, ev_c0, ev_c1, ev_c2, ev_c3, ev_c4, ev_c5, ev_7, ev_8, ev_9, ev_33, ev_11, ev_12, ev_12x, ev_13, ev_14, ev_15, ev_16, ev_18, ev_18x, ev_22, ev_23, ev_24, ev_32, ev_25, ev_26, ev_27, ev_28, ev_31, ev_w1, ev_w2, ev_p1, ev_p2, ev_p3, ev_p4, ev_p5, ev_p6, ev_p0, ev_n0, ev_n1, ev_n2, ev_n3, ev_n4, ev_n5, ev_n6, ev_n7, ev_m0, ev_m1, ev_m2, ev_m3, ev_m4, ev_m5, ev_m6, ev_m7, ev_r0, ev_r1, ev_r2, ev16, ev30, gf212_0, gf212_1, pf212_2, gf212_2, gf212_3, gf212_4, gf212_5, pf212_6, gf212_6, pf212_7, gf212_7, gf212_8, pf212_9, gf212_9, gf212_10, gf212_11, gf212_12, gf212_13, pf212_14, gf212_14, gf212_15, gf212_16, gf212_17, pf212_18, gf212_18, gf212_19, gf212_20, gf212_21, gf212_22, gf212_23, ic212, ar213, al213, ii213, ar214, al214, ii214, ar215, al215, ii215, ar216, al216, ii216, ar217, al217, ii217, ar218, al218, ii218, ar219, al219, ar220, al220, ar221, al221, ar222, al222, ii222, ar223, al223, ii223, ar224, al224, ii224, ar225, al225, ar226, al226, ii226, ar227, al227, ii227, ar228, al228, ii228, ar229, al229, ar230, al230, ii230, cond_true, cond_false, true_and, and_true, Int.cast_ofNat_Int, Nat.reduceLT, Nat.reduceLeDiff, Nat.reduceBEq, Int.reduceLT, Int.reduceLE, Int.reduceEq, Int.reduceAdd, Nat.reduceEqDiff, not_true_eq_false, not_false_eq_true, false_implies, forall_const, eq_self, Nat.reduceAdd, Option.toList_some, Option.toList_none, List.cons_append, List.nil_append, List.length_cons, List.length_nil, Bool.false_eq_true, reduceCtorEq, true_or, or_true, false_or, or_false, Int.reduceNeg, implies_true, true_implies, xl1, xl2, xl3, xf1, xf2, xf3, p71_0, p71_7, p71_42, p71_52, p71_53, sq71_0, sq71_7, sq71_42, sq71_52, sq71_53]
  refine loop ((plen M r).toNat - 1) 0 _ (by omega) (by rw [st_hit]; rfl) (fun j hj => by omega) (fun k a b => st_off _ _ _ a) (fun j a b => st_mis a)
end RAYS
