-- RAYS: where one goes, and how long its path is
def it (M : Int → Int) (r : Int) : Nat → Int
  | 0 => r
  | n + 1 => nxr M (it M r n)
abbrev isP (r : Int) : Prop := 0 ≤ r ∧ r < 324
theorem dxy (w : Int) : (-1 ≤ dx w ∧ dx w ≤ 1) ∧ (-1 ≤ dy w ∧ dy w ≤ 1) := by
  unfold dx dy
  repeat' split
  all_goals omega
theorem nxf_F {M : Int → Int} (hM : wfM M) {f w : Int} (h0 : 0 ≤ f) (h1 : f < 81) : nxf M f w = -1 ∨ (isF M (nxf M f w) ∧ nxf M f w / 9 = f / 9 + dy w ∧ nxf M f w % 9 = f % 9 + dx w) := by
  obtain ⟨a, b, -⟩ := hM
  unfold nxf
  generalize dx w = d
  generalize dy w = e
  split
  · right; omega
  · left; rfl
theorem wout_W {M : Int → Int} {f w : Int} (hw : isW w) : isW (wout M f w) := by
  unfold wout trn
  repeat' split
  all_goals omega
theorem wout_inj {M : Int → Int} {f w v : Int} (hw : isW w) (hv : isW v) (h : wout M f w = wout M f v) : w = v := by
  unfold wout trn at h
  by_cases hm : isMir (M (4 + f))
  · rw [if_pos hm, if_pos hm] at h
    by_cases hl : M (85 + f) = 0
    · rw [if_pos hl, if_pos hl] at h; omega
    · rw [if_neg hl, if_neg hl] at h
      by_cases a : w < 2 <;> by_cases b : v < 2
      · rw [if_pos a, if_pos b] at h; omega
      · rw [if_pos a, if_neg b] at h; omega
      · rw [if_neg a, if_pos b] at h; omega
      · rw [if_neg a, if_neg b] at h; omega
  · rw [if_neg hm, if_neg hm] at h; exact h
theorem nxr_R {M : Int → Int} (hM : wfM M) {r : Int} (hr : isP r) : nxr M r = -1 ∨ (isP (nxr M r) ∧ nxr M r / 4 = nxf M (r / 4) (r % 4) ∧ nxr M r % 4 = wout M (nxr M r / 4) (r % 4) ∧ isF M (nxr M r / 4) ∧ nxf M (r / 4) (r % 4) / 9 = r / 4 / 9 + dy (r % 4) ∧ nxf M (r / 4) (r % 4) % 9 = r / 4 % 9 + dx (r % 4) ∧ ¬ stopsP M (nxr M r / 4)) := by
  have h := nxf_F hM (f := r / 4) (w := r % 4) (by omega) (by omega)
  have hw := wout_W (M := M) (f := nxf M (r / 4) (r % 4)) (w := r % 4) (by omega)
  by_cases q : nxf M (r / 4) (r % 4) < 0 ∨ stopsP M (nxf M (r / 4) (r % 4))
  · left; unfold nxr; rw [if_pos q]
  · have e : nxr M r = 4 * nxf M (r / 4) (r % 4) + wout M (nxf M (r / 4) (r % 4)) (r % 4) := by unfold nxr; rw [if_neg q]
    have e2 : nxr M r / 4 = nxf M (r / 4) (r % 4) := by omega
    right
    rw [e2]
    refine ⟨by omega, rfl, by omega, by omega, by omega, by omega, fun c => q (Or.inr c)⟩
theorem nxr_inj {M : Int → Int} (hM : wfM M) {a b : Int} (ha : isP a) (hb : isP b) (h : nxr M a = nxr M b) (h0 : 0 ≤ nxr M a) : a = b := by
  rcases nxr_R hM ha with q | ⟨q1, q2, q3, q4, q5, q6, -⟩
  · omega
  rcases nxr_R hM hb with p | ⟨p1, p2, p3, p4, p5, p6, -⟩
  · omega
  rw [h] at q3 q2
  have hw : a % 4 = b % 4 := wout_inj (by omega) (by omega) (q3.symm.trans p3)
  rw [hw] at q5 q6 q2
  omega
theorem php : ∀ (n : Nat) (g : Nat → Int), (∀ i, i ≤ n → 0 ≤ g i ∧ g i < n) → ∃ i j, i < j ∧ j ≤ n ∧ g i = g j
  | 0, g, h => by have := h 0 (Nat.le_refl 0); omega
  | n + 1, g, h => by
    by_cases q : ∃ i, i ≤ n ∧ g i = g (n + 1)
    · obtain ⟨i, a, b⟩ := q
      exact ⟨i, n + 1, by omega, by omega, b⟩
    · have hn := h (n + 1) (Nat.le_refl _)
      obtain ⟨i, j, a, b, c⟩ := php n (fun i => if g (n + 1) < g i then g i - 1 else g i) (fun i hi => by
        have h1 := h i (by omega)
        have h2 : g i ≠ g (n + 1) := fun e => q ⟨i, hi, e⟩
        show 0 ≤ (if g (n + 1) < g i then g i - 1 else g i) ∧ (if g (n + 1) < g i then g i - 1 else g i) < (n : Int)
        split <;> omega)
      refine ⟨i, j, a, by omega, ?_⟩
      have h2 : g i ≠ g (n + 1) := fun e => q ⟨i, by omega, e⟩
      have h3 : g j ≠ g (n + 1) := fun e => q ⟨j, by omega, e⟩
      have c : (if g (n + 1) < g i then g i - 1 else g i) = (if g (n + 1) < g j then g j - 1 else g j) := c
      split at c <;> split at c <;> omega
theorem it_P {M : Int → Int} (hM : wfM M) {r : Int} (hr : isP r) : ∀ n : Nat, (∀ i, i ≤ n → 0 ≤ it M r i) → isP (it M r n)
  | 0, _ => hr
  | n + 1, h => by
    have h1 := it_P hM hr n (fun i hi => h i (by omega))
    have h2 := h (n + 1) (Nat.le_refl _)
    show isP (nxr M (it M r n))
    have h2 : 0 ≤ nxr M (it M r n) := h2
    rcases nxr_R hM h1 with q | q
    · omega
    · exact q.1
theorem it_back {M : Int → Int} (hM : wfM M) {r : Int} (hr : isP r) : ∀ i d : Nat, (∀ l, l ≤ i + d → 0 ≤ it M r l) → it M r i = it M r (i + d) → it M r d = r
  | 0, d, _, h => by rw [Nat.zero_add] at h; exact h.symm
  | i + 1, d, hl, h => by
    have e : i + 1 + d = (i + d) + 1 := by omega
    rw [e] at h
    refine it_back hM hr i d (fun l q => hl l (by omega)) (nxr_inj hM (it_P hM hr i (fun l q => hl l (by omega))) (it_P hM hr (i + d) (fun l q => hl l (by omega))) h ?_)
    exact hl (i + 1) (by omega)
theorem ray_ends {M : Int → Int} (hM : wfM M) {r : Int} (hr : isP r) : ∃ N : Nat, 1 ≤ N ∧ N ≤ 324 ∧ (it M r N < 0 ∨ it M r N = r) := by
  by_cases q : ∀ i, i ≤ 324 → 0 ≤ it M r i
  · obtain ⟨i, j, a, b, c⟩ := php 324 (it M r) (fun i hi => it_P hM hr i (fun l q2 => q l (by omega)))
    refine ⟨j - i, by omega, by omega, Or.inr (it_back hM hr i (j - i) (fun l q2 => q l (by omega)) ?_)⟩
    rw [show i + (j - i) = j from by omega]
    exact c
  · obtain ⟨i, h⟩ := Classical.not_forall.mp q
    obtain ⟨h1, h2⟩ := Classical.not_imp.mp h
    refine ⟨i, ?_, h1, Or.inl (by omega)⟩
    cases i with
    | zero => exact absurd hr.1 h2
    | succ i => omega
theorem ff_sp (p : Int → Prop) [DecidablePred p] : ∀ (n : Nat) (i : Int), (∃ j, i ≤ j ∧ j < i + n ∧ p j) → (i ≤ ff p i n ∧ ff p i n < i + n) ∧ p (ff p i n) ∧ ∀ j, i ≤ j → j < ff p i n → ¬ p j
  | 0, i, ⟨j, a, b, _⟩ => by omega
  | n + 1, i, ⟨j, a, b, c⟩ => by
    by_cases q : p i
    · have e : ff p i (n + 1) = i := by show (if p i then i else ff p (i + 1) n) = i; rw [if_pos q]
      rw [e]
      exact ⟨by omega, q, fun j a b => by omega⟩
    · have e : ff p i (n + 1) = ff p (i + 1) n := by show (if p i then i else ff p (i + 1) n) = _; rw [if_neg q]
      have hj : j ≠ i := fun h => q (h ▸ c)
      obtain ⟨h1, h2, h3⟩ := ff_sp p n (i + 1) ⟨j, by omega, by omega, c⟩
      rw [e]
      refine ⟨by omega, h2, fun l a b => ?_⟩
      by_cases hl : l = i
      · subst hl; exact q
      · exact h3 l (by omega) b
/-- how many places a path has -/
def plen (M : Int → Int) (r : Int) : Int := ff (fun n => it M r n.toNat < 0 ∨ it M r n.toNat = r) 1 324
def pcl (M : Int → Int) (r : Int) : Int := if it M r (plen M r).toNat = r then 1 else 0
theorem plen_ok {M : Int → Int} (hM : wfM M) {r : Int} (hr : isP r) : (1 ≤ plen M r ∧ plen M r ≤ 324) ∧ (it M r (plen M r).toNat < 0 ∨ it M r (plen M r).toNat = r) ∧ ∀ i : Nat, (i : Int) < plen M r → isP (it M r i) ∧ (1 ≤ i → it M r i ≠ r) := by
  obtain ⟨N, a, b, c⟩ := ray_ends hM hr
  obtain ⟨h1, h2, h3⟩ := ff_sp (fun n : Int => it M r n.toNat < 0 ∨ it M r n.toNat = r) 324 1 ⟨(N : Int), by omega, by omega, c⟩
  refine ⟨⟨h1.1, by unfold plen; omega⟩, h2, fun i hi => ?_⟩
  have key : ∀ l : Nat, 1 ≤ l → l ≤ i → ¬ (it M r l < 0 ∨ it M r l = r) := fun l u v => h3 (l : Int) (by omega) (by unfold plen at hi; omega)
  refine ⟨it_P hM hr i (fun l q => ?_), fun q e => key i q (Nat.le_refl i) (Or.inr e)⟩
  cases l with
  | zero => exact hr.1
  | succ l => have := key (l + 1) (by omega) q; omega
section RAYS
variable {X : Cx} {σ : Sg} {A : AT} {B : Int} {M : Int → Int} {k m : Nat}
theorem c_placeBehind (hk : Ismz m) (hC : MzC σ m M) (hM : wfM M) (r : Int) (hr : isP r) : C0 X 3 144 [vr m, vi r] σ (rI (nxr M r) σ) := by
  refine C0.intro md144 (by decide) rfl (by decide) (Nat.le_of_ble_eq_true rfl) ?_
  intro hin hav
  show S0 X _ 144 _ 0 [vr m, vi r, vx 9, vx 9] [] _
  have h := nxf_F hM (f := r / 4) (w := r % 4) (by omega) (by omega)
  refine S0.run 144 md144 pp144 1 rfl rfl rfl 40 0 ?_
  simp only [ev_s, ev_hd, ev_sf, ev_hd0, ev_sf0, ev_0, ev_1, ev_34, ev_li, ev_lr, ev_lx, ev_2, ev_35, ev_3, ev_4, ev_b0, ev_b1, ev_b2, ev_b3, ev_b4, ev_b5, ev_b6, ev_b7, ev_b8, ev_b9, ev_b10, ev_5, ev_6, ev_c0, ev_c1, ev_c2, ev_c3, ev_c4, ev_c5, ev_7, ev_8, ev_9, ev_33, ev_11, ev_12, ev_12x, ev_13, ev_14, ev_15, ev_16, ev_18, ev_18x, ev_22, ev_23, ev_24, ev_32, ev_25, ev_26, ev_27, ev_28, ev_31, ev_w1, ev_w2, ev_p1, ev_p2, ev_p3, ev_p4, ev_p5, ev_p6, ev_p0, ev_n0, ev_n1, ev_n2, ev_n3, ev_n4, ev_n5, ev_n6, ev_n7, ev_m0, ev_m1, ev_m2, ev_m3, ev_m4, ev_m5, ev_m6, ev_m7, ev_r0, ev_r1, ev_r2, ev16, ev30, cond_true, cond_false, true_and, and_true, Int.cast_ofNat_Int, Nat.reduceLT, Nat.reduceLeDiff, Nat.reduceBEq, Int.reduceLT, Int.reduceLE, Int.reduceEq, Int.reduceAdd, Nat.reduceEqDiff, not_true_eq_false, not_false_eq_true, false_implies, forall_const, eq_self, Nat.reduceAdd, Option.toList_some, Option.toList_none, List.cons_append, List.nil_append, List.length_cons, List.length_nil, Bool.false_eq_true, reduceCtorEq, true_or, or_true, false_or, or_false, Int.reduceNeg, implies_true, true_implies, xl1, xl2, xl3, xf1, xf2, xf3, p144_0, p144_25, p144_27, sq144_0, sq144_25, sq144_27]
  trace_state
  sorry
end RAYS
