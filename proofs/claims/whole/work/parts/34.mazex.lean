-- THE CLASS'S MAZE: become, resize, turnTables, tell, listTables
theorem cpy_row (σ : Sg) (ks : Nat) (sp : Int) (kd : Nat) (dp n : Int) : ∀ k, k ≠ kd → cpy σ ks sp kd dp n k = σ k := by
  intro k h
  funext j
  unfold cpy
  rw [if_neg (fun q => h q.1)]
theorem cpy_at (σ : Sg) (ks : Nat) (kd : Nat) (n j : Int) (h0 : 0 ≤ j) (h1 : j < n) : cpy σ ks 0 kd 0 n kd j = σ ks j := by
  unfold cpy
  rw [if_pos ⟨rfl, h0, by omega⟩]
  congr 1
  omega
theorem fr_cpy {lo hi : Nat} {σ0 σ : Sg} {ks kd : Nat} {sp dp n : Int} (h : Fr lo hi σ0 σ) (h1 : lo ≤ kd) (h2 : kd ≤ hi) : Fr lo hi σ0 (cpy σ ks sp kd dp n) := fun k hk => by rw [cpy_row _ _ _ _ _ _ _ (by omega)]; exact h k hk
section MZX
variable {X : Cx} {σ : Sg} {k : Nat} {M : Int → Int}
theorem c_become (j : Nat) (hk : Ismz k) (hj : Ismz j) (hM : MzC σ j M) (hd : k + 6 < j ∨ j + 6 < k) : C0 X 1 120 [vr k, vr j] σ (fun r σ' => r = none ∧ MzC σ' k M ∧ Fr k (k + 6) σ σ') := by
  refine C0.intro md120 (by decide) rfl (by decide) (Nat.le_of_ble_eq_true rfl) ?_
  intro hin hav
  show S0 X _ 120 _ 0 [vr k, vr j] [] _
  refine S0.run 120 md120 pp120 0 rfl rfl rfl 90 0 ?_
  simp only [ev_s, ev_hd, ev_sf, ev_hd0, ev_sf0, ev_0, ev_1, ev_34, ev_li, ev_lr, ev_lx, ev_2, ev_35, ev_3, ev_4, ev_b0, ev_b1, ev_b2, ev_b3, ev_b4, ev_b5, ev_b6, ev_b7, ev_b8, ev_b9, ev_b10, ev_5, ev_6, ev_c0, ev_c1, ev_c2, ev_c3, ev_c4, ev_c5, ev_7, ev_8, ev_9, ev_33, ev_11, ev_12, ev_12x, ev_13, ev_14, ev_15, ev_16, ev_18, ev_18x, ev_22, ev_23, ev_24, ev_32, ev_25, ev_26, ev_27, ev_28, ev_31, ev_w1, ev_w2, ev_p1, ev_p2, ev_p3, ev_p4, ev_p5, ev_p6, ev_p0, ev_n0, ev_n1, ev_n2, ev_n3, ev_n4, ev_n5, ev_n6, ev_n7, ev_m0, ev_m1, ev_m2, ev_m3, ev_m4, ev_m5, ev_m6, ev_m7, ev_r0, ev_r1, ev_r2, ev16, ev30, cond_true, cond_false, true_and, and_true, Int.cast_ofNat_Int, Nat.reduceLT, Nat.reduceLeDiff, Nat.reduceBEq, Int.reduceLT, Int.reduceLE, Int.reduceEq, Int.reduceAdd, Nat.reduceEqDiff, not_true_eq_false, not_false_eq_true, false_implies, forall_const, eq_self, Nat.reduceAdd, Option.toList_some, Option.toList_none, List.cons_append, List.nil_append, List.length_cons, List.length_nil, Bool.false_eq_true, reduceCtorEq, true_or, or_true, false_or, or_false, Int.reduceNeg, implies_true, true_implies, xl1, xl2, xl3, xf1, xf2, xf3, p120_0, sq120_0, pfmz_0 hk, gfmz_0 hk, pfmz_1 hk, gfmz_1 hk, gfmz_2 hk, gfmz_3 hk, gfmz_4 hk, pfmz_5 hk, gfmz_5 hk, gfmz_6 hk, gfmz_7 hk, gfmz_8 hk, icmz hk, armz1 hk, almz1 hk, armz2 hk, almz2 hk, armz3 hk, almz3 hk, armz4 hk, almz4 hk, armz5 hk, almz5 hk, armz6 hk, almz6 hk, iimz1 hk, iimz2 hk, iimz3 hk, iimz4 hk, iimz5 hk, iimz6 hk, pfmz_0 hj, gfmz_0 hj, pfmz_1 hj, gfmz_1 hj, gfmz_2 hj, gfmz_3 hj, gfmz_4 hj, pfmz_5 hj, gfmz_5 hj, gfmz_6 hj, gfmz_7 hj, gfmz_8 hj, icmz hj, armz1 hj, almz1 hj, armz2 hj, almz2 hj, armz3 hj, almz3 hj, armz4 hj, almz4 hj, armz5 hj, almz5 hj, armz6 hj, almz6 hj, iimz1 hj, iimz2 hj, iimz3 hj, iimz4 hj, iimz5 hj, iimz6 hj]
  generalize h1 : st σ k 0 (σ j 0) = s1
  generalize h2 : st s1 k 1 (s1 j 1) = s2
  generalize h3 : cpy s2 (j + 1) 0 (k + 1) 0 81 = s3
  generalize h4 : cpy s3 (j + 2) 0 (k + 2) 0 81 = s4
  generalize h5 : cpy s4 (j + 3) 0 (k + 3) 0 81 = s5
  generalize h6 : st s5 k 5 (s5 j 5) = s6
  generalize h7 : cpy s6 (j + 4) 0 (k + 4) 0 6 = s7
  generalize h8 : cpy s7 (j + 5) 0 (k + 5) 0 6 = s8
  generalize h9 : cpy s8 (j + 6) 0 (k + 6) 0 6 = s9
  have f1 : Fr k (k + 6) σ s1 := by rw [← h1]; exact Fr.st (by omega) (by omega)
  have f2 : Fr k (k + 6) σ s2 := by rw [← h2]; exact fr_st2 f1 (by omega) (by omega)
  have f3 : Fr k (k + 6) σ s3 := by rw [← h3]; exact fr_cpy f2 (by omega) (by omega)
  have f4 : Fr k (k + 6) σ s4 := by rw [← h4]; exact fr_cpy f3 (by omega) (by omega)
  have f5 : Fr k (k + 6) σ s5 := by rw [← h5]; exact fr_cpy f4 (by omega) (by omega)
  have f6 : Fr k (k + 6) σ s6 := by rw [← h6]; exact fr_st2 f5 (by omega) (by omega)
  have f7 : Fr k (k + 6) σ s7 := by rw [← h7]; exact fr_cpy f6 (by omega) (by omega)
  have f8 : Fr k (k + 6) σ s8 := by rw [← h8]; exact fr_cpy f7 (by omega) (by omega)
  have f9 : Fr k (k + 6) σ s9 := by rw [← h9]; exact fr_cpy f8 (by omega) (by omega)
  refine ⟨?_, f9⟩
  obtain ⟨g1, g2, g3, g4, g5⟩ := hM
  have ek : s9 k = updI (updI (updI (σ k) 0 (σ j 0)) 1 (σ j 1)) 5 (σ j 5) := by
    rw [← h9, cpy_row _ _ _ _ _ _ _ (by omega), ← h8, cpy_row _ _ _ _ _ _ _ (by omega), ← h7, cpy_row _ _ _ _ _ _ _ (by omega), ← h6, st_row, f5 j (by omega), ← h5, cpy_row _ _ _ _ _ _ _ (by omega), ← h4, cpy_row _ _ _ _ _ _ _ (by omega), ← h3, cpy_row _ _ _ _ _ _ _ (by omega), ← h2, st_row, f1 j (by omega), ← h1, st_row]
  have r1 : ∀ f, 0 ≤ f → f < 81 → s9 (k + 1) f = σ (j + 1) f := fun f a b => by
    rw [← h9, cpy_row _ _ _ _ _ _ _ (by omega), ← h8, cpy_row _ _ _ _ _ _ _ (by omega), ← h7, cpy_row _ _ _ _ _ _ _ (by omega), ← h6, st_off _ _ _ (by omega), ← h5, cpy_row _ _ _ _ _ _ _ (by omega), ← h4, cpy_row _ _ _ _ _ _ _ (by omega), ← h3, cpy_at _ _ _ _ _ a b, f2 (j + 1) (by omega)]
  have r2 : ∀ f, 0 ≤ f → f < 81 → s9 (k + 2) f = σ (j + 2) f := fun f a b => by
    rw [← h9, cpy_row _ _ _ _ _ _ _ (by omega), ← h8, cpy_row _ _ _ _ _ _ _ (by omega), ← h7, cpy_row _ _ _ _ _ _ _ (by omega), ← h6, st_off _ _ _ (by omega), ← h5, cpy_row _ _ _ _ _ _ _ (by omega), ← h4, cpy_at _ _ _ _ _ a b, f3 (j + 2) (by omega)]
  have r3 : ∀ f, 0 ≤ f → f < 81 → s9 (k + 3) f = σ (j + 3) f := fun f a b => by
    rw [← h9, cpy_row _ _ _ _ _ _ _ (by omega), ← h8, cpy_row _ _ _ _ _ _ _ (by omega), ← h7, cpy_row _ _ _ _ _ _ _ (by omega), ← h6, st_off _ _ _ (by omega), ← h5, cpy_at _ _ _ _ _ a b, f4 (j + 3) (by omega)]
  have r4 : ∀ f, 0 ≤ f → f < 6 → s9 (k + 4) f = σ (j + 4) f := fun f a b => by
    rw [← h9, cpy_row _ _ _ _ _ _ _ (by omega), ← h8, cpy_row _ _ _ _ _ _ _ (by omega), ← h7, cpy_at _ _ _ _ _ a b, f6 (j + 4) (by omega)]
  have r5 : ∀ f, 0 ≤ f → f < 6 → s9 (k + 5) f = σ (j + 5) f := fun f a b => by
    rw [← h9, cpy_row _ _ _ _ _ _ _ (by omega), ← h8, cpy_at _ _ _ _ _ a b, f7 (j + 5) (by omega)]
  have r6 : ∀ f, 0 ≤ f → f < 6 → s9 (k + 6) f = σ (j + 6) f := fun f a b => by
    rw [← h9, cpy_at _ _ _ _ _ a b, f8 (j + 6) (by omega)]
  refine ⟨by rw [ek]; simp [updI, g1], by rw [ek]; simp [updI, g2], by rw [ek]; simp [updI, g3], fun f a b => ?_, fun l a b => ?_⟩
  · rw [r1 f a b, r2 f a b, r3 f a b]; exact g4 f a b
  · rw [r4 l a b, r5 l a b, r6 l a b]; exact g5 l a b
end MZX
/-- what lies beyond goes -/
def rz1 (M : Int → Int) : Int → Nat → Int → Int
  | _, 0 => M
  | f, n + 1 => rz1 (if isF M f then M else lay M f (-1) 0) (f + 1) n
def rz2 (M : Int → Int) : Int → Nat → Int → Int
  | _, 0 => M
  | l, n + 1 => rz2 (if isF M (M (247 + 3 * l)) then addL M (M (247 + 3 * l)) (M (248 + 3 * l)) (M (249 + 3 * l)) else M) (l + 1) n
def rsz (M : Int → Int) (w d : Int) : Int → Int := rz2 (set1 (rz1 (set1 (set1 M 0 w) 1 d) 0 81) 2 0) 0 (M 2).toNat
/-- the tables of a set lean over -/
def tts (M : Int → Int) (set : Int) : Int → Int → Nat → Int → Int
  | _, _, 0 => M
  | f, num, n + 1 => if M (4 + f) = 4 then tts (if set / 2 ^ num.toNat % 2 = 1 then flip M f else M) set (f + 1) (num + 1) n else tts M set (f + 1) num n
def turnM (M : Int → Int) (set : Int) : Int → Int := tts M set 0 0 81
theorem lay_off (M : Int → Int) (f kd o : Int) {j : Int} (h0 : 0 ≤ f) (h1 : f < 81) (h : j < 4 ∨ 247 ≤ j) : lay M f kd o j = M j := by
  unfold lay; rw [if_neg (by omega), if_neg (by omega), if_neg (by omega)]
theorem flip_off (M : Int → Int) (f : Int) {j : Int} (h : j ≠ 85 + f) : flip M f j = M j := by
  unfold flip; rw [if_neg h]
theorem mz_set0 {σ : Sg} {k : Nat} {M : Int → Int} (h : MzC σ k M) (v : Int) : MzC (st σ k 0 v) k (set1 M 0 v) := by
  unfold MzC at *
  rw [st_row, st_off _ _ _ (show k + 1 ≠ k by omega), st_off _ _ _ (show k + 2 ≠ k by omega), st_off _ _ _ (show k + 3 ≠ k by omega), st_off _ _ _ (show k + 4 ≠ k by omega), st_off _ _ _ (show k + 5 ≠ k by omega), st_off _ _ _ (show k + 6 ≠ k by omega)]
  obtain ⟨g1, g2, g3, g4, g5⟩ := h
  unfold updI set1
  refine ⟨by rw [if_pos rfl, if_pos rfl], by rw [if_neg (by omega), if_neg (by omega)]; exact g2, by rw [if_neg (by omega), if_neg (by omega)]; exact g3, fun f a b => ?_, fun l a b => ?_⟩
  · rw [if_neg (by omega), if_neg (by omega), if_neg (by omega)]; exact g4 f a b
  · rw [if_neg (by omega), if_neg (by omega), if_neg (by omega)]; exact g5 l a b
theorem mz_set1 {σ : Sg} {k : Nat} {M : Int → Int} (h : MzC σ k M) (v : Int) : MzC (st σ k 1 v) k (set1 M 1 v) := by
  unfold MzC at *
  rw [st_row, st_off _ _ _ (show k + 1 ≠ k by omega), st_off _ _ _ (show k + 2 ≠ k by omega), st_off _ _ _ (show k + 3 ≠ k by omega), st_off _ _ _ (show k + 4 ≠ k by omega), st_off _ _ _ (show k + 5 ≠ k by omega), st_off _ _ _ (show k + 6 ≠ k by omega)]
  obtain ⟨g1, g2, g3, g4, g5⟩ := h
  unfold updI set1
  refine ⟨by rw [if_neg (by omega), if_neg (by omega)]; exact g1, by rw [if_pos rfl, if_pos rfl], by rw [if_neg (by omega), if_neg (by omega)]; exact g3, fun f a b => ?_, fun l a b => ?_⟩
  · rw [if_neg (by omega), if_neg (by omega), if_neg (by omega)]; exact g4 f a b
  · rw [if_neg (by omega), if_neg (by omega), if_neg (by omega)]; exact g5 l a b
theorem mz_set2 {σ : Sg} {k : Nat} {M : Int → Int} (h : MzC σ k M) (v : Int) : MzC (st σ k 5 v) k (set1 M 2 v) := by
  unfold MzC at *
  rw [st_row, st_off _ _ _ (show k + 1 ≠ k by omega), st_off _ _ _ (show k + 2 ≠ k by omega), st_off _ _ _ (show k + 3 ≠ k by omega), st_off _ _ _ (show k + 4 ≠ k by omega), st_off _ _ _ (show k + 5 ≠ k by omega), st_off _ _ _ (show k + 6 ≠ k by omega)]
  obtain ⟨g1, g2, g3, g4, g5⟩ := h
  unfold updI set1
  refine ⟨by rw [if_neg (by omega), if_neg (by omega)]; exact g1, by rw [if_neg (by omega), if_neg (by omega)]; exact g2, by rw [if_pos rfl, if_pos rfl], fun f a b => ?_, fun l a b => ?_⟩
  · rw [if_neg (by omega), if_neg (by omega), if_neg (by omega)]; exact g4 f a b
  · rw [if_neg (by omega), if_neg (by omega), if_neg (by omega)]; exact g5 l a b
section MZY
variable {X : Cx} {σ : Sg} {k : Nat} {M : Int → Int}
theorem rz1_off (M : Int → Int) : ∀ (n : Nat) (f : Int) {j : Int}, 0 ≤ f → f + n ≤ 81 → (j < 4 ∨ 247 ≤ j) → rz1 M f n j = M j := by
  intro n
  induction n generalizing M with
  | zero => intro f j _ _ _; rfl
  | succ n ih =>
    intro f j h0 h1 h2
    unfold rz1
    rw [ih _ (f + 1) (by omega) (by omega) h2]
    split
    · rfl
    · exact lay_off M f _ _ h0 (by omega) h2
theorem c_resize (hk : Ismz k) (hM : MzC σ k M) (w d : Int) (hw : 1 ≤ w ∧ w ≤ 9) (hd : 1 ≤ d ∧ d ≤ 9) (hl : 0 ≤ M 2 ∧ M 2 ≤ 6) : C0 X 2 135 [vr k, vi w, vi d] σ (fun r σ' => r = none ∧ MzC σ' k (rsz M w d) ∧ Fr k (k + 6) σ σ') := by
  refine C0.intro md135 (by decide) rfl (by decide) (Nat.le_of_ble_eq_true rfl) ?_
  intro hin hav
  show S0 X _ 135 _ 0 [vr k, vi w, vi d, vx 9, vx 9] [] _
  have loop2 : ∀ (n : Nat) (l : Int) (σ1 : Sg) (M1 : Int → Int), 0 ≤ l → l + n = M 2 → 0 ≤ M1 2 → M1 2 ≤ l → MzC σ1 k M1 → Fr k (k + 6) σ σ1 → rz2 M1 l n = rsz M w d → S0 X 2 135 (fun r σ' => r = none ∧ MzC σ' k (rsz M w d) ∧ Fr k (k + 6) σ σ') 52 [vr k, vi w, vi d, vi (M 2), vi l] [] σ1 := by
    intro n
    induction n with
    | zero =>
      intro l σ1 M1 h0 h1 h2 h3 hM1 hF hr
      refine S0.run 135 md135 pp135 0 rfl rfl rfl 60 52 ?_
      simp only [ev_s, ev_hd, ev_sf, ev_hd0, ev_sf0, ev_0, ev_1, ev_34, ev_li, ev_lr, ev_lx, ev_2, ev_35, ev_3, ev_4, ev_b0, ev_b1, ev_b2, ev_b3, ev_b4, ev_b5, ev_b6, ev_b7, ev_b8, ev_b9, ev_b10, ev_5, ev_6, ev_c0, ev_c1, ev_c2, ev_c3, ev_c4, ev_c5, ev_7, ev_8, ev_9, ev_33, ev_11, ev_12, ev_12x, ev_13, ev_14, ev_15, ev_16, ev_18, ev_18x, ev_22, ev_23, ev_24, ev_32, ev_25, ev_26, ev_27, ev_28, ev_31, ev_w1, ev_w2, ev_p1, ev_p2, ev_p3, ev_p4, ev_p5, ev_p6, ev_p0, ev_n0, ev_n1, ev_n2, ev_n3, ev_n4, ev_n5, ev_n6, ev_n7, ev_m0, ev_m1, ev_m2, ev_m3, ev_m4, ev_m5, ev_m6, ev_m7, ev_r0, ev_r1, ev_r2, ev16, ev30, cond_true, cond_false, true_and, and_true, Int.cast_ofNat_Int, Nat.reduceLT, Nat.reduceLeDiff, Nat.reduceBEq, Int.reduceLT, Int.reduceLE, Int.reduceEq, Int.reduceAdd, Nat.reduceEqDiff, not_true_eq_false, not_false_eq_true, false_implies, forall_const, eq_self, Nat.reduceAdd, Option.toList_some, Option.toList_none, List.cons_append, List.nil_append, List.length_cons, List.length_nil, Bool.false_eq_true, reduceCtorEq, true_or, or_true, false_or, or_false, Int.reduceNeg, implies_true, true_implies, xl1, xl2, xl3, xf1, xf2, xf3, p135_0, p135_12, p135_33, p135_39, p135_52, p135_97, p135_103, sq135_0, sq135_12, sq135_33, sq135_39, sq135_52, sq135_97, sq135_103, pfmz_0 hk, gfmz_0 hk, pfmz_1 hk, gfmz_1 hk, gfmz_2 hk, gfmz_3 hk, gfmz_4 hk, pfmz_5 hk, gfmz_5 hk, gfmz_6 hk, gfmz_7 hk, gfmz_8 hk, icmz hk, armz1 hk, almz1 hk, armz2 hk, almz2 hk, armz3 hk, almz3 hk, armz4 hk, almz4 hk, armz5 hk, almz5 hk, armz6 hk, almz6 hk, iimz1 hk, iimz2 hk, iimz3 hk, iimz4 hk, iimz5 hk, iimz6 hk]
      exact ⟨fun _ => ⟨by rw [← hr]; exact hM1, hF⟩, fun q => by omega⟩
    | succ n ih =>
      intro l σ1 M1 h0 h1 h2 h3 hM1 hF hr
      obtain ⟨e4, e5, e6⟩ := hM1.2.2.2.2 l h0 (by omega)
      refine S0.run 135 md135 pp135 0 rfl rfl rfl 60 52 ?_
      simp only [ev_s, ev_hd, ev_sf, ev_hd0, ev_sf0, ev_0, ev_1, ev_34, ev_li, ev_lr, ev_lx, ev_2, ev_35, ev_3, ev_4, ev_b0, ev_b1, ev_b2, ev_b3, ev_b4, ev_b5, ev_b6, ev_b7, ev_b8, ev_b9, ev_b10, ev_5, ev_6, ev_c0, ev_c1, ev_c2, ev_c3, ev_c4, ev_c5, ev_7, ev_8, ev_9, ev_33, ev_11, ev_12, ev_12x, ev_13, ev_14, ev_15, ev_16, ev_18, ev_18x, ev_22, ev_23, ev_24, ev_32, ev_25, ev_26, ev_27, ev_28, ev_31, ev_w1, ev_w2, ev_p1, ev_p2, ev_p3, ev_p4, ev_p5, ev_p6, ev_p0, ev_n0, ev_n1, ev_n2, ev_n3, ev_n4, ev_n5, ev_n6, ev_n7, ev_m0, ev_m1, ev_m2, ev_m3, ev_m4, ev_m5, ev_m6, ev_m7, ev_r0, ev_r1, ev_r2, ev16, ev30, cond_true, cond_false, true_and, and_true, Int.cast_ofNat_Int, Nat.reduceLT, Nat.reduceLeDiff, Nat.reduceBEq, Int.reduceLT, Int.reduceLE, Int.reduceEq, Int.reduceAdd, Nat.reduceEqDiff, not_true_eq_false, not_false_eq_true, false_implies, forall_const, eq_self, Nat.reduceAdd, Option.toList_some, Option.toList_none, List.cons_append, List.nil_append, List.length_cons, List.length_nil, Bool.false_eq_true, reduceCtorEq, true_or, or_true, false_or, or_false, Int.reduceNeg, implies_true, true_implies, xl1, xl2, xl3, xf1, xf2, xf3, p135_0, p135_12, p135_33, p135_39, p135_52, p135_97, p135_103, sq135_0, sq135_12, sq135_33, sq135_39, sq135_52, sq135_97, sq135_103, pfmz_0 hk, gfmz_0 hk, pfmz_1 hk, gfmz_1 hk, gfmz_2 hk, gfmz_3 hk, gfmz_4 hk, pfmz_5 hk, gfmz_5 hk, gfmz_6 hk, gfmz_7 hk, gfmz_8 hk, icmz hk, armz1 hk, almz1 hk, armz2 hk, almz2 hk, armz3 hk, almz3 hk, armz4 hk, almz4 hk, armz5 hk, almz5 hk, armz6 hk, almz6 hk, iimz1 hk, iimz2 hk, iimz3 hk, iimz4 hk, iimz5 hk, iimz6 hk, e4]
      unfold rz2 at hr
      refine ⟨fun q => by omega, fun _ => ⟨by omega, K0.useB (c_hasField hk hM1 (M1 (247 + 3 * l))) (by decide) (Nat.le_of_ble_eq_true rfl) (fun hF1 => ?_) (fun hF1 => ?_)⟩⟩
      · rw [if_pos hF1] at hr
        refine S0.run 135 md135 pp135 0 rfl rfl rfl 60 69 ?_
        simp only [ev_s, ev_hd, ev_sf, ev_hd0, ev_sf0, ev_0, ev_1, ev_34, ev_li, ev_lr, ev_lx, ev_2, ev_35, ev_3, ev_4, ev_b0, ev_b1, ev_b2, ev_b3, ev_b4, ev_b5, ev_b6, ev_b7, ev_b8, ev_b9, ev_b10, ev_5, ev_6, ev_c0, ev_c1, ev_c2, ev_c3, ev_c4, ev_c5, ev_7, ev_8, ev_9, ev_33, ev_11, ev_12, ev_12x, ev_13, ev_14, ev_15, ev_16, ev_18, ev_18x, ev_22, ev_23, ev_24, ev_32, ev_25, ev_26, ev_27, ev_28, ev_31, ev_w1, ev_w2, ev_p1, ev_p2, ev_p3, ev_p4, ev_p5, ev_p6, ev_p0, ev_n0, ev_n1, ev_n2, ev_n3, ev_n4, ev_n5, ev_n6, ev_n7, ev_m0, ev_m1, ev_m2, ev_m3, ev_m4, ev_m5, ev_m6, ev_m7, ev_r0, ev_r1, ev_r2, ev16, ev30, cond_true, cond_false, true_and, and_true, Int.cast_ofNat_Int, Nat.reduceLT, Nat.reduceLeDiff, Nat.reduceBEq, Int.reduceLT, Int.reduceLE, Int.reduceEq, Int.reduceAdd, Nat.reduceEqDiff, not_true_eq_false, not_false_eq_true, false_implies, forall_const, eq_self, Nat.reduceAdd, Option.toList_some, Option.toList_none, List.cons_append, List.nil_append, List.length_cons, List.length_nil, Bool.false_eq_true, reduceCtorEq, true_or, or_true, false_or, or_false, Int.reduceNeg, implies_true, true_implies, xl1, xl2, xl3, xf1, xf2, xf3, p135_0, p135_12, p135_33, p135_39, p135_52, p135_97, p135_103, sq135_0, sq135_12, sq135_33, sq135_39, sq135_52, sq135_97, sq135_103, sq135_69, pfmz_0 hk, gfmz_0 hk, pfmz_1 hk, gfmz_1 hk, gfmz_2 hk, gfmz_3 hk, gfmz_4 hk, pfmz_5 hk, gfmz_5 hk, gfmz_6 hk, gfmz_7 hk, gfmz_8 hk, icmz hk, armz1 hk, almz1 hk, armz2 hk, almz2 hk, armz3 hk, almz3 hk, armz4 hk, almz4 hk, armz5 hk, almz5 hk, armz6 hk, almz6 hk, iimz1 hk, iimz2 hk, iimz3 hk, iimz4 hk, iimz5 hk, iimz6 hk, e4, e5, e6]
        refine ⟨by omega, by omega, by omega, K0.use (c_addLamp hk hM1 _ _ _ h2 (by omega)) (by decide) (Nat.le_of_ble_eq_true rfl) (fun r σ2 hi hv hq => ?_)⟩
        obtain ⟨rfl, q1, q2⟩ := hq
        refine S0.run 135 md135 pp135 0 rfl rfl rfl 60 97 ?_
        simp only [ev_s, ev_hd, ev_sf, ev_hd0, ev_sf0, ev_0, ev_1, ev_34, ev_li, ev_lr, ev_lx, ev_2, ev_35, ev_3, ev_4, ev_b0, ev_b1, ev_b2, ev_b3, ev_b4, ev_b5, ev_b6, ev_b7, ev_b8, ev_b9, ev_b10, ev_5, ev_6, ev_c0, ev_c1, ev_c2, ev_c3, ev_c4, ev_c5, ev_7, ev_8, ev_9, ev_33, ev_11, ev_12, ev_12x, ev_13, ev_14, ev_15, ev_16, ev_18, ev_18x, ev_22, ev_23, ev_24, ev_32, ev_25, ev_26, ev_27, ev_28, ev_31, ev_w1, ev_w2, ev_p1, ev_p2, ev_p3, ev_p4, ev_p5, ev_p6, ev_p0, ev_n0, ev_n1, ev_n2, ev_n3, ev_n4, ev_n5, ev_n6, ev_n7, ev_m0, ev_m1, ev_m2, ev_m3, ev_m4, ev_m5, ev_m6, ev_m7, ev_r0, ev_r1, ev_r2, ev16, ev30, cond_true, cond_false, true_and, and_true, Int.cast_ofNat_Int, Nat.reduceLT, Nat.reduceLeDiff, Nat.reduceBEq, Int.reduceLT, Int.reduceLE, Int.reduceEq, Int.reduceAdd, Nat.reduceEqDiff, not_true_eq_false, not_false_eq_true, false_implies, forall_const, eq_self, Nat.reduceAdd, Option.toList_some, Option.toList_none, List.cons_append, List.nil_append, List.length_cons, List.length_nil, Bool.false_eq_true, reduceCtorEq, true_or, or_true, false_or, or_false, Int.reduceNeg, implies_true, true_implies, xl1, xl2, xl3, xf1, xf2, xf3, p135_0, p135_12, p135_33, p135_39, p135_52, p135_97, p135_103, sq135_0, sq135_12, sq135_33, sq135_39, sq135_52, sq135_97, sq135_103, pfmz_0 hk, gfmz_0 hk, pfmz_1 hk, gfmz_1 hk, gfmz_2 hk, gfmz_3 hk, gfmz_4 hk, pfmz_5 hk, gfmz_5 hk, gfmz_6 hk, gfmz_7 hk, gfmz_8 hk, icmz hk, armz1 hk, almz1 hk, armz2 hk, almz2 hk, armz3 hk, almz3 hk, armz4 hk, almz4 hk, armz5 hk, almz5 hk, armz6 hk, almz6 hk, iimz1 hk, iimz2 hk, iimz3 hk, iimz4 hk, iimz5 hk, iimz6 hk]
        refine ⟨by unfold InR; omega, ih (l + 1) σ2 _ (by omega) (by omega) ?_ ?_ q1 (hF.tr q2) hr⟩
        · show 0 ≤ addL M1 _ _ _ 2
          unfold addL
          rw [if_neg (by omega), if_neg (by omega), if_neg (by omega), if_pos rfl]
          omega
        · show addL M1 _ _ _ 2 ≤ l + 1
          unfold addL
          rw [if_neg (by omega), if_neg (by omega), if_neg (by omega), if_pos rfl]
          omega
      · rw [if_neg hF1] at hr
        refine S0.run 135 md135 pp135 0 rfl rfl rfl 60 69 ?_
        simp only [ev_s, ev_hd, ev_sf, ev_hd0, ev_sf0, ev_0, ev_1, ev_34, ev_li, ev_lr, ev_lx, ev_2, ev_35, ev_3, ev_4, ev_b0, ev_b1, ev_b2, ev_b3, ev_b4, ev_b5, ev_b6, ev_b7, ev_b8, ev_b9, ev_b10, ev_5, ev_6, ev_c0, ev_c1, ev_c2, ev_c3, ev_c4, ev_c5, ev_7, ev_8, ev_9, ev_33, ev_11, ev_12, ev_12x, ev_13, ev_14, ev_15, ev_16, ev_18, ev_18x, ev_22, ev_23, ev_24, ev_32, ev_25, ev_26, ev_27, ev_28, ev_31, ev_w1, ev_w2, ev_p1, ev_p2, ev_p3, ev_p4, ev_p5, ev_p6, ev_p0, ev_n0, ev_n1, ev_n2, ev_n3, ev_n4, ev_n5, ev_n6, ev_n7, ev_m0, ev_m1, ev_m2, ev_m3, ev_m4, ev_m5, ev_m6, ev_m7, ev_r0, ev_r1, ev_r2, ev16, ev30, cond_true, cond_false, true_and, and_true, Int.cast_ofNat_Int, Nat.reduceLT, Nat.reduceLeDiff, Nat.reduceBEq, Int.reduceLT, Int.reduceLE, Int.reduceEq, Int.reduceAdd, Nat.reduceEqDiff, not_true_eq_false, not_false_eq_true, false_implies, forall_const, eq_self, Nat.reduceAdd, Option.toList_some, Option.toList_none, List.cons_append, List.nil_append, List.length_cons, List.length_nil, Bool.false_eq_true, reduceCtorEq, true_or, or_true, false_or, or_false, Int.reduceNeg, implies_true, true_implies, xl1, xl2, xl3, xf1, xf2, xf3, p135_0, p135_12, p135_33, p135_39, p135_52, p135_97, p135_103, sq135_0, sq135_12, sq135_33, sq135_39, sq135_52, sq135_97, sq135_103, sq135_69, pfmz_0 hk, gfmz_0 hk, pfmz_1 hk, gfmz_1 hk, gfmz_2 hk, gfmz_3 hk, gfmz_4 hk, pfmz_5 hk, gfmz_5 hk, gfmz_6 hk, gfmz_7 hk, gfmz_8 hk, icmz hk, armz1 hk, almz1 hk, armz2 hk, almz2 hk, armz3 hk, almz3 hk, armz4 hk, almz4 hk, armz5 hk, almz5 hk, armz6 hk, almz6 hk, iimz1 hk, iimz2 hk, iimz3 hk, iimz4 hk, iimz5 hk, iimz6 hk]
        exact ⟨by unfold InR; omega, ih (l + 1) σ1 M1 (by omega) (by omega) h2 (by omega) hM1 hF hr⟩
  have loop1 : ∀ (n : Nat) (f : Int) (σ1 : Sg) (M1 : Int → Int), 0 ≤ f → f + n = 81 → M1 2 = M 2 → MzC σ1 k M1 → Fr k (k + 6) σ σ1 → rz2 (set1 (rz1 M1 f n) 2 0) 0 (M 2).toNat = rsz M w d → S0 X 2 135 (fun r σ' => r = none ∧ MzC σ' k (rsz M w d) ∧ Fr k (k + 6) σ σ') 12 [vr k, vi w, vi d, vi f, vx 9] [] σ1 := by
    intro n
    induction n with
    | zero =>
      intro f σ1 M1 h0 h1 h2 hM1 hF hr
      have e5 := hM1.2.2.1
      refine S0.run 135 md135 pp135 0 rfl rfl rfl 60 12 ?_
      simp only [ev_s, ev_hd, ev_sf, ev_hd0, ev_sf0, ev_0, ev_1, ev_34, ev_li, ev_lr, ev_lx, ev_2, ev_35, ev_3, ev_4, ev_b0, ev_b1, ev_b2, ev_b3, ev_b4, ev_b5, ev_b6, ev_b7, ev_b8, ev_b9, ev_b10, ev_5, ev_6, ev_c0, ev_c1, ev_c2, ev_c3, ev_c4, ev_c5, ev_7, ev_8, ev_9, ev_33, ev_11, ev_12, ev_12x, ev_13, ev_14, ev_15, ev_16, ev_18, ev_18x, ev_22, ev_23, ev_24, ev_32, ev_25, ev_26, ev_27, ev_28, ev_31, ev_w1, ev_w2, ev_p1, ev_p2, ev_p3, ev_p4, ev_p5, ev_p6, ev_p0, ev_n0, ev_n1, ev_n2, ev_n3, ev_n4, ev_n5, ev_n6, ev_n7, ev_m0, ev_m1, ev_m2, ev_m3, ev_m4, ev_m5, ev_m6, ev_m7, ev_r0, ev_r1, ev_r2, ev16, ev30, cond_true, cond_false, true_and, and_true, Int.cast_ofNat_Int, Nat.reduceLT, Nat.reduceLeDiff, Nat.reduceBEq, Int.reduceLT, Int.reduceLE, Int.reduceEq, Int.reduceAdd, Nat.reduceEqDiff, not_true_eq_false, not_false_eq_true, false_implies, forall_const, eq_self, Nat.reduceAdd, Option.toList_some, Option.toList_none, List.cons_append, List.nil_append, List.length_cons, List.length_nil, Bool.false_eq_true, reduceCtorEq, true_or, or_true, false_or, or_false, Int.reduceNeg, implies_true, true_implies, xl1, xl2, xl3, xf1, xf2, xf3, p135_0, p135_12, p135_33, p135_39, p135_52, p135_97, p135_103, sq135_0, sq135_12, sq135_33, sq135_39, sq135_52, sq135_97, sq135_103, pfmz_0 hk, gfmz_0 hk, pfmz_1 hk, gfmz_1 hk, gfmz_2 hk, gfmz_3 hk, gfmz_4 hk, pfmz_5 hk, gfmz_5 hk, gfmz_6 hk, gfmz_7 hk, gfmz_8 hk, icmz hk, armz1 hk, almz1 hk, armz2 hk, almz2 hk, armz3 hk, almz3 hk, armz4 hk, almz4 hk, armz5 hk, almz5 hk, armz6 hk, almz6 hk, iimz1 hk, iimz2 hk, iimz3 hk, iimz4 hk, iimz5 hk, iimz6 hk, e5, h2]
      refine ⟨fun _ => ?_, fun q => by omega⟩
      exact loop2 (M 2).toNat 0 _ (set1 M1 2 0) (by omega) (by omega) (by show (0 : Int) ≤ 0; omega) (by show (0 : Int) ≤ 0; omega) (mz_set2 hM1 0) (fr_st2 hF (by omega) (by omega)) hr
    | succ n ih =>
      intro f σ1 M1 h0 h1 h2 hM1 hF hr
      refine S0.run 135 md135 pp135 0 rfl rfl rfl 60 12 ?_
      simp only [ev_s, ev_hd, ev_sf, ev_hd0, ev_sf0, ev_0, ev_1, ev_34, ev_li, ev_lr, ev_lx, ev_2, ev_35, ev_3, ev_4, ev_b0, ev_b1, ev_b2, ev_b3, ev_b4, ev_b5, ev_b6, ev_b7, ev_b8, ev_b9, ev_b10, ev_5, ev_6, ev_c0, ev_c1, ev_c2, ev_c3, ev_c4, ev_c5, ev_7, ev_8, ev_9, ev_33, ev_11, ev_12, ev_12x, ev_13, ev_14, ev_15, ev_16, ev_18, ev_18x, ev_22, ev_23, ev_24, ev_32, ev_25, ev_26, ev_27, ev_28, ev_31, ev_w1, ev_w2, ev_p1, ev_p2, ev_p3, ev_p4, ev_p5, ev_p6, ev_p0, ev_n0, ev_n1, ev_n2, ev_n3, ev_n4, ev_n5, ev_n6, ev_n7, ev_m0, ev_m1, ev_m2, ev_m3, ev_m4, ev_m5, ev_m6, ev_m7, ev_r0, ev_r1, ev_r2, ev16, ev30, cond_true, cond_false, true_and, and_true, Int.cast_ofNat_Int, Nat.reduceLT, Nat.reduceLeDiff, Nat.reduceBEq, Int.reduceLT, Int.reduceLE, Int.reduceEq, Int.reduceAdd, Nat.reduceEqDiff, not_true_eq_false, not_false_eq_true, false_implies, forall_const, eq_self, Nat.reduceAdd, Option.toList_some, Option.toList_none, List.cons_append, List.nil_append, List.length_cons, List.length_nil, Bool.false_eq_true, reduceCtorEq, true_or, or_true, false_or, or_false, Int.reduceNeg, implies_true, true_implies, xl1, xl2, xl3, xf1, xf2, xf3, p135_0, p135_12, p135_33, p135_39, p135_52, p135_97, p135_103, sq135_0, sq135_12, sq135_33, sq135_39, sq135_52, sq135_97, sq135_103, pfmz_0 hk, gfmz_0 hk, pfmz_1 hk, gfmz_1 hk, gfmz_2 hk, gfmz_3 hk, gfmz_4 hk, pfmz_5 hk, gfmz_5 hk, gfmz_6 hk, gfmz_7 hk, gfmz_8 hk, icmz hk, armz1 hk, almz1 hk, armz2 hk, almz2 hk, armz3 hk, almz3 hk, armz4 hk, almz4 hk, armz5 hk, almz5 hk, armz6 hk, almz6 hk, iimz1 hk, iimz2 hk, iimz3 hk, iimz4 hk, iimz5 hk, iimz6 hk]
      unfold rz1 at hr
      refine ⟨fun q => by omega, fun _ => K0.useB (c_hasField hk hM1 f) (by decide) (Nat.le_of_ble_eq_true rfl) (fun hF1 => ?_) (fun hF1 => ?_)⟩
      · rw [if_pos hF1] at hr
        refine S0.run 135 md135 pp135 0 rfl rfl rfl 60 23 ?_
        simp only [ev_s, ev_hd, ev_sf, ev_hd0, ev_sf0, ev_0, ev_1, ev_34, ev_li, ev_lr, ev_lx, ev_2, ev_35, ev_3, ev_4, ev_b0, ev_b1, ev_b2, ev_b3, ev_b4, ev_b5, ev_b6, ev_b7, ev_b8, ev_b9, ev_b10, ev_5, ev_6, ev_c0, ev_c1, ev_c2, ev_c3, ev_c4, ev_c5, ev_7, ev_8, ev_9, ev_33, ev_11, ev_12, ev_12x, ev_13, ev_14, ev_15, ev_16, ev_18, ev_18x, ev_22, ev_23, ev_24, ev_32, ev_25, ev_26, ev_27, ev_28, ev_31, ev_w1, ev_w2, ev_p1, ev_p2, ev_p3, ev_p4, ev_p5, ev_p6, ev_p0, ev_n0, ev_n1, ev_n2, ev_n3, ev_n4, ev_n5, ev_n6, ev_n7, ev_m0, ev_m1, ev_m2, ev_m3, ev_m4, ev_m5, ev_m6, ev_m7, ev_r0, ev_r1, ev_r2, ev16, ev30, cond_true, cond_false, true_and, and_true, Int.cast_ofNat_Int, Nat.reduceLT, Nat.reduceLeDiff, Nat.reduceBEq, Int.reduceLT, Int.reduceLE, Int.reduceEq, Int.reduceAdd, Nat.reduceEqDiff, not_true_eq_false, not_false_eq_true, false_implies, forall_const, eq_self, Nat.reduceAdd, Option.toList_some, Option.toList_none, List.cons_append, List.nil_append, List.length_cons, List.length_nil, Bool.false_eq_true, reduceCtorEq, true_or, or_true, false_or, or_false, Int.reduceNeg, implies_true, true_implies, xl1, xl2, xl3, xf1, xf2, xf3, p135_0, p135_12, p135_33, p135_39, p135_52, p135_97, p135_103, sq135_0, sq135_12, sq135_33, sq135_39, sq135_52, sq135_97, sq135_103, sq135_23, pfmz_0 hk, gfmz_0 hk, pfmz_1 hk, gfmz_1 hk, gfmz_2 hk, gfmz_3 hk, gfmz_4 hk, pfmz_5 hk, gfmz_5 hk, gfmz_6 hk, gfmz_7 hk, gfmz_8 hk, icmz hk, armz1 hk, almz1 hk, armz2 hk, almz2 hk, armz3 hk, almz3 hk, armz4 hk, almz4 hk, armz5 hk, almz5 hk, armz6 hk, almz6 hk, iimz1 hk, iimz2 hk, iimz3 hk, iimz4 hk, iimz5 hk, iimz6 hk]
        exact ⟨by unfold InR; omega, ih (f + 1) σ1 M1 (by omega) (by omega) h2 hM1 hF hr⟩
      · rw [if_neg hF1] at hr
        refine S0.run 135 md135 pp135 0 rfl rfl rfl 60 23 ?_
        simp only [ev_s, ev_hd, ev_sf, ev_hd0, ev_sf0, ev_0, ev_1, ev_34, ev_li, ev_lr, ev_lx, ev_2, ev_35, ev_3, ev_4, ev_b0, ev_b1, ev_b2, ev_b3, ev_b4, ev_b5, ev_b6, ev_b7, ev_b8, ev_b9, ev_b10, ev_5, ev_6, ev_c0, ev_c1, ev_c2, ev_c3, ev_c4, ev_c5, ev_7, ev_8, ev_9, ev_33, ev_11, ev_12, ev_12x, ev_13, ev_14, ev_15, ev_16, ev_18, ev_18x, ev_22, ev_23, ev_24, ev_32, ev_25, ev_26, ev_27, ev_28, ev_31, ev_w1, ev_w2, ev_p1, ev_p2, ev_p3, ev_p4, ev_p5, ev_p6, ev_p0, ev_n0, ev_n1, ev_n2, ev_n3, ev_n4, ev_n5, ev_n6, ev_n7, ev_m0, ev_m1, ev_m2, ev_m3, ev_m4, ev_m5, ev_m6, ev_m7, ev_r0, ev_r1, ev_r2, ev16, ev30, cond_true, cond_false, true_and, and_true, Int.cast_ofNat_Int, Nat.reduceLT, Nat.reduceLeDiff, Nat.reduceBEq, Int.reduceLT, Int.reduceLE, Int.reduceEq, Int.reduceAdd, Nat.reduceEqDiff, not_true_eq_false, not_false_eq_true, false_implies, forall_const, eq_self, Nat.reduceAdd, Option.toList_some, Option.toList_none, List.cons_append, List.nil_append, List.length_cons, List.length_nil, Bool.false_eq_true, reduceCtorEq, true_or, or_true, false_or, or_false, Int.reduceNeg, implies_true, true_implies, xl1, xl2, xl3, xf1, xf2, xf3, p135_0, p135_12, p135_33, p135_39, p135_52, p135_97, p135_103, sq135_0, sq135_12, sq135_33, sq135_39, sq135_52, sq135_97, sq135_103, sq135_23, pfmz_0 hk, gfmz_0 hk, pfmz_1 hk, gfmz_1 hk, gfmz_2 hk, gfmz_3 hk, gfmz_4 hk, pfmz_5 hk, gfmz_5 hk, gfmz_6 hk, gfmz_7 hk, gfmz_8 hk, icmz hk, armz1 hk, almz1 hk, armz2 hk, almz2 hk, armz3 hk, almz3 hk, armz4 hk, almz4 hk, armz5 hk, almz5 hk, armz6 hk, almz6 hk, iimz1 hk, iimz2 hk, iimz3 hk, iimz4 hk, iimz5 hk, iimz6 hk]
        refine K0.use (c_place hk hM1 f (-1) 0 h0 (by omega)) (by decide) (Nat.le_of_ble_eq_true rfl) (fun r σ2 hi hv hq => ?_)
        obtain ⟨rfl, q1, q2⟩ := hq
        refine S0.run 135 md135 pp135 0 rfl rfl rfl 60 33 ?_
        simp only [ev_s, ev_hd, ev_sf, ev_hd0, ev_sf0, ev_0, ev_1, ev_34, ev_li, ev_lr, ev_lx, ev_2, ev_35, ev_3, ev_4, ev_b0, ev_b1, ev_b2, ev_b3, ev_b4, ev_b5, ev_b6, ev_b7, ev_b8, ev_b9, ev_b10, ev_5, ev_6, ev_c0, ev_c1, ev_c2, ev_c3, ev_c4, ev_c5, ev_7, ev_8, ev_9, ev_33, ev_11, ev_12, ev_12x, ev_13, ev_14, ev_15, ev_16, ev_18, ev_18x, ev_22, ev_23, ev_24, ev_32, ev_25, ev_26, ev_27, ev_28, ev_31, ev_w1, ev_w2, ev_p1, ev_p2, ev_p3, ev_p4, ev_p5, ev_p6, ev_p0, ev_n0, ev_n1, ev_n2, ev_n3, ev_n4, ev_n5, ev_n6, ev_n7, ev_m0, ev_m1, ev_m2, ev_m3, ev_m4, ev_m5, ev_m6, ev_m7, ev_r0, ev_r1, ev_r2, ev16, ev30, cond_true, cond_false, true_and, and_true, Int.cast_ofNat_Int, Nat.reduceLT, Nat.reduceLeDiff, Nat.reduceBEq, Int.reduceLT, Int.reduceLE, Int.reduceEq, Int.reduceAdd, Nat.reduceEqDiff, not_true_eq_false, not_false_eq_true, false_implies, forall_const, eq_self, Nat.reduceAdd, Option.toList_some, Option.toList_none, List.cons_append, List.nil_append, List.length_cons, List.length_nil, Bool.false_eq_true, reduceCtorEq, true_or, or_true, false_or, or_false, Int.reduceNeg, implies_true, true_implies, xl1, xl2, xl3, xf1, xf2, xf3, p135_0, p135_12, p135_33, p135_39, p135_52, p135_97, p135_103, sq135_0, sq135_12, sq135_33, sq135_39, sq135_52, sq135_97, sq135_103, pfmz_0 hk, gfmz_0 hk, pfmz_1 hk, gfmz_1 hk, gfmz_2 hk, gfmz_3 hk, gfmz_4 hk, pfmz_5 hk, gfmz_5 hk, gfmz_6 hk, gfmz_7 hk, gfmz_8 hk, icmz hk, armz1 hk, almz1 hk, armz2 hk, almz2 hk, armz3 hk, almz3 hk, armz4 hk, almz4 hk, armz5 hk, almz5 hk, armz6 hk, almz6 hk, iimz1 hk, iimz2 hk, iimz3 hk, iimz4 hk, iimz5 hk, iimz6 hk]
        exact ⟨by unfold InR; omega, ih (f + 1) σ2 _ (by omega) (by omega) (by rw [lay_off M1 f _ _ h0 (by omega) (by omega)]; exact h2) q1 (hF.tr q2) hr⟩
  refine S0.run 135 md135 pp135 0 rfl rfl rfl 60 0 ?_
  simp only [ev_s, ev_hd, ev_sf, ev_hd0, ev_sf0, ev_0, ev_1, ev_34, ev_li, ev_lr, ev_lx, ev_2, ev_35, ev_3, ev_4, ev_b0, ev_b1, ev_b2, ev_b3, ev_b4, ev_b5, ev_b6, ev_b7, ev_b8, ev_b9, ev_b10, ev_5, ev_6, ev_c0, ev_c1, ev_c2, ev_c3, ev_c4, ev_c5, ev_7, ev_8, ev_9, ev_33, ev_11, ev_12, ev_12x, ev_13, ev_14, ev_15, ev_16, ev_18, ev_18x, ev_22, ev_23, ev_24, ev_32, ev_25, ev_26, ev_27, ev_28, ev_31, ev_w1, ev_w2, ev_p1, ev_p2, ev_p3, ev_p4, ev_p5, ev_p6, ev_p0, ev_n0, ev_n1, ev_n2, ev_n3, ev_n4, ev_n5, ev_n6, ev_n7, ev_m0, ev_m1, ev_m2, ev_m3, ev_m4, ev_m5, ev_m6, ev_m7, ev_r0, ev_r1, ev_r2, ev16, ev30, cond_true, cond_false, true_and, and_true, Int.cast_ofNat_Int, Nat.reduceLT, Nat.reduceLeDiff, Nat.reduceBEq, Int.reduceLT, Int.reduceLE, Int.reduceEq, Int.reduceAdd, Nat.reduceEqDiff, not_true_eq_false, not_false_eq_true, false_implies, forall_const, eq_self, Nat.reduceAdd, Option.toList_some, Option.toList_none, List.cons_append, List.nil_append, List.length_cons, List.length_nil, Bool.false_eq_true, reduceCtorEq, true_or, or_true, false_or, or_false, Int.reduceNeg, implies_true, true_implies, xl1, xl2, xl3, xf1, xf2, xf3, p135_0, p135_12, p135_33, p135_39, p135_52, p135_97, p135_103, sq135_0, sq135_12, sq135_33, sq135_39, sq135_52, sq135_97, sq135_103, pfmz_0 hk, gfmz_0 hk, pfmz_1 hk, gfmz_1 hk, gfmz_2 hk, gfmz_3 hk, gfmz_4 hk, pfmz_5 hk, gfmz_5 hk, gfmz_6 hk, gfmz_7 hk, gfmz_8 hk, icmz hk, armz1 hk, almz1 hk, armz2 hk, almz2 hk, armz3 hk, almz3 hk, armz4 hk, almz4 hk, armz5 hk, almz5 hk, armz6 hk, almz6 hk, iimz1 hk, iimz2 hk, iimz3 hk, iimz4 hk, iimz5 hk, iimz6 hk]
  exact loop1 81 0 _ (set1 (set1 M 0 w) 1 d) (by omega) (by omega) rfl (mz_set1 (mz_set0 hM w) d) (fr_st2 (Fr.st (by omega) (by omega)) (by omega) (by omega)) rfl
end MZY
