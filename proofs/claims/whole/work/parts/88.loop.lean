-- THE LAW'S LOOP, and its beginning
theorem sq0_33 : seek pp0 33 = (33, false, 31, 0, 0, 0, 0) :: p0_184 := rfl
section LOOP
variable {X : Cx} {Z : FC}
theorem l_none (hZ : LZ X Z) {σ : Sg} {A : AT} {B n i : Int} (hV : CV σ A B) (hM : MV σ A) (hN : WN A n) (h0 : 0 ≤ i) (h1 : i + 6 ≤ xl X 0) (nxt : ∀ (σ' : Sg) (A' : AT), CV σ' A' (B + 5000) → MV σ' A' → WN A' (n + 1) → LW X Z 18 [vx 0, vr 0, vr 212, vi (i + 6)] [] σ') : LW X Z 1264 [vx 0, vr 0, vr 212, vi i] [] σ := by
  have h3 := hZ.2.2.2
  refine LW.run hZ 4 1264 ?_
  simp only [ev_hd, ev_sf, ev_hd0, ev_sf0, ↓ev_0, ↓ev_lx, ↓ev_7, ↓ev_8, ↓ev_9, ↓ev_33, ↓ev_11, ↓ev_12, ↓ev_12x, ↓ev_13, ↓ev_14, ↓ev_15, ↓ev_16, ↓ev_18, ↓ev_18x, ↓ev_22, ↓ev_23, ↓ev_24, ↓ev_32, ↓ev_25, ↓ev_26, ↓ev_27, ↓ev_28, ↓ev_31, ↓ev_w1, ↓ev_w2, ↓ev_p1, ↓ev_p2, ↓ev_p3, ↓ev_p4, ↓ev_p5, ↓ev_p6, ↓ev_p0, ev_r0, ev_r1, ev_r2, ↓ev16, ↓ev30, ev_34, ↓fl_0, ↓fr_0, ↓fs_0, ↓ft_0, ↓fc_0, ↓fl_1, ↓fr_1, ↓fs_1, ↓ft_1, ↓fc_1, ↓fl_2, ↓fr_2, ↓fs_2, ↓ft_2, ↓fc_2, ↓fl_3, ↓fr_3, ↓fs_3, ↓ft_3, ↓fc_3, ↓fl_4, ↓fr_4, ↓fs_4, ↓ft_4, ↓fc_4, ↓fl_5, ↓fr_5, ↓fs_5, ↓ft_5, ↓fc_5, ↓fl_6, ↓fr_6, ↓fs_6, ↓ft_6, ↓fc_6, ↓fl_7, ↓fr_7, ↓fs_7, ↓ft_7, ↓fc_7, ↓fb_0, ↓fb_1, ↓fb_2, ↓fb_3, ↓fb_4, ↓fb_5, ↓fb_6, ↓fb_7, ↓fb_8, ↓fb_9, ↓fb_10, ↓f5_0, ↓f6_0, ↓f5_1, ↓f6_1, ↓f5_2, ↓f6_2, ↓f5_3, ↓f6_3, ↓f5_4, ↓f6_4, ↓f5_5, ↓f6_5, ↓f_s, ↓f_cf, ↓f_ct, cond_true, cond_false, true_and, and_true, Int.cast_ofNat_Int, Nat.reduceLT, Nat.reduceLeDiff, Nat.reduceBEq, Int.reduceLT, Int.reduceLE, Int.reduceEq, Int.reduceAdd, Nat.reduceEqDiff, not_true_eq_false, not_false_eq_true, false_implies, forall_const, eq_self, Nat.reduceAdd, Option.toList_some, Option.toList_none, List.cons_append, List.nil_append, List.length_cons, List.length_nil, Bool.false_eq_true, reduceCtorEq, true_or, or_true, false_or, or_false, Int.reduceNeg, implies_true, true_implies, xl1, xl2, xl3, xf1, xf2, xf3, p0_1264, sq0_1264]
  exact ⟨by unfold InR; omega, nxt σ A (hV.wk (by omega)) hM hN.up⟩
def gz (X : Cx) (Z : FC) (t : Nat) (L St : List AV) (σ : Sg) : Prop := bif sf (seek pp0 t) then LW X Z t L St σ else wq X SH (LW X Z) (fun r _ => r = some (vi 1)) (LK X Z) true pp0 0 (seek pp0 t) L St σ
theorem gz_of {t : Nat} {q : EN} {F : List EN} {L St : List AV} {σ : Sg} (hs : seek pp0 t = q :: F) (ht : q.1 = t) (h : LW X Z t L St σ) : gz X Z t L St σ := by
  unfold gz
  cases sf (seek pp0 t)
  · rw [hs]
    show LW X Z q.1 L St σ
    rw [ht]
    exact h
  · exact h
set_option maxRecDepth 20000 in
theorem l_33 (hZ : LZ X Z) {σ : Sg} {A : AT} {B n i : Int} (hV : CV σ A B) (hM : MV σ A) (hN : WN A n) (hn : n < 1000) (hB : 0 ≤ B ∧ B < 1000000000) (h0 : 0 ≤ i) (h1 : i + 6 ≤ xl X 0) (nxt : ∀ (σ' : Sg) (A' : AT), CV σ' A' (B + 5000) → MV σ' A' → WN A' (n + 1) → LW X Z 18 [vx 0, vr 0, vr 212, vi (i + 6)] [] σ') (v : Int) : LW X Z 33 [vx 0, vr 0, vr 212, vi i] [vi v] σ := by
  refine LW.run hZ 1 33 ?_
  rw [sq0_33]
  show swp v 0 (SWT.getD 0 []) (fun t => gz X Z t [vx 0, vr 0, vr 212, vi i] [] σ)
  have e : SWT.getD 0 [] = [184, 217, 260, 283, 316, 349, 372, 395, 428, 471, 504, 563, 596, 619, 632, 681, 724, 737, 770, 793, 816, 855, 868, 901, 924, 957, 990, 1013, 1046, 1089, 1132, 1195, 1228, 1241, 1264] := rfl
  rw [e]
  refine ⟨fun _ => gz_of sq0_184 rfl (l_floor hZ hV hM hN hn hB h0 h1 nxt), fun _ => ?_⟩
  refine ⟨fun _ => gz_of sq0_217 rfl (l_thing hZ hV hM hN hn hB h0 h1 nxt), fun _ => ?_⟩
  refine ⟨fun _ => gz_of sq0_260 rfl (l_clear hZ hV hM hN hn hB h0 h1 nxt), fun _ => ?_⟩
  refine ⟨fun _ => gz_of sq0_283 rfl (l_as hZ hV hM hN hn hB h0 h1 nxt), fun _ => ?_⟩
  refine ⟨fun _ => gz_of sq0_316 rfl (l_at hZ hV hM hN hn hB h0 h1 nxt), fun _ => ?_⟩
  refine ⟨fun _ => gz_of sq0_349 rfl (l_lean hZ hV hM hN hn hB h0 h1 nxt), fun _ => ?_⟩
  refine ⟨fun _ => gz_of sq0_372 rfl (l_shut hZ hV hM hN hn hB h0 h1 nxt), fun _ => ?_⟩
  refine ⟨fun _ => gz_of sq0_395 rfl (l_path hZ hV hM hN hn hB h0 h1 nxt), fun _ => ?_⟩
  refine ⟨fun _ => gz_of sq0_428 rfl (l_step hZ hV hM hN hn hB h0 h1 nxt), fun _ => ?_⟩
  refine ⟨fun _ => gz_of sq0_471 rfl (l_closes hZ hV hM hN hn hB h0 h1 nxt), fun _ => ?_⟩
  refine ⟨fun _ => gz_of sq0_504 rfl (l_spread hZ hV hM hN hn hB h0 h1 nxt), fun _ => ?_⟩
  refine ⟨fun _ => gz_of sq0_563 rfl (l_sees hZ hV hM hN hn hB h0 h1 nxt), fun _ => ?_⟩
  refine ⟨fun _ => gz_of sq0_596 rfl (l_seen hZ hV hM hN hn hB h0 h1 nxt), fun _ => ?_⟩
  refine ⟨fun _ => gz_of sq0_619 rfl (l_rings hZ hV hM hN hn hB h0 h1 nxt), fun _ => ?_⟩
  refine ⟨fun _ => gz_of sq0_632 rfl (l_ring hZ hV hM hN hn hB h0 h1 nxt), fun _ => ?_⟩
  refine ⟨fun _ => gz_of sq0_681 rfl (l_lamp hZ hV hM hN hn hB h0 h1 nxt), fun _ => ?_⟩
  refine ⟨fun _ => gz_of sq0_724 rfl (l_out hZ hV hM hN hn hB h0 h1 nxt), fun _ => ?_⟩
  refine ⟨fun _ => gz_of sq0_737 rfl (l_face hZ hV hM hN hn hB h0 h1 nxt), fun _ => ?_⟩
  refine ⟨fun _ => gz_of sq0_770 rfl (l_lit hZ hV hM hN hn hB h0 h1 nxt), fun _ => ?_⟩
  refine ⟨fun _ => gz_of sq0_793 rfl (l_bright hZ hV hM hN hn hB h0 h1 nxt), fun _ => ?_⟩
  refine ⟨fun _ => gz_of sq0_816 rfl (l_opened hZ hV hM hN hn hB h0 h1 nxt), fun _ => ?_⟩
  refine ⟨fun _ => gz_of sq0_855 rfl (l_open hZ hV hM hN hn hB h0 h1 nxt), fun _ => ?_⟩
  refine ⟨fun _ => gz_of sq0_868 rfl (l_turns hZ hV hM hN hn hB h0 h1 nxt), fun _ => ?_⟩
  refine ⟨fun _ => gz_of sq0_901 rfl (l_turn hZ hV hM hN hn hB h0 h1 nxt), fun _ => ?_⟩
  refine ⟨fun _ => gz_of sq0_924 rfl (l_far hZ hV hM hN hn hB h0 h1 nxt), fun _ => ?_⟩
  refine ⟨fun _ => gz_of sq0_957 rfl (l_first hZ hV hM hN hn hB h0 h1 nxt), fun _ => ?_⟩
  refine ⟨fun _ => gz_of sq0_990 rfl (l_reach hZ hV hM hN hn hB h0 h1 nxt), fun _ => ?_⟩
  refine ⟨fun _ => gz_of sq0_1013 rfl (l_visit hZ hV hM hN hn hB h0 h1 nxt), fun _ => ?_⟩
  refine ⟨fun _ => gz_of sq0_1046 rfl (l_sheet hZ hV hM hN hn hB h0 h1 nxt), fun _ => ?_⟩
  refine ⟨fun _ => gz_of sq0_1089 rfl (l_put hZ hV hM hN hn hB h0 h1 nxt), fun _ => ?_⟩
  refine ⟨fun _ => gz_of sq0_1132 rfl (l_copy hZ hV hM hN hn hB h0 h1 nxt), fun _ => ?_⟩
  refine ⟨fun _ => gz_of sq0_1195 rfl (l_row hZ hV hM hN hn hB h0 h1 nxt), fun _ => ?_⟩
  refine ⟨fun _ => gz_of sq0_1228 rfl (l_undo hZ hV hM hN hn hB h0 h1 nxt), fun _ => ?_⟩
  refine ⟨fun _ => gz_of sq0_1241 rfl (l_all hZ hV hM hN hn hB h0 h1 nxt), fun _ => ?_⟩
  exact gz_of sq0_1264 rfl (l_none hZ hV hM hN h0 h1 nxt)
theorem l_loop (hZ : LZ X Z) : ∀ (m t : Nat) (σ : Sg) (A : AT), t + m = 66 → CV σ A (5000 * t) → MV σ A → WN A t → LW X Z 18 [vx 0, vr 0, vr 212, vi (6 * (t : Int))] [] σ := by
  have h3 := hZ.2.2.2
  intro m
  induction m with
  | zero =>
    intro t σ A h1 hV hM hN
    refine LW.run hZ 11 18 ?_
    simp only [ev_hd, ev_sf, ev_hd0, ev_sf0, ↓ev_0, ↓ev_lx, ↓ev_7, ↓ev_8, ↓ev_9, ↓ev_33, ↓ev_11, ↓ev_12, ↓ev_12x, ↓ev_13, ↓ev_14, ↓ev_15, ↓ev_16, ↓ev_18, ↓ev_18x, ↓ev_22, ↓ev_23, ↓ev_24, ↓ev_32, ↓ev_25, ↓ev_26, ↓ev_27, ↓ev_28, ↓ev_31, ↓ev_w1, ↓ev_w2, ↓ev_p1, ↓ev_p2, ↓ev_p3, ↓ev_p4, ↓ev_p5, ↓ev_p6, ↓ev_p0, ev_r0, ev_r1, ev_r2, ↓ev16, ↓ev30, ev_34, ↓fl_0, ↓fr_0, ↓fs_0, ↓ft_0, ↓fc_0, ↓fl_1, ↓fr_1, ↓fs_1, ↓ft_1, ↓fc_1, ↓fl_2, ↓fr_2, ↓fs_2, ↓ft_2, ↓fc_2, ↓fl_3, ↓fr_3, ↓fs_3, ↓ft_3, ↓fc_3, ↓fl_4, ↓fr_4, ↓fs_4, ↓ft_4, ↓fc_4, ↓fl_5, ↓fr_5, ↓fs_5, ↓ft_5, ↓fc_5, ↓fl_6, ↓fr_6, ↓fs_6, ↓ft_6, ↓fc_6, ↓fl_7, ↓fr_7, ↓fs_7, ↓ft_7, ↓fc_7, ↓fb_0, ↓fb_1, ↓fb_2, ↓fb_3, ↓fb_4, ↓fb_5, ↓fb_6, ↓fb_7, ↓fb_8, ↓fb_9, ↓fb_10, ↓f5_0, ↓f6_0, ↓f5_1, ↓f6_1, ↓f5_2, ↓f6_2, ↓f5_3, ↓f6_3, ↓f5_4, ↓f6_4, ↓f5_5, ↓f6_5, ↓f_s, ↓f_cf, ↓f_ct, cond_true, cond_false, true_and, and_true, Int.cast_ofNat_Int, Nat.reduceLT, Nat.reduceLeDiff, Nat.reduceBEq, Int.reduceLT, Int.reduceLE, Int.reduceEq, Int.reduceAdd, Nat.reduceEqDiff, not_true_eq_false, not_false_eq_true, false_implies, forall_const, eq_self, Nat.reduceAdd, Option.toList_some, Option.toList_none, List.cons_append, List.nil_append, List.length_cons, List.length_nil, Bool.false_eq_true, reduceCtorEq, true_or, or_true, false_or, or_false, Int.reduceNeg, implies_true, true_implies, xl1, xl2, xl3, xf1, xf2, xf3, p0_18, p0_1270, sq0_18, sq0_1270, ↓fx_0, ↓f_0]
    exact ⟨by unfold InR; omega, by unfold InR; omega, fun q => by omega⟩
  | succ m ih =>
    intro t σ A h1 hV hM hN
    refine LW.run hZ 11 18 ?_
    simp only [ev_hd, ev_sf, ev_hd0, ev_sf0, ↓ev_0, ↓ev_lx, ↓ev_7, ↓ev_8, ↓ev_9, ↓ev_33, ↓ev_11, ↓ev_12, ↓ev_12x, ↓ev_13, ↓ev_14, ↓ev_15, ↓ev_16, ↓ev_18, ↓ev_18x, ↓ev_22, ↓ev_23, ↓ev_24, ↓ev_32, ↓ev_25, ↓ev_26, ↓ev_27, ↓ev_28, ↓ev_31, ↓ev_w1, ↓ev_w2, ↓ev_p1, ↓ev_p2, ↓ev_p3, ↓ev_p4, ↓ev_p5, ↓ev_p6, ↓ev_p0, ev_r0, ev_r1, ev_r2, ↓ev16, ↓ev30, ev_34, ↓fl_0, ↓fr_0, ↓fs_0, ↓ft_0, ↓fc_0, ↓fl_1, ↓fr_1, ↓fs_1, ↓ft_1, ↓fc_1, ↓fl_2, ↓fr_2, ↓fs_2, ↓ft_2, ↓fc_2, ↓fl_3, ↓fr_3, ↓fs_3, ↓ft_3, ↓fc_3, ↓fl_4, ↓fr_4, ↓fs_4, ↓ft_4, ↓fc_4, ↓fl_5, ↓fr_5, ↓fs_5, ↓ft_5, ↓fc_5, ↓fl_6, ↓fr_6, ↓fs_6, ↓ft_6, ↓fc_6, ↓fl_7, ↓fr_7, ↓fs_7, ↓ft_7, ↓fc_7, ↓fb_0, ↓fb_1, ↓fb_2, ↓fb_3, ↓fb_4, ↓fb_5, ↓fb_6, ↓fb_7, ↓fb_8, ↓fb_9, ↓fb_10, ↓f5_0, ↓f6_0, ↓f5_1, ↓f6_1, ↓f5_2, ↓f6_2, ↓f5_3, ↓f6_3, ↓f5_4, ↓f6_4, ↓f5_5, ↓f6_5, ↓f_s, ↓f_cf, ↓f_ct, cond_true, cond_false, true_and, and_true, Int.cast_ofNat_Int, Nat.reduceLT, Nat.reduceLeDiff, Nat.reduceBEq, Int.reduceLT, Int.reduceLE, Int.reduceEq, Int.reduceAdd, Nat.reduceEqDiff, not_true_eq_false, not_false_eq_true, false_implies, forall_const, eq_self, Nat.reduceAdd, Option.toList_some, Option.toList_none, List.cons_append, List.nil_append, List.length_cons, List.length_nil, Bool.false_eq_true, reduceCtorEq, true_or, or_true, false_or, or_false, Int.reduceNeg, implies_true, true_implies, xl1, xl2, xl3, xf1, xf2, xf3, p0_18, p0_1270, sq0_18, sq0_1270, ↓fx_0, ↓f_0]
    refine ⟨by unfold InR; omega, by unfold InR; omega, fun q => ⟨by omega, l_33 hZ hV hM hN (by omega) (by omega) (by omega) (by omega) (fun σ' A' a b c => ?_) _⟩⟩
    have nx := ih (t + 1) σ' A' (by omega) (by rw [show 5000 * ((t + 1 : Nat) : Int) = 5000 * (t : Int) + 5000 from by omega]; exact a) b (by rw [show ((t + 1 : Nat) : Int) = (t : Int) + 1 from by omega]; exact c)
    rw [show 6 * ((t + 1 : Nat) : Int) = 6 * (t : Int) + 6 from by omega] at nx
    exact nx
end LOOP
