-- THE PAST: c mazes P 0 .. P (c-1), the oldest first; class: a ring of 20; reference: one row
def PastC (σ : Sg) (c : Int) (P : Int → Int → Int) : Prop := σ 15 2 = c ∧ (0 ≤ σ 15 1 ∧ σ 15 1 < 20) ∧ (0 ≤ c ∧ c ≤ 20) ∧ ∀ i, 0 ≤ i → i < c → MzC σ (17 + 7 * ((σ 15 1 + i) % 20).toNat) (P i)
def PastR (σ : Sg) (c : Int) (P : Int → Int → Int) : Prop := σ 212 2 = c ∧ (0 ≤ c ∧ c ≤ 20) ∧ ∀ i j, 0 ≤ i → i < c → 0 ≤ j → j < 265 → σ 214 (265 * i + j) = P i j
def kpc (c : Int) : Int := if c = 20 then 20 else c + 1
def kpP (c : Int) (P : Int → Int → Int) (M : Int → Int) : Int → Int → Int := fun i => if c = 20 then (if i = 19 then M else P (i + 1)) else (if i = c then M else P i)
section PAST
variable {X : Cx} {σ : Sg} {M : Int → Int} {c : Int} {P : Int → Int → Int}
theorem c_finding (v : Int) (h : σ 0 11 ≤ 1000 ∧ 0 ≤ σ 0 11) : C0 X 1 36 [vr 0, vi v] σ (fun r σ' => r = some (vi v) ∧ σ' = st σ 0 11 (σ 0 11 + 1)) := by
  refine C0.intro md36 (by decide) rfl (by decide) (Nat.le_of_ble_eq_true rfl) ?_
  intro hin hav
  show S0 X _ 36 _ 0 [vr 0, vi v] [] _
  refine S0.run 36 md36 pp36 1 rfl rfl rfl 30 0 ?_
  simp only [ev_s, ev_hd, ev_sf, ev_hd0, ev_sf0, ev_0, ev_1, ev_34, ev_li, ev_lr, ev_lx, ev_2, ev_35, ev_3, ev_4, ev_b0, ev_b1, ev_b2, ev_b3, ev_b4, ev_b5, ev_b6, ev_b7, ev_b8, ev_b9, ev_b10, ev_5, ev_6, ev_c0, ev_c1, ev_c2, ev_c3, ev_c4, ev_c5, ev_7, ev_8, ev_9, ev_33, ev_11, ev_12, ev_12x, ev_13, ev_14, ev_15, ev_16, ev_18, ev_18x, ev_22, ev_23, ev_24, ev_32, ev_25, ev_26, ev_27, ev_28, ev_31, ev_w1, ev_w2, ev_p1, ev_p2, ev_p3, ev_p4, ev_p5, ev_p6, ev_p0, ev_n0, ev_n1, ev_n2, ev_n3, ev_n4, ev_n5, ev_n6, ev_n7, ev_m0, ev_m1, ev_m2, ev_m3, ev_m4, ev_m5, ev_m6, ev_m7, ev_r0, ev_r1, ev_r2, ev16, ev30, gf0_0, gf0_1, gf0_2, gf0_3, gf0_4, gf0_5, gf0_6, gf0_7, gf0_8, gf0_9, gf0_10, pf0_11, gf0_11, ic0, gf15_0, pf15_1, gf15_1, pf15_2, gf15_2, ic15, gf165_0, gf165_1, pf165_2, gf165_2, gf165_3, gf165_4, ic165, ar166, al166, ii166, ar167, al167, ii167, ar168, al168, ii168, gf171_0, pf171_1, gf171_1, pf171_2, gf171_2, gf171_3, ic171, ar172, al172, ii172, gf179_0, gf179_1, gf179_2, pf179_3, gf179_3, pf179_4, gf179_4, pf179_5, gf179_5, pf179_6, gf179_6, ic179, ar193, al193, ii193, gf197_0, gf197_1, gf197_2, ic197, ar207, al207, ii207, gf208_0, gf208_1, gf208_2, ic208, ar209, al209, ii209, ar210, al210, ii210, ar211, al211, ii211, gf212_0, gf212_1, pf212_2, gf212_2, gf212_3, gf212_4, gf212_5, pf212_6, gf212_6, pf212_7, gf212_7, gf212_8, pf212_9, gf212_9, gf212_10, gf212_11, gf212_12, gf212_13, pf212_14, gf212_14, gf212_15, gf212_16, gf212_17, pf212_18, gf212_18, gf212_19, gf212_20, gf212_21, gf212_22, gf212_23, ic212, ar213, al213, ii213, ar214, al214, ii214, ar215, al215, ii215, ar216, al216, ii216, ar217, al217, ii217, ar218, al218, ii218, ar219, al219, ar220, al220, ar221, al221, ar222, al222, ii222, ar223, al223, ii223, ar224, al224, ii224, ar225, al225, ar226, al226, ii226, ar227, al227, ii227, ar228, al228, ii228, ar229, al229, ar230, al230, ii230, cond_true, cond_false, true_and, and_true, Int.cast_ofNat_Int, Nat.reduceLT, Nat.reduceLeDiff, Nat.reduceBEq, Int.reduceLT, Int.reduceLE, Int.reduceEq, Int.reduceAdd, Nat.reduceEqDiff, not_true_eq_false, not_false_eq_true, false_implies, forall_const, eq_self, Nat.reduceAdd, Option.toList_some, Option.toList_none, List.cons_append, List.nil_append, List.length_cons, List.length_nil, Bool.false_eq_true, reduceCtorEq, true_or, or_true, false_or, or_false, Int.reduceNeg, implies_true, true_implies, xl1, xl2, xl3, xf1, xf2, xf3, p36_0, sq36_0]
  unfold InR; omega
theorem m_finding (v : Int) (h : σ 212 6 ≤ 1000 ∧ 0 ≤ σ 212 6) : C0 X 1 47 [vr 212, vi v] σ (fun r σ' => r = some (vi v) ∧ σ' = st σ 212 6 (σ 212 6 + 1)) := by
  refine C0.intro md47 (by decide) rfl (by decide) (Nat.le_of_ble_eq_true rfl) ?_
  intro hin hav
  show S0 X _ 47 _ 0 [vr 212, vi v] [] _
  refine S0.run 47 md47 pp47 1 rfl rfl rfl 30 0 ?_
  simp only [ev_s, ev_hd, ev_sf, ev_hd0, ev_sf0, ev_0, ev_1, ev_34, ev_li, ev_lr, ev_lx, ev_2, ev_35, ev_3, ev_4, ev_b0, ev_b1, ev_b2, ev_b3, ev_b4, ev_b5, ev_b6, ev_b7, ev_b8, ev_b9, ev_b10, ev_5, ev_6, ev_c0, ev_c1, ev_c2, ev_c3, ev_c4, ev_c5, ev_7, ev_8, ev_9, ev_33, ev_11, ev_12, ev_12x, ev_13, ev_14, ev_15, ev_16, ev_18, ev_18x, ev_22, ev_23, ev_24, ev_32, ev_25, ev_26, ev_27, ev_28, ev_31, ev_w1, ev_w2, ev_p1, ev_p2, ev_p3, ev_p4, ev_p5, ev_p6, ev_p0, ev_n0, ev_n1, ev_n2, ev_n3, ev_n4, ev_n5, ev_n6, ev_n7, ev_m0, ev_m1, ev_m2, ev_m3, ev_m4, ev_m5, ev_m6, ev_m7, ev_r0, ev_r1, ev_r2, ev16, ev30, gf0_0, gf0_1, gf0_2, gf0_3, gf0_4, gf0_5, gf0_6, gf0_7, gf0_8, gf0_9, gf0_10, pf0_11, gf0_11, ic0, gf15_0, pf15_1, gf15_1, pf15_2, gf15_2, ic15, gf165_0, gf165_1, pf165_2, gf165_2, gf165_3, gf165_4, ic165, ar166, al166, ii166, ar167, al167, ii167, ar168, al168, ii168, gf171_0, pf171_1, gf171_1, pf171_2, gf171_2, gf171_3, ic171, ar172, al172, ii172, gf179_0, gf179_1, gf179_2, pf179_3, gf179_3, pf179_4, gf179_4, pf179_5, gf179_5, pf179_6, gf179_6, ic179, ar193, al193, ii193, gf197_0, gf197_1, gf197_2, ic197, ar207, al207, ii207, gf208_0, gf208_1, gf208_2, ic208, ar209, al209, ii209, ar210, al210, ii210, ar211, al211, ii211, gf212_0, gf212_1, pf212_2, gf212_2, gf212_3, gf212_4, gf212_5, pf212_6, gf212_6, pf212_7, gf212_7, gf212_8, pf212_9, gf212_9, gf212_10, gf212_11, gf212_12, gf212_13, pf212_14, gf212_14, gf212_15, gf212_16, gf212_17, pf212_18, gf212_18, gf212_19, gf212_20, gf212_21, gf212_22, gf212_23, ic212, ar213, al213, ii213, ar214, al214, ii214, ar215, al215, ii215, ar216, al216, ii216, ar217, al217, ii217, ar218, al218, ii218, ar219, al219, ar220, al220, ar221, al221, ar222, al222, ii222, ar223, al223, ii223, ar224, al224, ii224, ar225, al225, ar226, al226, ii226, ar227, al227, ii227, ar228, al228, ii228, ar229, al229, ar230, al230, ii230, cond_true, cond_false, true_and, and_true, Int.cast_ofNat_Int, Nat.reduceLT, Nat.reduceLeDiff, Nat.reduceBEq, Int.reduceLT, Int.reduceLE, Int.reduceEq, Int.reduceAdd, Nat.reduceEqDiff, not_true_eq_false, not_false_eq_true, false_implies, forall_const, eq_self, Nat.reduceAdd, Option.toList_some, Option.toList_none, List.cons_append, List.nil_append, List.length_cons, List.length_nil, Bool.false_eq_true, reduceCtorEq, true_or, or_true, false_or, or_false, Int.reduceNeg, implies_true, true_implies, xl1, xl2, xl3, xf1, xf2, xf3, p47_0, sq47_0]
  unfold InR; omega
theorem c_keep (hM : MzC σ 1 M) (hP : PastC σ c P) : C0 X 2 140 [vr 15, vr 1] σ (fun r σ' => r = none ∧ PastC σ' (kpc c) (kpP c P M) ∧ Fr 15 156 σ σ') := by
  obtain ⟨p1, p2, p3, p4⟩ := hP
  refine C0.intro md140 (by decide) rfl (by decide) (Nat.le_of_ble_eq_true rfl) ?_
  intro hin hav
  show S0 X _ 140 _ 0 [vr 15, vr 1] [] _
  have hq : 0 ≤ (σ 15 1 + σ 15 2) % 20 ∧ (σ 15 1 + σ 15 2) % 20 < 20 := by omega
  have hz := is_past ((σ 15 1 + σ 15 2) % 20).toNat (by omega)
  refine S0.run 140 md140 pp140 0 rfl rfl rfl 60 0 ?_
  simp only [ev_s, ev_hd, ev_sf, ev_hd0, ev_sf0, ev_0, ev_1, ev_34, ev_li, ev_lr, ev_lx, ev_2, ev_35, ev_3, ev_4, ev_b0, ev_b1, ev_b2, ev_b3, ev_b4, ev_b5, ev_b6, ev_b7, ev_b8, ev_b9, ev_b10, ev_5, ev_6, ev_c0, ev_c1, ev_c2, ev_c3, ev_c4, ev_c5, ev_7, ev_8, ev_9, ev_33, ev_11, ev_12, ev_12x, ev_13, ev_14, ev_15, ev_16, ev_18, ev_18x, ev_22, ev_23, ev_24, ev_32, ev_25, ev_26, ev_27, ev_28, ev_31, ev_w1, ev_w2, ev_p1, ev_p2, ev_p3, ev_p4, ev_p5, ev_p6, ev_p0, ev_n0, ev_n1, ev_n2, ev_n3, ev_n4, ev_n5, ev_n6, ev_n7, ev_m0, ev_m1, ev_m2, ev_m3, ev_m4, ev_m5, ev_m6, ev_m7, ev_r0, ev_r1, ev_r2, ev16, ev30, gf0_0, gf0_1, gf0_2, gf0_3, gf0_4, gf0_5, gf0_6, gf0_7, gf0_8, gf0_9, gf0_10, pf0_11, gf0_11, ic0, gf15_0, pf15_1, gf15_1, pf15_2, gf15_2, ic15, gf165_0, gf165_1, pf165_2, gf165_2, gf165_3, gf165_4, ic165, ar166, al166, ii166, ar167, al167, ii167, ar168, al168, ii168, gf171_0, pf171_1, gf171_1, pf171_2, gf171_2, gf171_3, ic171, ar172, al172, ii172, gf179_0, gf179_1, gf179_2, pf179_3, gf179_3, pf179_4, gf179_4, pf179_5, gf179_5, pf179_6, gf179_6, ic179, ar193, al193, ii193, gf197_0, gf197_1, gf197_2, ic197, ar207, al207, ii207, gf208_0, gf208_1, gf208_2, ic208, ar209, al209, ii209, ar210, al210, ii210, ar211, al211, ii211, gf212_0, gf212_1, pf212_2, gf212_2, gf212_3, gf212_4, gf212_5, pf212_6, gf212_6, pf212_7, gf212_7, gf212_8, pf212_9, gf212_9, gf212_10, gf212_11, gf212_12, gf212_13, pf212_14, gf212_14, gf212_15, gf212_16, gf212_17, pf212_18, gf212_18, gf212_19, gf212_20, gf212_21, gf212_22, gf212_23, ic212, ar213, al213, ii213, ar214, al214, ii214, ar215, al215, ii215, ar216, al216, ii216, ar217, al217, ii217, ar218, al218, ii218, ar219, al219, ar220, al220, ar221, al221, ar222, al222, ii222, ar223, al223, ii223, ar224, al224, ii224, ar225, al225, ar226, al226, ii226, ar227, al227, ii227, ar228, al228, ii228, ar229, al229, ar230, al230, ii230, cond_true, cond_false, true_and, and_true, Int.cast_ofNat_Int, Nat.reduceLT, Nat.reduceLeDiff, Nat.reduceBEq, Int.reduceLT, Int.reduceLE, Int.reduceEq, Int.reduceAdd, Nat.reduceEqDiff, not_true_eq_false, not_false_eq_true, false_implies, forall_const, eq_self, Nat.reduceAdd, Option.toList_some, Option.toList_none, List.cons_append, List.nil_append, List.length_cons, List.length_nil, Bool.false_eq_true, reduceCtorEq, true_or, or_true, false_or, or_false, Int.reduceNeg, implies_true, true_implies, xl1, xl2, xl3, xf1, xf2, xf3, p140_0, p140_43, p140_56, sq140_0, sq140_43, sq140_56, pfmz_0 hz, gfmz_0 hz, pfmz_1 hz, gfmz_1 hz, gfmz_2 hz, gfmz_3 hz, gfmz_4 hz, pfmz_5 hz, gfmz_5 hz, gfmz_6 hz, gfmz_7 hz, gfmz_8 hz, icmz hz, armz1 hz, almz1 hz, armz2 hz, almz2 hz, armz3 hz, almz3 hz, armz4 hz, almz4 hz, armz5 hz, almz5 hz, armz6 hz, almz6 hz, iimz1 hz, iimz2 hz, iimz3 hz, iimz4 hz, iimz5 hz, iimz6 hz]
  repeat (refine And.intro (by (try unfold InR); omega) ?_)
  refine K0.use (c_become 1 hz ismz1 hM (by omega)) (by decide) (Nat.le_of_ble_eq_true rfl) (fun r σ1 hi hv hq1 => ?_)
  obtain ⟨rfl, q1, q2⟩ := hq1
  have f15 : σ1 15 = σ 15 := q2 15 (by omega)
  have g1 : σ1 15 1 = σ 15 1 := by rw [f15]
  have g2 : σ1 15 2 = c := by rw [f15]; exact p1
  refine S0.run 140 md140 pp140 0 rfl rfl rfl 60 21 ?_
  simp only [ev_s, ev_hd, ev_sf, ev_hd0, ev_sf0, ev_0, ev_1, ev_34, ev_li, ev_lr, ev_lx, ev_2, ev_35, ev_3, ev_4, ev_b0, ev_b1, ev_b2, ev_b3, ev_b4, ev_b5, ev_b6, ev_b7, ev_b8, ev_b9, ev_b10, ev_5, ev_6, ev_c0, ev_c1, ev_c2, ev_c3, ev_c4, ev_c5, ev_7, ev_8, ev_9, ev_33, ev_11, ev_12, ev_12x, ev_13, ev_14, ev_15, ev_16, ev_18, ev_18x, ev_22, ev_23, ev_24, ev_32, ev_25, ev_26, ev_27, ev_28, ev_31, ev_w1, ev_w2, ev_p1, ev_p2, ev_p3, ev_p4, ev_p5, ev_p6, ev_p0, ev_n0, ev_n1, ev_n2, ev_n3, ev_n4, ev_n5, ev_n6, ev_n7, ev_m0, ev_m1, ev_m2, ev_m3, ev_m4, ev_m5, ev_m6, ev_m7, ev_r0, ev_r1, ev_r2, ev16, ev30, gf0_0, gf0_1, gf0_2, gf0_3, gf0_4, gf0_5, gf0_6, gf0_7, gf0_8, gf0_9, gf0_10, pf0_11, gf0_11, ic0, gf15_0, pf15_1, gf15_1, pf15_2, gf15_2, ic15, gf165_0, gf165_1, pf165_2, gf165_2, gf165_3, gf165_4, ic165, ar166, al166, ii166, ar167, al167, ii167, ar168, al168, ii168, gf171_0, pf171_1, gf171_1, pf171_2, gf171_2, gf171_3, ic171, ar172, al172, ii172, gf179_0, gf179_1, gf179_2, pf179_3, gf179_3, pf179_4, gf179_4, pf179_5, gf179_5, pf179_6, gf179_6, ic179, ar193, al193, ii193, gf197_0, gf197_1, gf197_2, ic197, ar207, al207, ii207, gf208_0, gf208_1, gf208_2, ic208, ar209, al209, ii209, ar210, al210, ii210, ar211, al211, ii211, gf212_0, gf212_1, pf212_2, gf212_2, gf212_3, gf212_4, gf212_5, pf212_6, gf212_6, pf212_7, gf212_7, gf212_8, pf212_9, gf212_9, gf212_10, gf212_11, gf212_12, gf212_13, pf212_14, gf212_14, gf212_15, gf212_16, gf212_17, pf212_18, gf212_18, gf212_19, gf212_20, gf212_21, gf212_22, gf212_23, ic212, ar213, al213, ii213, ar214, al214, ii214, ar215, al215, ii215, ar216, al216, ii216, ar217, al217, ii217, ar218, al218, ii218, ar219, al219, ar220, al220, ar221, al221, ar222, al222, ii222, ar223, al223, ii223, ar224, al224, ii224, ar225, al225, ar226, al226, ii226, ar227, al227, ii227, ar228, al228, ii228, ar229, al229, ar230, al230, ii230, cond_true, cond_false, true_and, and_true, Int.cast_ofNat_Int, Nat.reduceLT, Nat.reduceLeDiff, Nat.reduceBEq, Int.reduceLT, Int.reduceLE, Int.reduceEq, Int.reduceAdd, Nat.reduceEqDiff, not_true_eq_false, not_false_eq_true, false_implies, forall_const, eq_self, Nat.reduceAdd, Option.toList_some, Option.toList_none, List.cons_append, List.nil_append, List.length_cons, List.length_nil, Bool.false_eq_true, reduceCtorEq, true_or, or_true, false_or, or_false, Int.reduceNeg, implies_true, true_implies, xl1, xl2, xl3, xf1, xf2, xf3, p140_0, p140_43, p140_56, sq140_0, sq140_43, sq140_56, sq140_21, g1, g2]
  have hF : Fr 15 156 σ σ1 := q2.wide (by omega) (by omega)
  refine ⟨fun hc => ?_, fun hc => ?_⟩
  · have hc20 : c = 20 := by omega
    repeat (refine And.intro (by (try unfold InR); omega) ?_)
    refine ⟨⟨?_, ?_, ?_, ?_⟩, fr_st2 hF (by omega) (by omega)⟩
    · show st σ1 15 1 _ 15 2 = _
      unfold st kpc
      rw [if_neg (by omega), if_pos hc20, g2, hc20]
    · have : st σ1 15 1 ((σ 15 1 + 1) % 20) 15 1 = (σ 15 1 + 1) % 20 := by unfold st; rw [if_pos ⟨rfl, rfl⟩]
      rw [this]
      omega
    · unfold kpc; rw [if_pos hc20]; omega
    · intro i h0 h1
      have e1 : st σ1 15 1 ((σ 15 1 + 1) % 20) 15 1 = (σ 15 1 + 1) % 20 := by unfold st; rw [if_pos ⟨rfl, rfl⟩]
      rw [e1]
      unfold kpc at h1
      rw [if_pos hc20] at h1
      unfold kpP
      rw [if_pos hc20]
      by_cases hi : i = 19
      · rw [if_pos hi]
        have e2 : ((σ 15 1 + 1) % 20 + i) % 20 = (σ 15 1 + σ 15 2) % 20 := by rw [p1, hc20, hi]; omega
        rw [e2]
        exact q1.fr (lo := 15) (hi := 15) (Fr.st (by omega) (by omega)) (by omega)
      · rw [if_neg hi]
        have e2 : ((σ 15 1 + 1) % 20 + i) % 20 = (σ 15 1 + (i + 1)) % 20 := by omega
        rw [e2]
        refine (((p4 (i + 1) (by omega) (by omega)).fr q2 ?_)).fr (lo := 15) (hi := 15) (Fr.st (by omega) (by omega)) (by omega)
        rw [p1, hc20]
        omega
  · repeat (refine And.intro (by (try unfold InR); omega) ?_)
    refine ⟨⟨?_, ?_, ?_, ?_⟩, fr_st2 hF (by omega) (by omega)⟩
    · show st σ1 15 2 _ 15 2 = _
      unfold st kpc
      rw [if_pos ⟨rfl, rfl⟩, if_neg (by omega)]
    · have : st σ1 15 2 (c + 1) 15 1 = σ 15 1 := by unfold st; rw [if_neg (by omega), g1]
      rw [this]
      exact p2
    · unfold kpc; rw [if_neg (by omega)]; omega
    · intro i h0 h1
      have e1 : st σ1 15 2 (c + 1) 15 1 = σ 15 1 := by unfold st; rw [if_neg (by omega), g1]
      rw [e1]
      unfold kpc at h1
      rw [if_neg (by omega)] at h1
      unfold kpP
      rw [if_neg (by omega)]
      by_cases hi : i = c
      · rw [if_pos hi]
        have e2 : (σ 15 1 + i) % 20 = (σ 15 1 + σ 15 2) % 20 := by rw [p1, hi]
        rw [e2]
        exact q1.fr (lo := 15) (hi := 15) (Fr.st (by omega) (by omega)) (by omega)
      · rw [if_neg hi]
        refine (((p4 i (by omega) (by omega)).fr q2 ?_)).fr (lo := 15) (hi := 15) (Fr.st (by omega) (by omega)) (by omega)
        rw [p1]
        omega
theorem c_restore (hP : PastC σ c P) (hc : 0 < c) : C0 X 2 141 [vr 15, vr 1] σ (fun r σ' => r = none ∧ MzC σ' 1 (P (c - 1)) ∧ PastC σ' (c - 1) P ∧ (∀ k, k = 0 ∨ (8 ≤ k ∧ k < 15) ∨ 157 ≤ k → σ' k = σ k)) := by
  obtain ⟨p1, p2, p3, p4⟩ := hP
  have hq : 0 ≤ (σ 15 1 + (c - 1)) % 20 ∧ (σ 15 1 + (c - 1)) % 20 < 20 := by omega
  have hz := is_past ((σ 15 1 + (c - 1)) % 20).toNat (by omega)
  have g1 : st σ 15 2 (c - 1) 15 1 = σ 15 1 := by unfold st; rw [if_neg (by omega)]
  have g2 : st σ 15 2 (c - 1) 15 2 = c - 1 := by unfold st; rw [if_pos ⟨rfl, rfl⟩]
  refine C0.intro md141 (by decide) rfl (by decide) (Nat.le_of_ble_eq_true rfl) ?_
  intro hin hav
  show S0 X _ 141 _ 0 [vr 15, vr 1] [] _
  refine S0.run 141 md141 pp141 0 rfl rfl rfl 60 0 ?_
  simp only [ev_s, ev_hd, ev_sf, ev_hd0, ev_sf0, ev_0, ev_1, ev_34, ev_li, ev_lr, ev_lx, ev_2, ev_35, ev_3, ev_4, ev_b0, ev_b1, ev_b2, ev_b3, ev_b4, ev_b5, ev_b6, ev_b7, ev_b8, ev_b9, ev_b10, ev_5, ev_6, ev_c0, ev_c1, ev_c2, ev_c3, ev_c4, ev_c5, ev_7, ev_8, ev_9, ev_33, ev_11, ev_12, ev_12x, ev_13, ev_14, ev_15, ev_16, ev_18, ev_18x, ev_22, ev_23, ev_24, ev_32, ev_25, ev_26, ev_27, ev_28, ev_31, ev_w1, ev_w2, ev_p1, ev_p2, ev_p3, ev_p4, ev_p5, ev_p6, ev_p0, ev_n0, ev_n1, ev_n2, ev_n3, ev_n4, ev_n5, ev_n6, ev_n7, ev_m0, ev_m1, ev_m2, ev_m3, ev_m4, ev_m5, ev_m6, ev_m7, ev_r0, ev_r1, ev_r2, ev16, ev30, gf0_0, gf0_1, gf0_2, gf0_3, gf0_4, gf0_5, gf0_6, gf0_7, gf0_8, gf0_9, gf0_10, pf0_11, gf0_11, ic0, gf15_0, pf15_1, gf15_1, pf15_2, gf15_2, ic15, gf165_0, gf165_1, pf165_2, gf165_2, gf165_3, gf165_4, ic165, ar166, al166, ii166, ar167, al167, ii167, ar168, al168, ii168, gf171_0, pf171_1, gf171_1, pf171_2, gf171_2, gf171_3, ic171, ar172, al172, ii172, gf179_0, gf179_1, gf179_2, pf179_3, gf179_3, pf179_4, gf179_4, pf179_5, gf179_5, pf179_6, gf179_6, ic179, ar193, al193, ii193, gf197_0, gf197_1, gf197_2, ic197, ar207, al207, ii207, gf208_0, gf208_1, gf208_2, ic208, ar209, al209, ii209, ar210, al210, ii210, ar211, al211, ii211, gf212_0, gf212_1, pf212_2, gf212_2, gf212_3, gf212_4, gf212_5, pf212_6, gf212_6, pf212_7, gf212_7, gf212_8, pf212_9, gf212_9, gf212_10, gf212_11, gf212_12, gf212_13, pf212_14, gf212_14, gf212_15, gf212_16, gf212_17, pf212_18, gf212_18, gf212_19, gf212_20, gf212_21, gf212_22, gf212_23, ic212, ar213, al213, ii213, ar214, al214, ii214, ar215, al215, ii215, ar216, al216, ii216, ar217, al217, ii217, ar218, al218, ii218, ar219, al219, ar220, al220, ar221, al221, ar222, al222, ii222, ar223, al223, ii223, ar224, al224, ii224, ar225, al225, ar226, al226, ii226, ar227, al227, ii227, ar228, al228, ii228, ar229, al229, ar230, al230, ii230, cond_true, cond_false, true_and, and_true, Int.cast_ofNat_Int, Nat.reduceLT, Nat.reduceLeDiff, Nat.reduceBEq, Int.reduceLT, Int.reduceLE, Int.reduceEq, Int.reduceAdd, Nat.reduceEqDiff, not_true_eq_false, not_false_eq_true, false_implies, forall_const, eq_self, Nat.reduceAdd, Option.toList_some, Option.toList_none, List.cons_append, List.nil_append, List.length_cons, List.length_nil, Bool.false_eq_true, reduceCtorEq, true_or, or_true, false_or, or_false, Int.reduceNeg, implies_true, true_implies, xl1, xl2, xl3, xf1, xf2, xf3, p141_0, p141_38, sq141_0, sq141_38, pfmz_0 ismz1, gfmz_0 ismz1, pfmz_1 ismz1, gfmz_1 ismz1, gfmz_2 ismz1, gfmz_3 ismz1, gfmz_4 ismz1, pfmz_5 ismz1, gfmz_5 ismz1, gfmz_6 ismz1, gfmz_7 ismz1, gfmz_8 ismz1, icmz ismz1, armz1 ismz1, almz1 ismz1, armz2 ismz1, almz2 ismz1, armz3 ismz1, almz3 ismz1, armz4 ismz1, almz4 ismz1, armz5 ismz1, almz5 ismz1, armz6 ismz1, almz6 ismz1, iimz1 ismz1, iimz2 ismz1, iimz3 ismz1, iimz4 ismz1, iimz5 ismz1, iimz6 ismz1, p1, g1, g2]
  refine ⟨fun q => by omega, fun _ => ?_⟩
  repeat (refine And.intro (by (try unfold InR); omega) ?_)
  have hM1 : MzC (st σ 15 2 (c - 1)) (17 + 7 * ((σ 15 1 + (c - 1)) % 20).toNat) (P (c - 1)) := (p4 (c - 1) (by omega) (by omega)).fr (lo := 15) (hi := 15) (Fr.st (by omega) (by omega)) (by omega)
  refine K0.use (c_become _ ismz1 hz hM1 (by omega)) (by decide) (Nat.le_of_ble_eq_true rfl) (fun r σ1 hi hv hq1 => ?_)
  obtain ⟨rfl, q1, q2⟩ := hq1
  have f15 : σ1 15 = st σ 15 2 (c - 1) 15 := q2 15 (by omega)
  refine S0.run 141 md141 pp141 0 rfl rfl rfl 20 38 ?_
  simp only [ev_s, ev_hd, ev_sf, ev_hd0, ev_sf0, ev_0, ev_1, ev_34, ev_li, ev_lr, ev_lx, ev_2, ev_35, ev_3, ev_4, ev_b0, ev_b1, ev_b2, ev_b3, ev_b4, ev_b5, ev_b6, ev_b7, ev_b8, ev_b9, ev_b10, ev_5, ev_6, ev_c0, ev_c1, ev_c2, ev_c3, ev_c4, ev_c5, ev_7, ev_8, ev_9, ev_33, ev_11, ev_12, ev_12x, ev_13, ev_14, ev_15, ev_16, ev_18, ev_18x, ev_22, ev_23, ev_24, ev_32, ev_25, ev_26, ev_27, ev_28, ev_31, ev_w1, ev_w2, ev_p1, ev_p2, ev_p3, ev_p4, ev_p5, ev_p6, ev_p0, ev_n0, ev_n1, ev_n2, ev_n3, ev_n4, ev_n5, ev_n6, ev_n7, ev_m0, ev_m1, ev_m2, ev_m3, ev_m4, ev_m5, ev_m6, ev_m7, ev_r0, ev_r1, ev_r2, ev16, ev30, gf0_0, gf0_1, gf0_2, gf0_3, gf0_4, gf0_5, gf0_6, gf0_7, gf0_8, gf0_9, gf0_10, pf0_11, gf0_11, ic0, gf15_0, pf15_1, gf15_1, pf15_2, gf15_2, ic15, gf165_0, gf165_1, pf165_2, gf165_2, gf165_3, gf165_4, ic165, ar166, al166, ii166, ar167, al167, ii167, ar168, al168, ii168, gf171_0, pf171_1, gf171_1, pf171_2, gf171_2, gf171_3, ic171, ar172, al172, ii172, gf179_0, gf179_1, gf179_2, pf179_3, gf179_3, pf179_4, gf179_4, pf179_5, gf179_5, pf179_6, gf179_6, ic179, ar193, al193, ii193, gf197_0, gf197_1, gf197_2, ic197, ar207, al207, ii207, gf208_0, gf208_1, gf208_2, ic208, ar209, al209, ii209, ar210, al210, ii210, ar211, al211, ii211, gf212_0, gf212_1, pf212_2, gf212_2, gf212_3, gf212_4, gf212_5, pf212_6, gf212_6, pf212_7, gf212_7, gf212_8, pf212_9, gf212_9, gf212_10, gf212_11, gf212_12, gf212_13, pf212_14, gf212_14, gf212_15, gf212_16, gf212_17, pf212_18, gf212_18, gf212_19, gf212_20, gf212_21, gf212_22, gf212_23, ic212, ar213, al213, ii213, ar214, al214, ii214, ar215, al215, ii215, ar216, al216, ii216, ar217, al217, ii217, ar218, al218, ii218, ar219, al219, ar220, al220, ar221, al221, ar222, al222, ii222, ar223, al223, ii223, ar224, al224, ii224, ar225, al225, ar226, al226, ii226, ar227, al227, ii227, ar228, al228, ii228, ar229, al229, ar230, al230, ii230, cond_true, cond_false, true_and, and_true, Int.cast_ofNat_Int, Nat.reduceLT, Nat.reduceLeDiff, Nat.reduceBEq, Int.reduceLT, Int.reduceLE, Int.reduceEq, Int.reduceAdd, Nat.reduceEqDiff, not_true_eq_false, not_false_eq_true, false_implies, forall_const, eq_self, Nat.reduceAdd, Option.toList_some, Option.toList_none, List.cons_append, List.nil_append, List.length_cons, List.length_nil, Bool.false_eq_true, reduceCtorEq, true_or, or_true, false_or, or_false, Int.reduceNeg, implies_true, true_implies, xl1, xl2, xl3, xf1, xf2, xf3, p141_0, p141_38, sq141_0, sq141_38]
  refine ⟨q1, ⟨by rw [f15]; exact g2, by rw [f15, g1]; exact p2, by omega, fun i h0 h1 => ?_⟩, fun k hk => ?_⟩
  · rw [f15, g1]
    exact ((p4 i h0 (by omega)).fr (lo := 15) (hi := 15) (Fr.st (σ := σ) (k := 15) (i := 2) (x := c - 1) (by omega) (by omega)) (by omega)).fr q2 (by omega)
  · rw [q2 k (by omega), st_off _ _ _ (by omega)]
theorem m_keep (hM : MzR σ M) (hP : PastR σ c P) : C0 X 1 54 [vr 212] σ (fun r σ' => r = none ∧ PastR σ' (kpc c) (kpP c P M) ∧ (∀ k, k ≠ 212 → k ≠ 214 → σ' k = σ k) ∧ ∀ j, j ≠ 2 → σ' 212 j = σ 212 j) := by
  obtain ⟨p1, p2, p3⟩ := hP
  refine C0.intro md54 (by decide) rfl (by decide) (Nat.le_of_ble_eq_true rfl) ?_
  intro hin hav
  show S0 X _ 54 _ 0 [vr 212, vx 9] [] _
  -- the copy, behind the shift: the place b is where it goes
  have loop2 : ∀ (n : Nat) (i b : Int) (σ1 : Sg), 0 ≤ i → i + n = 265 → 0 ≤ b → b < 20 → σ1 212 2 = b → b + 1 = kpc c → (∀ k, k ≠ 212 → k ≠ 214 → σ1 k = σ k) → (∀ j, j ≠ 2 → σ1 212 j = σ 212 j) → (∀ q j, 0 ≤ q → q < b → 0 ≤ j → j < 265 → σ1 214 (265 * q + j) = kpP c P M q j) → (∀ j, 0 ≤ j → j < i → σ1 214 (265 * b + j) = M j) → (∀ j, kpP c P M b j = M j) → S0 X 1 54 (fun r σ' => r = none ∧ PastR σ' (kpc c) (kpP c P M) ∧ (∀ k, k ≠ 212 → k ≠ 214 → σ' k = σ k) ∧ ∀ j, j ≠ 2 → σ' 212 j = σ 212 j) 52 [vr 212, vi i] [] σ1 := by
    intro n
    induction n with
    | zero =>
      intro i b σ1 h0 h1 h2 h3 e2 ek hf hg hq hn hb
      refine S0.run 54 md54 pp54 0 rfl rfl rfl 60 52 ?_
      simp only [ev_s, ev_hd, ev_sf, ev_hd0, ev_sf0, ev_0, ev_1, ev_34, ev_li, ev_lr, ev_lx, ev_2, ev_35, ev_3, ev_4, ev_b0, ev_b1, ev_b2, ev_b3, ev_b4, ev_b5, ev_b6, ev_b7, ev_b8, ev_b9, ev_b10, ev_5, ev_6, ev_c0, ev_c1, ev_c2, ev_c3, ev_c4, ev_c5, ev_7, ev_8, ev_9, ev_33, ev_11, ev_12, ev_12x, ev_13, ev_14, ev_15, ev_16, ev_18, ev_18x, ev_22, ev_23, ev_24, ev_32, ev_25, ev_26, ev_27, ev_28, ev_31, ev_w1, ev_w2, ev_p1, ev_p2, ev_p3, ev_p4, ev_p5, ev_p6, ev_p0, ev_n0, ev_n1, ev_n2, ev_n3, ev_n4, ev_n5, ev_n6, ev_n7, ev_m0, ev_m1, ev_m2, ev_m3, ev_m4, ev_m5, ev_m6, ev_m7, ev_r0, ev_r1, ev_r2, ev16, ev30, gf0_0, gf0_1, gf0_2, gf0_3, gf0_4, gf0_5, gf0_6, gf0_7, gf0_8, gf0_9, gf0_10, pf0_11, gf0_11, ic0, gf15_0, pf15_1, gf15_1, pf15_2, gf15_2, ic15, gf165_0, gf165_1, pf165_2, gf165_2, gf165_3, gf165_4, ic165, ar166, al166, ii166, ar167, al167, ii167, ar168, al168, ii168, gf171_0, pf171_1, gf171_1, pf171_2, gf171_2, gf171_3, ic171, ar172, al172, ii172, gf179_0, gf179_1, gf179_2, pf179_3, gf179_3, pf179_4, gf179_4, pf179_5, gf179_5, pf179_6, gf179_6, ic179, ar193, al193, ii193, gf197_0, gf197_1, gf197_2, ic197, ar207, al207, ii207, gf208_0, gf208_1, gf208_2, ic208, ar209, al209, ii209, ar210, al210, ii210, ar211, al211, ii211, gf212_0, gf212_1, pf212_2, gf212_2, gf212_3, gf212_4, gf212_5, pf212_6, gf212_6, pf212_7, gf212_7, gf212_8, pf212_9, gf212_9, gf212_10, gf212_11, gf212_12, gf212_13, pf212_14, gf212_14, gf212_15, gf212_16, gf212_17, pf212_18, gf212_18, gf212_19, gf212_20, gf212_21, gf212_22, gf212_23, ic212, ar213, al213, ii213, ar214, al214, ii214, ar215, al215, ii215, ar216, al216, ii216, ar217, al217, ii217, ar218, al218, ii218, ar219, al219, ar220, al220, ar221, al221, ar222, al222, ii222, ar223, al223, ii223, ar224, al224, ii224, ar225, al225, ar226, al226, ii226, ar227, al227, ii227, ar228, al228, ii228, ar229, al229, ar230, al230, ii230, cond_true, cond_false, true_and, and_true, Int.cast_ofNat_Int, Nat.reduceLT, Nat.reduceLeDiff, Nat.reduceBEq, Int.reduceLT, Int.reduceLE, Int.reduceEq, Int.reduceAdd, Nat.reduceEqDiff, not_true_eq_false, not_false_eq_true, false_implies, forall_const, eq_self, Nat.reduceAdd, Option.toList_some, Option.toList_none, List.cons_append, List.nil_append, List.length_cons, List.length_nil, Bool.false_eq_true, reduceCtorEq, true_or, or_true, false_or, or_false, Int.reduceNeg, implies_true, true_implies, xl1, xl2, xl3, xf1, xf2, xf3, p54_0, p54_11, p54_40, p54_50, p54_52, p54_86, sq54_0, sq54_11, sq54_40, sq54_50, sq54_52, sq54_86, e2]
      refine ⟨fun _ => ?_, fun q => by omega⟩
      repeat (refine And.intro (by (try unfold InR); omega) ?_)
      refine ⟨⟨?_, by omega, fun q j a1 a2 a3 a4 => ?_⟩, fun k a1 a2 => ?_, fun j a1 => ?_⟩
      · unfold st; rw [if_pos ⟨rfl, rfl⟩]; exact ek
      · rw [st_off _ _ _ (by omega)]
        by_cases hqb : q < b
        · exact hq q j a1 hqb a3 a4
        · have : q = b := by omega
          subst this
          rw [hb]
          exact hn j a3 (by omega)
      · rw [st_off _ _ _ a1]; exact hf k a1 a2
      · unfold st; rw [if_neg (fun w => a1 w.2)]; exact hg j a1
    | succ n ih =>
      intro i b σ1 h0 h1 h2 h3 e2 ek hf hg hq hn hb
      have e3 : σ1 213 i = M i := by rw [hf 213 (by omega) (by omega)]; exact hM i h0 (by omega)
      refine S0.run 54 md54 pp54 0 rfl rfl rfl 60 52 ?_
      simp only [ev_s, ev_hd, ev_sf, ev_hd0, ev_sf0, ev_0, ev_1, ev_34, ev_li, ev_lr, ev_lx, ev_2, ev_35, ev_3, ev_4, ev_b0, ev_b1, ev_b2, ev_b3, ev_b4, ev_b5, ev_b6, ev_b7, ev_b8, ev_b9, ev_b10, ev_5, ev_6, ev_c0, ev_c1, ev_c2, ev_c3, ev_c4, ev_c5, ev_7, ev_8, ev_9, ev_33, ev_11, ev_12, ev_12x, ev_13, ev_14, ev_15, ev_16, ev_18, ev_18x, ev_22, ev_23, ev_24, ev_32, ev_25, ev_26, ev_27, ev_28, ev_31, ev_w1, ev_w2, ev_p1, ev_p2, ev_p3, ev_p4, ev_p5, ev_p6, ev_p0, ev_n0, ev_n1, ev_n2, ev_n3, ev_n4, ev_n5, ev_n6, ev_n7, ev_m0, ev_m1, ev_m2, ev_m3, ev_m4, ev_m5, ev_m6, ev_m7, ev_r0, ev_r1, ev_r2, ev16, ev30, gf0_0, gf0_1, gf0_2, gf0_3, gf0_4, gf0_5, gf0_6, gf0_7, gf0_8, gf0_9, gf0_10, pf0_11, gf0_11, ic0, gf15_0, pf15_1, gf15_1, pf15_2, gf15_2, ic15, gf165_0, gf165_1, pf165_2, gf165_2, gf165_3, gf165_4, ic165, ar166, al166, ii166, ar167, al167, ii167, ar168, al168, ii168, gf171_0, pf171_1, gf171_1, pf171_2, gf171_2, gf171_3, ic171, ar172, al172, ii172, gf179_0, gf179_1, gf179_2, pf179_3, gf179_3, pf179_4, gf179_4, pf179_5, gf179_5, pf179_6, gf179_6, ic179, ar193, al193, ii193, gf197_0, gf197_1, gf197_2, ic197, ar207, al207, ii207, gf208_0, gf208_1, gf208_2, ic208, ar209, al209, ii209, ar210, al210, ii210, ar211, al211, ii211, gf212_0, gf212_1, pf212_2, gf212_2, gf212_3, gf212_4, gf212_5, pf212_6, gf212_6, pf212_7, gf212_7, gf212_8, pf212_9, gf212_9, gf212_10, gf212_11, gf212_12, gf212_13, pf212_14, gf212_14, gf212_15, gf212_16, gf212_17, pf212_18, gf212_18, gf212_19, gf212_20, gf212_21, gf212_22, gf212_23, ic212, ar213, al213, ii213, ar214, al214, ii214, ar215, al215, ii215, ar216, al216, ii216, ar217, al217, ii217, ar218, al218, ii218, ar219, al219, ar220, al220, ar221, al221, ar222, al222, ii222, ar223, al223, ii223, ar224, al224, ii224, ar225, al225, ar226, al226, ii226, ar227, al227, ii227, ar228, al228, ii228, ar229, al229, ar230, al230, ii230, cond_true, cond_false, true_and, and_true, Int.cast_ofNat_Int, Nat.reduceLT, Nat.reduceLeDiff, Nat.reduceBEq, Int.reduceLT, Int.reduceLE, Int.reduceEq, Int.reduceAdd, Nat.reduceEqDiff, not_true_eq_false, not_false_eq_true, false_implies, forall_const, eq_self, Nat.reduceAdd, Option.toList_some, Option.toList_none, List.cons_append, List.nil_append, List.length_cons, List.length_nil, Bool.false_eq_true, reduceCtorEq, true_or, or_true, false_or, or_false, Int.reduceNeg, implies_true, true_implies, xl1, xl2, xl3, xf1, xf2, xf3, p54_0, p54_11, p54_40, p54_50, p54_52, p54_86, sq54_0, sq54_11, sq54_40, sq54_50, sq54_52, sq54_86, e2, e3]
      refine ⟨fun q => by omega, fun _ => ?_⟩
      repeat (refine And.intro (by (try unfold InR); omega) ?_)
      refine ih (i + 1) b _ (by omega) (by omega) h2 h3 (by rw [st_off _ _ _ (by omega)]; exact e2) ek (fun k a1 a2 => by rw [st_off _ _ _ a2]; exact hf k a1 a2) (fun j a1 => by rw [st_off _ _ _ (by omega)]; exact hg j a1) (fun q j a1 a2 a3 a4 => ?_) (fun j a1 a2 => ?_) hb
      · unfold st
        rw [if_neg (by omega)]
        exact hq q j a1 a2 a3 a4
      · unfold st
        by_cases hj : j = i
        · rw [if_pos ⟨rfl, by rw [hj]⟩, hj]
        · rw [if_neg (by omega)]
          exact hn j a1 (by omega)
  have loop1 : ∀ (n : Nat) (i : Int) (σ1 : Sg), c = 20 → 0 ≤ i → i + n = 5035 → (∀ k, k ≠ 214 → σ1 k = σ k) → (∀ j, 0 ≤ j → j < i → σ1 214 j = σ 214 (j + 265)) → (∀ j, i ≤ j → σ1 214 j = σ 214 j) → S0 X 1 54 (fun r σ' => r = none ∧ PastR σ' (kpc c) (kpP c P M) ∧ (∀ k, k ≠ 212 → k ≠ 214 → σ' k = σ k) ∧ ∀ j, j ≠ 2 → σ' 212 j = σ 212 j) 11 [vr 212, vi i] [] σ1 := by
    intro n
    induction n with
    | zero =>
      intro i σ1 hc h0 h1 hf h3 h4
      have e2 : σ1 212 2 = 20 := by rw [hf 212 (by omega), p1, hc]
      refine S0.run 54 md54 pp54 0 rfl rfl rfl 60 11 ?_
      simp only [ev_s, ev_hd, ev_sf, ev_hd0, ev_sf0, ev_0, ev_1, ev_34, ev_li, ev_lr, ev_lx, ev_2, ev_35, ev_3, ev_4, ev_b0, ev_b1, ev_b2, ev_b3, ev_b4, ev_b5, ev_b6, ev_b7, ev_b8, ev_b9, ev_b10, ev_5, ev_6, ev_c0, ev_c1, ev_c2, ev_c3, ev_c4, ev_c5, ev_7, ev_8, ev_9, ev_33, ev_11, ev_12, ev_12x, ev_13, ev_14, ev_15, ev_16, ev_18, ev_18x, ev_22, ev_23, ev_24, ev_32, ev_25, ev_26, ev_27, ev_28, ev_31, ev_w1, ev_w2, ev_p1, ev_p2, ev_p3, ev_p4, ev_p5, ev_p6, ev_p0, ev_n0, ev_n1, ev_n2, ev_n3, ev_n4, ev_n5, ev_n6, ev_n7, ev_m0, ev_m1, ev_m2, ev_m3, ev_m4, ev_m5, ev_m6, ev_m7, ev_r0, ev_r1, ev_r2, ev16, ev30, gf0_0, gf0_1, gf0_2, gf0_3, gf0_4, gf0_5, gf0_6, gf0_7, gf0_8, gf0_9, gf0_10, pf0_11, gf0_11, ic0, gf15_0, pf15_1, gf15_1, pf15_2, gf15_2, ic15, gf165_0, gf165_1, pf165_2, gf165_2, gf165_3, gf165_4, ic165, ar166, al166, ii166, ar167, al167, ii167, ar168, al168, ii168, gf171_0, pf171_1, gf171_1, pf171_2, gf171_2, gf171_3, ic171, ar172, al172, ii172, gf179_0, gf179_1, gf179_2, pf179_3, gf179_3, pf179_4, gf179_4, pf179_5, gf179_5, pf179_6, gf179_6, ic179, ar193, al193, ii193, gf197_0, gf197_1, gf197_2, ic197, ar207, al207, ii207, gf208_0, gf208_1, gf208_2, ic208, ar209, al209, ii209, ar210, al210, ii210, ar211, al211, ii211, gf212_0, gf212_1, pf212_2, gf212_2, gf212_3, gf212_4, gf212_5, pf212_6, gf212_6, pf212_7, gf212_7, gf212_8, pf212_9, gf212_9, gf212_10, gf212_11, gf212_12, gf212_13, pf212_14, gf212_14, gf212_15, gf212_16, gf212_17, pf212_18, gf212_18, gf212_19, gf212_20, gf212_21, gf212_22, gf212_23, ic212, ar213, al213, ii213, ar214, al214, ii214, ar215, al215, ii215, ar216, al216, ii216, ar217, al217, ii217, ar218, al218, ii218, ar219, al219, ar220, al220, ar221, al221, ar222, al222, ii222, ar223, al223, ii223, ar224, al224, ii224, ar225, al225, ar226, al226, ii226, ar227, al227, ii227, ar228, al228, ii228, ar229, al229, ar230, al230, ii230, cond_true, cond_false, true_and, and_true, Int.cast_ofNat_Int, Nat.reduceLT, Nat.reduceLeDiff, Nat.reduceBEq, Int.reduceLT, Int.reduceLE, Int.reduceEq, Int.reduceAdd, Nat.reduceEqDiff, not_true_eq_false, not_false_eq_true, false_implies, forall_const, eq_self, Nat.reduceAdd, Option.toList_some, Option.toList_none, List.cons_append, List.nil_append, List.length_cons, List.length_nil, Bool.false_eq_true, reduceCtorEq, true_or, or_true, false_or, or_false, Int.reduceNeg, implies_true, true_implies, xl1, xl2, xl3, xf1, xf2, xf3, p54_0, p54_11, p54_40, p54_50, p54_52, p54_86, sq54_0, sq54_11, sq54_40, sq54_50, sq54_52, sq54_86, e2]
      refine ⟨fun _ => ?_, fun q => by omega⟩
      repeat (refine And.intro (by (try unfold InR); omega) ?_)
      refine loop2 265 0 19 _ (by omega) (by omega) (by omega) (by omega) (by unfold st; rw [if_pos ⟨rfl, rfl⟩]; rfl) (by unfold kpc; rw [if_pos hc]; rfl) (fun k a1 a2 => by rw [st_off _ _ _ a1]; exact hf k a2) (fun j a1 => by unfold st; rw [if_neg (fun w => a1 w.2), hf 212 (by omega)]) (fun q j a1 a2 a3 a4 => ?_) (fun j a1 a2 => by omega) (fun j => ?_)
      · rw [st_off _ _ _ (by omega), h3 (265 * q + j) (by omega) (by omega)]
        have e : 265 * q + j + 265 = 265 * (q + 1) + j := by omega
        rw [e, p3 (q + 1) j (by omega) (by omega) a3 a4]
        unfold kpP
        rw [if_pos hc, if_neg (by omega)]
      · unfold kpP
        rw [if_pos hc, if_pos rfl]
    | succ n ih =>
      intro i σ1 hc h0 h1 hf h3 h4
      refine S0.run 54 md54 pp54 0 rfl rfl rfl 60 11 ?_
      simp only [ev_s, ev_hd, ev_sf, ev_hd0, ev_sf0, ev_0, ev_1, ev_34, ev_li, ev_lr, ev_lx, ev_2, ev_35, ev_3, ev_4, ev_b0, ev_b1, ev_b2, ev_b3, ev_b4, ev_b5, ev_b6, ev_b7, ev_b8, ev_b9, ev_b10, ev_5, ev_6, ev_c0, ev_c1, ev_c2, ev_c3, ev_c4, ev_c5, ev_7, ev_8, ev_9, ev_33, ev_11, ev_12, ev_12x, ev_13, ev_14, ev_15, ev_16, ev_18, ev_18x, ev_22, ev_23, ev_24, ev_32, ev_25, ev_26, ev_27, ev_28, ev_31, ev_w1, ev_w2, ev_p1, ev_p2, ev_p3, ev_p4, ev_p5, ev_p6, ev_p0, ev_n0, ev_n1, ev_n2, ev_n3, ev_n4, ev_n5, ev_n6, ev_n7, ev_m0, ev_m1, ev_m2, ev_m3, ev_m4, ev_m5, ev_m6, ev_m7, ev_r0, ev_r1, ev_r2, ev16, ev30, gf0_0, gf0_1, gf0_2, gf0_3, gf0_4, gf0_5, gf0_6, gf0_7, gf0_8, gf0_9, gf0_10, pf0_11, gf0_11, ic0, gf15_0, pf15_1, gf15_1, pf15_2, gf15_2, ic15, gf165_0, gf165_1, pf165_2, gf165_2, gf165_3, gf165_4, ic165, ar166, al166, ii166, ar167, al167, ii167, ar168, al168, ii168, gf171_0, pf171_1, gf171_1, pf171_2, gf171_2, gf171_3, ic171, ar172, al172, ii172, gf179_0, gf179_1, gf179_2, pf179_3, gf179_3, pf179_4, gf179_4, pf179_5, gf179_5, pf179_6, gf179_6, ic179, ar193, al193, ii193, gf197_0, gf197_1, gf197_2, ic197, ar207, al207, ii207, gf208_0, gf208_1, gf208_2, ic208, ar209, al209, ii209, ar210, al210, ii210, ar211, al211, ii211, gf212_0, gf212_1, pf212_2, gf212_2, gf212_3, gf212_4, gf212_5, pf212_6, gf212_6, pf212_7, gf212_7, gf212_8, pf212_9, gf212_9, gf212_10, gf212_11, gf212_12, gf212_13, pf212_14, gf212_14, gf212_15, gf212_16, gf212_17, pf212_18, gf212_18, gf212_19, gf212_20, gf212_21, gf212_22, gf212_23, ic212, ar213, al213, ii213, ar214, al214, ii214, ar215, al215, ii215, ar216, al216, ii216, ar217, al217, ii217, ar218, al218, ii218, ar219, al219, ar220, al220, ar221, al221, ar222, al222, ii222, ar223, al223, ii223, ar224, al224, ii224, ar225, al225, ar226, al226, ii226, ar227, al227, ii227, ar228, al228, ii228, ar229, al229, ar230, al230, ii230, cond_true, cond_false, true_and, and_true, Int.cast_ofNat_Int, Nat.reduceLT, Nat.reduceLeDiff, Nat.reduceBEq, Int.reduceLT, Int.reduceLE, Int.reduceEq, Int.reduceAdd, Nat.reduceEqDiff, not_true_eq_false, not_false_eq_true, false_implies, forall_const, eq_self, Nat.reduceAdd, Option.toList_some, Option.toList_none, List.cons_append, List.nil_append, List.length_cons, List.length_nil, Bool.false_eq_true, reduceCtorEq, true_or, or_true, false_or, or_false, Int.reduceNeg, implies_true, true_implies, xl1, xl2, xl3, xf1, xf2, xf3, p54_0, p54_11, p54_40, p54_50, p54_52, p54_86, sq54_0, sq54_11, sq54_40, sq54_50, sq54_52, sq54_86]
      refine ⟨fun q => by omega, fun _ => ?_⟩
      repeat (refine And.intro (by (try unfold InR); omega) ?_)
      refine ih (i + 1) _ hc (by omega) (by omega) (fun k a => by rw [st_off _ _ _ a]; exact hf k a) (fun j a1 a2 => ?_) (fun j a1 => ?_)
      · unfold st
        by_cases hj : j = i
        · rw [if_pos ⟨rfl, hj⟩, h4 (i + 265) (by omega), hj]
        · rw [if_neg (by omega)]
          exact h3 j a1 (by omega)
      · unfold st
        rw [if_neg (by omega)]
        exact h4 j (by omega)
  refine S0.run 54 md54 pp54 0 rfl rfl rfl 60 0 ?_
  simp only [ev_s, ev_hd, ev_sf, ev_hd0, ev_sf0, ev_0, ev_1, ev_34, ev_li, ev_lr, ev_lx, ev_2, ev_35, ev_3, ev_4, ev_b0, ev_b1, ev_b2, ev_b3, ev_b4, ev_b5, ev_b6, ev_b7, ev_b8, ev_b9, ev_b10, ev_5, ev_6, ev_c0, ev_c1, ev_c2, ev_c3, ev_c4, ev_c5, ev_7, ev_8, ev_9, ev_33, ev_11, ev_12, ev_12x, ev_13, ev_14, ev_15, ev_16, ev_18, ev_18x, ev_22, ev_23, ev_24, ev_32, ev_25, ev_26, ev_27, ev_28, ev_31, ev_w1, ev_w2, ev_p1, ev_p2, ev_p3, ev_p4, ev_p5, ev_p6, ev_p0, ev_n0, ev_n1, ev_n2, ev_n3, ev_n4, ev_n5, ev_n6, ev_n7, ev_m0, ev_m1, ev_m2, ev_m3, ev_m4, ev_m5, ev_m6, ev_m7, ev_r0, ev_r1, ev_r2, ev16, ev30, gf0_0, gf0_1, gf0_2, gf0_3, gf0_4, gf0_5, gf0_6, gf0_7, gf0_8, gf0_9, gf0_10, pf0_11, gf0_11, ic0, gf15_0, pf15_1, gf15_1, pf15_2, gf15_2, ic15, gf165_0, gf165_1, pf165_2, gf165_2, gf165_3, gf165_4, ic165, ar166, al166, ii166, ar167, al167, ii167, ar168, al168, ii168, gf171_0, pf171_1, gf171_1, pf171_2, gf171_2, gf171_3, ic171, ar172, al172, ii172, gf179_0, gf179_1, gf179_2, pf179_3, gf179_3, pf179_4, gf179_4, pf179_5, gf179_5, pf179_6, gf179_6, ic179, ar193, al193, ii193, gf197_0, gf197_1, gf197_2, ic197, ar207, al207, ii207, gf208_0, gf208_1, gf208_2, ic208, ar209, al209, ii209, ar210, al210, ii210, ar211, al211, ii211, gf212_0, gf212_1, pf212_2, gf212_2, gf212_3, gf212_4, gf212_5, pf212_6, gf212_6, pf212_7, gf212_7, gf212_8, pf212_9, gf212_9, gf212_10, gf212_11, gf212_12, gf212_13, pf212_14, gf212_14, gf212_15, gf212_16, gf212_17, pf212_18, gf212_18, gf212_19, gf212_20, gf212_21, gf212_22, gf212_23, ic212, ar213, al213, ii213, ar214, al214, ii214, ar215, al215, ii215, ar216, al216, ii216, ar217, al217, ii217, ar218, al218, ii218, ar219, al219, ar220, al220, ar221, al221, ar222, al222, ii222, ar223, al223, ii223, ar224, al224, ii224, ar225, al225, ar226, al226, ii226, ar227, al227, ii227, ar228, al228, ii228, ar229, al229, ar230, al230, ii230, cond_true, cond_false, true_and, and_true, Int.cast_ofNat_Int, Nat.reduceLT, Nat.reduceLeDiff, Nat.reduceBEq, Int.reduceLT, Int.reduceLE, Int.reduceEq, Int.reduceAdd, Nat.reduceEqDiff, not_true_eq_false, not_false_eq_true, false_implies, forall_const, eq_self, Nat.reduceAdd, Option.toList_some, Option.toList_none, List.cons_append, List.nil_append, List.length_cons, List.length_nil, Bool.false_eq_true, reduceCtorEq, true_or, or_true, false_or, or_false, Int.reduceNeg, implies_true, true_implies, xl1, xl2, xl3, xf1, xf2, xf3, p54_0, p54_11, p54_40, p54_50, p54_52, p54_86, sq54_0, sq54_11, sq54_40, sq54_50, sq54_52, sq54_86, p1]
  refine ⟨fun hc => ?_, fun hc => loop1 5035 0 σ (by omega) (by omega) (by omega) (fun _ _ => rfl) (fun j a1 a2 => by omega) (fun _ _ => rfl)⟩
  refine loop2 265 0 c σ (by omega) (by omega) p2.1 (by omega) p1 (by unfold kpc; rw [if_neg hc]) (fun _ _ _ => rfl) (fun _ _ => rfl) (fun q j a1 a2 a3 a4 => ?_) (fun j a1 a2 => by omega) (fun j => ?_)
  · rw [p3 q j a1 a2 a3 a4]
    unfold kpP
    rw [if_neg hc, if_neg (by omega)]
  · unfold kpP
    rw [if_neg hc, if_pos rfl]
end PAST
