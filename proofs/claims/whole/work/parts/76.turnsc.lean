-- TURNS: the class's
/-- how many spreads are told at most -/
def gb : Nat → Int
  | 0 => 1
  | n + 1 => 1 + 2 * gb n
theorem gb_pos : ∀ n, 1 ≤ gb n
  | 0 => Int.le_refl 1
  | n + 1 => by have := gb_pos n; unfold gb; omega
theorem wl2_flip (N D : Int → Int) {f : Int} (f0 : 0 ≤ f) : flip (wl2 N D) f = wl2 (flip N f) D := by
  funext j
  by_cases e : j = 85 + f
  · rw [wl2_off _ D (by omega)]
    unfold flip
    rw [if_pos e, if_pos e, wl2_off _ D (by omega)]
  · rw [flip_off _ f e]
    unfold wl2
    rw [flip_off N f e]
theorem flip2 (N : Int → Int) (f : Int) : flip (flip N f) f = N := by
  funext j
  by_cases e : j = 85 + f
  · unfold flip
    rw [if_pos e, if_pos rfl, e]
    omega
  · rw [flip_off _ f e, flip_off N f e]
theorem wl2_on (N D : Int → Int) {f : Int} (f0 : 0 ≤ f) (f1 : f < 81) (hN : N (4 + f) = 4) : set1 (wl2 N D) (4 + f) 4 = wl2 N (updI D f 1) := by
  funext j
  unfold set1 wl2 updI
  by_cases e : j = 4 + f
  · rw [if_pos e, if_neg (fun c => ?_), e, hN]
    have := c.2.2
    rw [if_pos (by omega)] at this
    omega
  · rw [if_neg e, if_neg (show ¬ j - 4 = f by omega)]
theorem wl2_out (N D : Int → Int) {f : Int} (f0 : 0 ≤ f) (f1 : f < 81) (hN : N (4 + f) = 4) (hD : D f = 0) : set1 (wl2 N (updI D f 1)) (4 + f) 0 = wl2 N D := by
  funext j
  unfold set1 wl2 updI
  by_cases e : j = 4 + f
  · rw [if_pos e, if_pos ⟨by omega, by rw [e]; exact hN, by rw [show j - 4 = f from by omega]; exact hD⟩]
  · rw [if_neg e, if_neg (show ¬ j - 4 = f by omega)]
theorem sub_bit {M D : Int → Int} {set f : Int} (h : Sub M D set) (f0 : 0 ≤ f) (f1 : f < 81) (hf : M (4 + f) = 4) (hD : D f = 0) (hc : ctk M 4 ≤ 10) : bt set (rk M f) = 0 := by
  have hb := rk_bd M f0 f1 hf
  rcases bt01 set (rk M f) with q | q
  · exact q
  · obtain ⟨g, g0, g1, g2, g3⟩ := h.2 (rk M f) hb.1 (by omega) q
    have := rk_inj M g0.1 f0 g1 hf g3
    subst this
    exact absurd hD g2
theorem Sub.on {M D : Int → Int} {set f : Int} (h : Sub M D set) : Sub M (updI D f 1) set := by
  refine ⟨h.1, fun i a b c => ?_⟩
  obtain ⟨g, g0, g1, g2, g3⟩ := h.2 i a b c
  refine ⟨g, g0, g1, ?_, g3⟩
  unfold updI
  split
  · omega
  · exact g2
theorem Sub.on2 {M D : Int → Int} {set t f : Int} (h : Sub M D set) (f0 : 0 ≤ f) (f1 : f < 81) (hf : M (4 + f) = 4) (t0 : 0 ≤ t) (t1 : t < 1024) (ht : ∀ j, 0 ≤ j → j < 10 → bt t j = if j = rk M f then 1 else bt set j) : Sub M (updI D f 1) t := by
  refine ⟨⟨t0, t1⟩, fun i a b c => ?_⟩
  rw [ht i a b] at c
  by_cases e : i = rk M f
  · exact ⟨f, ⟨f0, f1⟩, hf, by unfold updI; rw [if_pos rfl]; omega, e.symm⟩
  · rw [if_neg e] at c
    exact (h.on (f := f)).2 i a b c
theorem cyl_split {M D : Int → Int} {set t f : Int} (f0 : 0 ≤ f) (f1 : f < 81) (hf : M (4 + f) = 4) (hD : D f = 0) (hc : ctk M 4 ≤ 10) (hb : bt set (rk M f) = 0) (ht : ∀ j, 0 ≤ j → j < 10 → bt t j = if j = rk M f then 1 else bt set j) (s : Int) : Cyl M D set s ↔ Cyl M (updI D f 1) set s ∨ Cyl M (updI D f 1) t s := by
  have hbf := rk_bd M f0 f1 hf
  have un : ∀ g, g ≠ f → updI D f 1 g = D g := fun g e => if_neg e
  have tt : ∀ g, 0 ≤ g → g < 81 → M (4 + g) = 4 → g ≠ f → bt t (rk M g) = bt set (rk M g) := fun g a b c e => by
    have := rk_bd M a b c
    rw [ht _ this.1 (by omega), if_neg (fun d => e (rk_inj M a f0 c hf d))]
  constructor
  · intro h
    rcases bt01 s (rk M f) with q | q
    · refine Or.inl ⟨h.1, fun g a b c d => ?_⟩
      by_cases e : g = f
      · rw [e, q, hb]
      · rw [un g e] at d; exact h.2 g a b c d
    · refine Or.inr ⟨h.1, fun g a b c d => ?_⟩
      by_cases e : g = f
      · rw [e, q, ht _ hbf.1 (by omega), if_pos rfl]
      · rw [un g e] at d; rw [tt g a b c e]; exact h.2 g a b c d
  · intro h
    rcases h with h | h
    · refine ⟨h.1, fun g a b c d => ?_⟩
      have e : g ≠ f := fun e => d (e ▸ hD)
      exact h.2 g a b c (by rw [un g e]; exact d)
    · refine ⟨h.1, fun g a b c d => ?_⟩
      have e : g ≠ f := fun e => d (e ▸ hD)
      rw [← tt g a b c e]
      exact h.2 g a b c (by rw [un g e]; exact d)
noncomputable def undec (M D : Int → Int) : Int := cP (fun f => M (4 + f) = 4 ∧ D f = 0) 0 81
theorem undec_on {M D : Int → Int} {f : Int} (f0 : 0 ≤ f) (f1 : f < 81) (hf : M (4 + f) = 4) (hD : D f = 0) : undec M D = 1 + undec M (updI D f 1) := by
  unfold undec
  rw [cP_rm (fun f => M (4 + f) = 4 ∧ D f = 0) f ⟨hf, hD⟩ 81 0 f0 (by omega)]
  congr 1
  refine cP_congr (fun j a b => ?_)
  unfold updI
  by_cases e : j = f
  · rw [if_pos e]; exact ⟨fun c => absurd e c.2, fun c => absurd c.2 (by omega)⟩
  · rw [if_neg e]; exact ⟨fun c => c.1, fun c => ⟨c, e⟩⟩
section TRD
variable {X : Cx} {M : Int → Int} {l g : Int}
def TCx (σ : Sg) (M : Int → Int) (l g : Int) : Prop := TB σ M ∧ σ 179 3 = ctk M 4 ∧ σ 179 4 = l ∧ σ 179 5 = g
/-- a set lets the lamp's light come to g -/
def okS (M : Int → Int) (l g s : Int) : Prop := atP (turnM M s) (lray M l) g
def TTP (σ : Sg) (M : Int → Int) (l g : Int) (D : Int → Int) (set : Int) (C : Int → Prop) (Bc : Int) (u : Nat) : Option AV → Sg → Prop := fun r' σ' => r' = none ∧ MzC σ' 180 (wl2 (turnM M set) D) ∧ IsB (fun s => C s ∨ (Cyl M D set s ∧ okS M l g s)) (σ' 179 6) ∧ SpOK σ' 187 (Bc + gb u) ∧ (∀ j, j ≠ 6 → σ' 179 j = σ 179 j) ∧ Fr 179 191 σ σ'
def TTH (σ : Sg) (M : Int → Int) (l g : Int) (D : Int → Int) (set depth : Int) (C : Int → Prop) (Bc : Int) (u : Nat) : Prop := MzC σ 180 (wl2 (turnM M set) D) ∧ TCx σ M l g ∧ IsB C (σ 179 6) ∧ (∀ s, C s → 0 ≤ s ∧ s < 1024) ∧ Sub M D set ∧ Bc + gb u < 1500000000 ∧ undec M D = u ∧ depth + u = ctk M 4 ∧ 0 ≤ depth
def TT (X : Cx) (M : Int → Int) (l g : Int) (u : Nat) : Prop := ∀ (σ : Sg) (D : Int → Int) (set depth : Int) (C : Int → Prop) (Bc : Int), TTH σ M l g D set depth C Bc u → SpOK σ 187 Bc → C0 X (10 + 2 * u) 166 [vr 179, vi set, vi depth] σ (TTP σ M l g D set C Bc u)
theorem TCx.cg {σ σ' : Sg} (h : TCx σ M l g) (h1 : ∀ j, j ≠ 6 → σ' 179 j = σ 179 j) (h2 : σ' 193 = σ 193) : TCx σ' M l g := by
  unfold TCx TB at *
  rw [h2, h1 3 (by omega), h1 4 (by omega), h1 5 (by omega)]
  exact h
theorem c_both (hM : wfM M) {u : Nat} (ih : TT X M l g u) {σ : Sg} {D : Int → Int} {set depth : Int} {C : Int → Prop} {Bc : Int} (h : TTH σ M l g D set depth C Bc (u + 1)) (hBc : SpOK σ 187 (Bc + 1)) (v : Int) (hv : 0 ≤ v ∧ v < ctk M 4) (hD : D (σ 193 v) = 0) : C0 X (11 + 2 * u) 167 [vr 179, vi v, vi set, vi (depth + 1)] σ (TTP σ M l g D set C Bc (u + 1)) := by
  obtain ⟨h1, h2, h3, h4, h5, h7, h8, h9, h10⟩ := h
  have hc10 := hM.2.2.2.2.2
  obtain ⟨t1, t2, t3⟩ := h2.1.2 v hv.1 hv.2
  have hfe : ∃ f, f = σ 193 v := ⟨_, rfl⟩
  obtain ⟨f, ef⟩ := hfe
  rw [← ef] at t1 t2 t3 hD
  have hb0 := sub_bit h5 t1.1 t1.2 t2 hD hc10
  rw [t3] at hb0
  obtain ⟨o1, o2, o3⟩ := or10 hv.1 (by omega) h5.1.1 h5.1.2 hb0
  have hp := two_pow hv.1 (by omega : v ≤ 10)
  have et : ∃ t, t = set + 2 ^ v.toNat := ⟨_, rfl⟩
  obtain ⟨t, et⟩ := et
  rw [← et] at o1 o2 o3
  have h51 := h5.1
  have t0 : 0 ≤ t := by omega
  have o3' : ∀ j, 0 ≤ j → j < 10 → bt t j = if j = rk M f then 1 else bt set j := fun j a b => by rw [t3]; exact o3 j a b
  have hfl := tm_flip M t1.1 t1.2 t2 (by rw [t3]; exact hb0) hc10 o3'
  have hun := undec_on (D := D) t1.1 t1.2 t2 hD
  have hgb : gb (u + 1) = 1 + 2 * gb u := rfl
  have hgp := gb_pos u
  have hof : ∀ s, 0 ≤ turnM M s (85 + f) ∧ turnM M s (85 + f) ≤ 2 := fun s => by
    have := (hM.2.2.2.1 f t1.1 t1.2).2.1
    rw [t2] at this
    unfold isOf at this
    rw [tm_at M s t1.1 t1.2]
    split <;> omega
  refine C0.intro md167 (by decide) rfl (by omega) (Nat.le_of_ble_eq_true rfl) ?_
  intro hin hav
  show S0 X _ 167 _ 0 [vr 179, vi v, vi set, vi (depth + 1), vx 9] [] _
  refine S0.run 167 md167 pp167 0 rfl rfl rfl 17 0 ?_
  simp only [ev_hd, ev_sf, ev_hd0, ev_sf0, ↓ev_0, ↓ev_lx, ↓ev_7, ↓ev_8, ↓ev_9, ↓ev_33, ↓ev_11, ↓ev_12, ↓ev_12x, ↓ev_13, ↓ev_14, ↓ev_15, ↓ev_16, ↓ev_18, ↓ev_18x, ↓ev_22, ↓ev_23, ↓ev_24, ↓ev_32, ↓ev_25, ↓ev_26, ↓ev_27, ↓ev_28, ↓ev_31, ↓ev_w1, ↓ev_w2, ↓ev_p1, ↓ev_p2, ↓ev_p3, ↓ev_p4, ↓ev_p5, ↓ev_p6, ↓ev_p0, ev_r0, ev_r1, ev_r2, ↓ev16, ↓ev30, ev_34, ↓fl_0, ↓fr_0, ↓fs_0, ↓ft_0, ↓fc_0, ↓fl_1, ↓fr_1, ↓fs_1, ↓ft_1, ↓fc_1, ↓fl_2, ↓fr_2, ↓fs_2, ↓ft_2, ↓fc_2, ↓fl_3, ↓fr_3, ↓fs_3, ↓ft_3, ↓fc_3, ↓fl_4, ↓fr_4, ↓fs_4, ↓ft_4, ↓fc_4, ↓fl_5, ↓fr_5, ↓fs_5, ↓ft_5, ↓fc_5, ↓fl_6, ↓fr_6, ↓fs_6, ↓ft_6, ↓fc_6, ↓fl_7, ↓fr_7, ↓fs_7, ↓ft_7, ↓fc_7, ↓fb_0, ↓fb_1, ↓fb_2, ↓fb_3, ↓fb_4, ↓fb_5, ↓fb_6, ↓fb_7, ↓fb_8, ↓fb_9, ↓fb_10, ↓f5_0, ↓f6_0, ↓f5_1, ↓f6_1, ↓f5_2, ↓f6_2, ↓f5_3, ↓f6_3, ↓f5_4, ↓f6_4, ↓f5_5, ↓f6_5, ↓f_s, ↓f_cf, ↓f_ct, ↓gf0_0, ↓gf0_1, ↓gf0_2, ↓gf0_3, ↓gf0_4, ↓gf0_5, ↓gf0_6, ↓gf0_7, ↓gf0_8, ↓gf0_9, ↓gf0_10, ↓pf0_11, ↓gf0_11, ↓ic0, ↓gf15_0, ↓pf15_1, ↓gf15_1, ↓pf15_2, ↓gf15_2, ↓ic15, ↓gf165_0, ↓gf165_1, ↓pf165_2, ↓gf165_2, ↓gf165_3, ↓gf165_4, ↓ic165, ↓ar166, ↓al166, ↓ii166, ↓ar167, ↓al167, ↓ii167, ↓ar168, ↓al168, ↓ii168, ↓gf171_0, ↓pf171_1, ↓gf171_1, ↓pf171_2, ↓gf171_2, ↓gf171_3, ↓ic171, ↓ar172, ↓al172, ↓ii172, ↓gf179_0, ↓gf179_1, ↓gf179_2, ↓pf179_3, ↓gf179_3, ↓pf179_4, ↓gf179_4, ↓pf179_5, ↓gf179_5, ↓pf179_6, ↓gf179_6, ↓ic179, ↓ar193, ↓al193, ↓ii193, ↓gf197_0, ↓gf197_1, ↓gf197_2, ↓ic197, ↓ar207, ↓al207, ↓ii207, ↓gf208_0, ↓gf208_1, ↓gf208_2, ↓ic208, ↓ar209, ↓al209, ↓ii209, ↓ar210, ↓al210, ↓ii210, ↓ar211, ↓al211, ↓ii211, ↓pf1_0, ↓gf1_0, ↓pf1_1, ↓gf1_1, ↓gf1_2, ↓gf1_3, ↓gf1_4, ↓pf1_5, ↓gf1_5, ↓gf1_6, ↓gf1_7, ↓gf1_8, ↓ic1, ↓ar2, ↓al2, ↓ii2, ↓ar3, ↓al3, ↓ii3, ↓ar4, ↓al4, ↓ii4, ↓ar5, ↓al5, ↓ii5, ↓ar6, ↓al6, ↓ii6, ↓ar7, ↓al7, ↓ii7, ↓pf8_0, ↓gf8_0, ↓pf8_1, ↓gf8_1, ↓gf8_2, ↓gf8_3, ↓gf8_4, ↓pf8_5, ↓gf8_5, ↓gf8_6, ↓gf8_7, ↓gf8_8, ↓ic8, ↓ar9, ↓al9, ↓ii9, ↓ar10, ↓al10, ↓ii10, ↓ar11, ↓al11, ↓ii11, ↓ar12, ↓al12, ↓ii12, ↓ar13, ↓al13, ↓ii13, ↓ar14, ↓al14, ↓ii14, ↓gf157_0, ↓pf157_1, ↓gf157_1, ↓pf157_2, ↓gf157_2, ↓ic157, ↓ar158, ↓al158, ↓ii158, ↓gf159_0, ↓pf159_1, ↓gf159_1, ↓gf159_2, ↓gf159_3, ↓gf159_4, ↓pf159_5, ↓gf159_5, ↓pf159_6, ↓gf159_6, ↓gf159_7, ↓ic159, ↓ar160, ↓al160, ↓ii160, ↓ar161, ↓al161, ↓ii161, ↓ar162, ↓al162, ↓ii162, ↓ar163, ↓al163, ↓ii163, ↓ar164, ↓al164, ↓ii164, ↓gf169_0, ↓pf169_1, ↓gf169_1, ↓pf169_2, ↓gf169_2, ↓ic169, ↓ar170, ↓al170, ↓ii170, ↓gf173_0, ↓pf173_1, ↓gf173_1, ↓gf173_2, ↓gf173_3, ↓gf173_4, ↓pf173_5, ↓gf173_5, ↓pf173_6, ↓gf173_6, ↓gf173_7, ↓ic173, ↓ar174, ↓al174, ↓ii174, ↓ar175, ↓al175, ↓ii175, ↓ar176, ↓al176, ↓ii176, ↓ar177, ↓al177, ↓ii177, ↓ar178, ↓al178, ↓ii178, ↓pf180_0, ↓gf180_0, ↓pf180_1, ↓gf180_1, ↓gf180_2, ↓gf180_3, ↓gf180_4, ↓pf180_5, ↓gf180_5, ↓gf180_6, ↓gf180_7, ↓gf180_8, ↓ic180, ↓ar181, ↓al181, ↓ii181, ↓ar182, ↓al182, ↓ii182, ↓ar183, ↓al183, ↓ii183, ↓ar184, ↓al184, ↓ii184, ↓ar185, ↓al185, ↓ii185, ↓ar186, ↓al186, ↓ii186, ↓gf187_0, ↓pf187_1, ↓gf187_1, ↓gf187_2, ↓gf187_3, ↓gf187_4, ↓pf187_5, ↓gf187_5, ↓pf187_6, ↓gf187_6, ↓gf187_7, ↓ic187, ↓ar188, ↓al188, ↓ii188, ↓ar189, ↓al189, ↓ii189, ↓ar190, ↓al190, ↓ii190, ↓ar191, ↓al191, ↓ii191, ↓ar192, ↓al192, ↓ii192, ↓gf194_0, ↓pf194_1, ↓gf194_1, ↓gf194_2, ↓ic194, ↓ar195, ↓al195, ↓ii195, ↓ar196, ↓al196, ↓ii196, ↓gf198_0, ↓pf198_1, ↓gf198_1, ↓gf198_2, ↓ic198, ↓ar199, ↓al199, ↓ii199, ↓ar200, ↓al200, ↓ii200, ↓gf201_0, ↓pf201_1, ↓gf201_1, ↓gf201_2, ↓gf201_3, ↓gf201_4, ↓pf201_5, ↓gf201_5, ↓pf201_6, ↓gf201_6, ↓gf201_7, ↓ic201, ↓ar202, ↓al202, ↓ii202, ↓ar203, ↓al203, ↓ii203, ↓ar204, ↓al204, ↓ii204, ↓ar205, ↓al205, ↓ii205, ↓ar206, ↓al206, ↓ii206, cond_true, cond_false, true_and, and_true, Int.cast_ofNat_Int, Nat.reduceLT, Nat.reduceLeDiff, Nat.reduceBEq, Int.reduceLT, Int.reduceLE, Int.reduceEq, Int.reduceAdd, Nat.reduceEqDiff, not_true_eq_false, not_false_eq_true, false_implies, forall_const, eq_self, Nat.reduceAdd, Option.toList_some, Option.toList_none, List.cons_append, List.nil_append, List.length_cons, List.length_nil, Bool.false_eq_true, reduceCtorEq, true_or, or_true, false_or, or_false, Int.reduceNeg, implies_true, true_implies, xl1, xl2, xl3, xf1, xf2, xf3, p167_0, sq167_0]
  rw [← ef]
  refine ⟨by omega, ⟨t1.1, t1.2⟩, ?_⟩
  have m1 : MzC (st σ 181 f 4) 180 (wl2 (turnM M set) (updI D f 1)) := by
    rw [← wl2_on _ D t1.1 t1.2 (by rw [tm_off M set (by omega)]; exact t2)]
    exact mz_kind h1 t1.1 t1.2
  have y1 : ∀ k, k ≠ 181 → st σ 181 f 4 k = σ k := fun k a => st_off _ _ _ a
  have F1 : Fr 179 191 σ (st σ 181 f 4) := Fr.st (by omega) (by omega)
  generalize st σ 181 f 4 = S1 at m1 y1 F1 ⊢
  refine K0.use (ih S1 (updI D f 1) set (depth + 1) C (Bc + 1) ⟨m1, h2.cg (fun j _ => by rw [y1 179 (by omega)]) (y1 193 (by omega)), by rw [y1 179 (by omega)]; exact h3, h4, h5.on, by omega, by omega, by omega, by omega⟩ (hBc.cg (fun j a b => y1 j (by omega)) (Int.le_refl _))) (by omega) (by decide) (fun r σ2 hi hv2 hq => ?_)
  obtain ⟨rfl, a1, a2, a3, a4, a5⟩ := hq
  refine S0.run 167 md167 pp167 0 rfl rfl rfl 6 25 ?_
  simp only [ev_hd, ev_sf, ev_hd0, ev_sf0, ↓ev_0, ↓ev_lx, ↓ev_7, ↓ev_8, ↓ev_9, ↓ev_33, ↓ev_11, ↓ev_12, ↓ev_12x, ↓ev_13, ↓ev_14, ↓ev_15, ↓ev_16, ↓ev_18, ↓ev_18x, ↓ev_22, ↓ev_23, ↓ev_24, ↓ev_32, ↓ev_25, ↓ev_26, ↓ev_27, ↓ev_28, ↓ev_31, ↓ev_w1, ↓ev_w2, ↓ev_p1, ↓ev_p2, ↓ev_p3, ↓ev_p4, ↓ev_p5, ↓ev_p6, ↓ev_p0, ev_r0, ev_r1, ev_r2, ↓ev16, ↓ev30, ev_34, ↓fl_0, ↓fr_0, ↓fs_0, ↓ft_0, ↓fc_0, ↓fl_1, ↓fr_1, ↓fs_1, ↓ft_1, ↓fc_1, ↓fl_2, ↓fr_2, ↓fs_2, ↓ft_2, ↓fc_2, ↓fl_3, ↓fr_3, ↓fs_3, ↓ft_3, ↓fc_3, ↓fl_4, ↓fr_4, ↓fs_4, ↓ft_4, ↓fc_4, ↓fl_5, ↓fr_5, ↓fs_5, ↓ft_5, ↓fc_5, ↓fl_6, ↓fr_6, ↓fs_6, ↓ft_6, ↓fc_6, ↓fl_7, ↓fr_7, ↓fs_7, ↓ft_7, ↓fc_7, ↓fb_0, ↓fb_1, ↓fb_2, ↓fb_3, ↓fb_4, ↓fb_5, ↓fb_6, ↓fb_7, ↓fb_8, ↓fb_9, ↓fb_10, ↓f5_0, ↓f6_0, ↓f5_1, ↓f6_1, ↓f5_2, ↓f6_2, ↓f5_3, ↓f6_3, ↓f5_4, ↓f6_4, ↓f5_5, ↓f6_5, ↓f_s, ↓f_cf, ↓f_ct, ↓gf0_0, ↓gf0_1, ↓gf0_2, ↓gf0_3, ↓gf0_4, ↓gf0_5, ↓gf0_6, ↓gf0_7, ↓gf0_8, ↓gf0_9, ↓gf0_10, ↓pf0_11, ↓gf0_11, ↓ic0, ↓gf15_0, ↓pf15_1, ↓gf15_1, ↓pf15_2, ↓gf15_2, ↓ic15, ↓gf165_0, ↓gf165_1, ↓pf165_2, ↓gf165_2, ↓gf165_3, ↓gf165_4, ↓ic165, ↓ar166, ↓al166, ↓ii166, ↓ar167, ↓al167, ↓ii167, ↓ar168, ↓al168, ↓ii168, ↓gf171_0, ↓pf171_1, ↓gf171_1, ↓pf171_2, ↓gf171_2, ↓gf171_3, ↓ic171, ↓ar172, ↓al172, ↓ii172, ↓gf179_0, ↓gf179_1, ↓gf179_2, ↓pf179_3, ↓gf179_3, ↓pf179_4, ↓gf179_4, ↓pf179_5, ↓gf179_5, ↓pf179_6, ↓gf179_6, ↓ic179, ↓ar193, ↓al193, ↓ii193, ↓gf197_0, ↓gf197_1, ↓gf197_2, ↓ic197, ↓ar207, ↓al207, ↓ii207, ↓gf208_0, ↓gf208_1, ↓gf208_2, ↓ic208, ↓ar209, ↓al209, ↓ii209, ↓ar210, ↓al210, ↓ii210, ↓ar211, ↓al211, ↓ii211, ↓pf1_0, ↓gf1_0, ↓pf1_1, ↓gf1_1, ↓gf1_2, ↓gf1_3, ↓gf1_4, ↓pf1_5, ↓gf1_5, ↓gf1_6, ↓gf1_7, ↓gf1_8, ↓ic1, ↓ar2, ↓al2, ↓ii2, ↓ar3, ↓al3, ↓ii3, ↓ar4, ↓al4, ↓ii4, ↓ar5, ↓al5, ↓ii5, ↓ar6, ↓al6, ↓ii6, ↓ar7, ↓al7, ↓ii7, ↓pf8_0, ↓gf8_0, ↓pf8_1, ↓gf8_1, ↓gf8_2, ↓gf8_3, ↓gf8_4, ↓pf8_5, ↓gf8_5, ↓gf8_6, ↓gf8_7, ↓gf8_8, ↓ic8, ↓ar9, ↓al9, ↓ii9, ↓ar10, ↓al10, ↓ii10, ↓ar11, ↓al11, ↓ii11, ↓ar12, ↓al12, ↓ii12, ↓ar13, ↓al13, ↓ii13, ↓ar14, ↓al14, ↓ii14, ↓gf157_0, ↓pf157_1, ↓gf157_1, ↓pf157_2, ↓gf157_2, ↓ic157, ↓ar158, ↓al158, ↓ii158, ↓gf159_0, ↓pf159_1, ↓gf159_1, ↓gf159_2, ↓gf159_3, ↓gf159_4, ↓pf159_5, ↓gf159_5, ↓pf159_6, ↓gf159_6, ↓gf159_7, ↓ic159, ↓ar160, ↓al160, ↓ii160, ↓ar161, ↓al161, ↓ii161, ↓ar162, ↓al162, ↓ii162, ↓ar163, ↓al163, ↓ii163, ↓ar164, ↓al164, ↓ii164, ↓gf169_0, ↓pf169_1, ↓gf169_1, ↓pf169_2, ↓gf169_2, ↓ic169, ↓ar170, ↓al170, ↓ii170, ↓gf173_0, ↓pf173_1, ↓gf173_1, ↓gf173_2, ↓gf173_3, ↓gf173_4, ↓pf173_5, ↓gf173_5, ↓pf173_6, ↓gf173_6, ↓gf173_7, ↓ic173, ↓ar174, ↓al174, ↓ii174, ↓ar175, ↓al175, ↓ii175, ↓ar176, ↓al176, ↓ii176, ↓ar177, ↓al177, ↓ii177, ↓ar178, ↓al178, ↓ii178, ↓pf180_0, ↓gf180_0, ↓pf180_1, ↓gf180_1, ↓gf180_2, ↓gf180_3, ↓gf180_4, ↓pf180_5, ↓gf180_5, ↓gf180_6, ↓gf180_7, ↓gf180_8, ↓ic180, ↓ar181, ↓al181, ↓ii181, ↓ar182, ↓al182, ↓ii182, ↓ar183, ↓al183, ↓ii183, ↓ar184, ↓al184, ↓ii184, ↓ar185, ↓al185, ↓ii185, ↓ar186, ↓al186, ↓ii186, ↓gf187_0, ↓pf187_1, ↓gf187_1, ↓gf187_2, ↓gf187_3, ↓gf187_4, ↓pf187_5, ↓gf187_5, ↓pf187_6, ↓gf187_6, ↓gf187_7, ↓ic187, ↓ar188, ↓al188, ↓ii188, ↓ar189, ↓al189, ↓ii189, ↓ar190, ↓al190, ↓ii190, ↓ar191, ↓al191, ↓ii191, ↓ar192, ↓al192, ↓ii192, ↓gf194_0, ↓pf194_1, ↓gf194_1, ↓gf194_2, ↓ic194, ↓ar195, ↓al195, ↓ii195, ↓ar196, ↓al196, ↓ii196, ↓gf198_0, ↓pf198_1, ↓gf198_1, ↓gf198_2, ↓ic198, ↓ar199, ↓al199, ↓ii199, ↓ar200, ↓al200, ↓ii200, ↓gf201_0, ↓pf201_1, ↓gf201_1, ↓gf201_2, ↓gf201_3, ↓gf201_4, ↓pf201_5, ↓gf201_5, ↓pf201_6, ↓gf201_6, ↓gf201_7, ↓ic201, ↓ar202, ↓al202, ↓ii202, ↓ar203, ↓al203, ↓ii203, ↓ar204, ↓al204, ↓ii204, ↓ar205, ↓al205, ↓ii205, ↓ar206, ↓al206, ↓ii206, cond_true, cond_false, true_and, and_true, Int.cast_ofNat_Int, Nat.reduceLT, Nat.reduceLeDiff, Nat.reduceBEq, Int.reduceLT, Int.reduceLE, Int.reduceEq, Int.reduceAdd, Nat.reduceEqDiff, not_true_eq_false, not_false_eq_true, false_implies, forall_const, eq_self, Nat.reduceAdd, Option.toList_some, Option.toList_none, List.cons_append, List.nil_append, List.length_cons, List.length_nil, Bool.false_eq_true, reduceCtorEq, true_or, or_true, false_or, or_false, Int.reduceNeg, implies_true, true_implies, xl1, xl2, xl3, xf1, xf2, xf3, p167_0, sq167_0, sq167_25]
  refine K0.use (c_leanOver ismz180 a1 f t1.1 t1.2 (by rw [wl2_off _ _ (by omega)]; exact hof set)) (by omega) (by decide) (fun r σ3 hi hv2 hq => ?_)
  obtain ⟨rfl, b1, b2⟩ := hq
  rw [wl2_flip _ _ t1.1, hfl] at b1
  have e179 : ∀ j, j ≠ 6 → σ3 179 j = σ 179 j := fun j hj => by rw [b2 179 (by omega), a4 j hj, y1 179 (by omega)]
  have e193 : σ3 193 = σ 193 := by rw [b2 193 (by omega), a5 193 (by omega), y1 193 (by omega)]
  refine S0.run 167 md167 pp167 0 rfl rfl rfl 10 34 ?_
  simp only [ev_hd, ev_sf, ev_hd0, ev_sf0, ↓ev_0, ↓ev_lx, ↓ev_7, ↓ev_8, ↓ev_9, ↓ev_33, ↓ev_11, ↓ev_12, ↓ev_12x, ↓ev_13, ↓ev_14, ↓ev_15, ↓ev_16, ↓ev_18, ↓ev_18x, ↓ev_22, ↓ev_23, ↓ev_24, ↓ev_32, ↓ev_25, ↓ev_26, ↓ev_27, ↓ev_28, ↓ev_31, ↓ev_w1, ↓ev_w2, ↓ev_p1, ↓ev_p2, ↓ev_p3, ↓ev_p4, ↓ev_p5, ↓ev_p6, ↓ev_p0, ev_r0, ev_r1, ev_r2, ↓ev16, ↓ev30, ev_34, ↓fl_0, ↓fr_0, ↓fs_0, ↓ft_0, ↓fc_0, ↓fl_1, ↓fr_1, ↓fs_1, ↓ft_1, ↓fc_1, ↓fl_2, ↓fr_2, ↓fs_2, ↓ft_2, ↓fc_2, ↓fl_3, ↓fr_3, ↓fs_3, ↓ft_3, ↓fc_3, ↓fl_4, ↓fr_4, ↓fs_4, ↓ft_4, ↓fc_4, ↓fl_5, ↓fr_5, ↓fs_5, ↓ft_5, ↓fc_5, ↓fl_6, ↓fr_6, ↓fs_6, ↓ft_6, ↓fc_6, ↓fl_7, ↓fr_7, ↓fs_7, ↓ft_7, ↓fc_7, ↓fb_0, ↓fb_1, ↓fb_2, ↓fb_3, ↓fb_4, ↓fb_5, ↓fb_6, ↓fb_7, ↓fb_8, ↓fb_9, ↓fb_10, ↓f5_0, ↓f6_0, ↓f5_1, ↓f6_1, ↓f5_2, ↓f6_2, ↓f5_3, ↓f6_3, ↓f5_4, ↓f6_4, ↓f5_5, ↓f6_5, ↓f_s, ↓f_cf, ↓f_ct, ↓gf0_0, ↓gf0_1, ↓gf0_2, ↓gf0_3, ↓gf0_4, ↓gf0_5, ↓gf0_6, ↓gf0_7, ↓gf0_8, ↓gf0_9, ↓gf0_10, ↓pf0_11, ↓gf0_11, ↓ic0, ↓gf15_0, ↓pf15_1, ↓gf15_1, ↓pf15_2, ↓gf15_2, ↓ic15, ↓gf165_0, ↓gf165_1, ↓pf165_2, ↓gf165_2, ↓gf165_3, ↓gf165_4, ↓ic165, ↓ar166, ↓al166, ↓ii166, ↓ar167, ↓al167, ↓ii167, ↓ar168, ↓al168, ↓ii168, ↓gf171_0, ↓pf171_1, ↓gf171_1, ↓pf171_2, ↓gf171_2, ↓gf171_3, ↓ic171, ↓ar172, ↓al172, ↓ii172, ↓gf179_0, ↓gf179_1, ↓gf179_2, ↓pf179_3, ↓gf179_3, ↓pf179_4, ↓gf179_4, ↓pf179_5, ↓gf179_5, ↓pf179_6, ↓gf179_6, ↓ic179, ↓ar193, ↓al193, ↓ii193, ↓gf197_0, ↓gf197_1, ↓gf197_2, ↓ic197, ↓ar207, ↓al207, ↓ii207, ↓gf208_0, ↓gf208_1, ↓gf208_2, ↓ic208, ↓ar209, ↓al209, ↓ii209, ↓ar210, ↓al210, ↓ii210, ↓ar211, ↓al211, ↓ii211, ↓pf1_0, ↓gf1_0, ↓pf1_1, ↓gf1_1, ↓gf1_2, ↓gf1_3, ↓gf1_4, ↓pf1_5, ↓gf1_5, ↓gf1_6, ↓gf1_7, ↓gf1_8, ↓ic1, ↓ar2, ↓al2, ↓ii2, ↓ar3, ↓al3, ↓ii3, ↓ar4, ↓al4, ↓ii4, ↓ar5, ↓al5, ↓ii5, ↓ar6, ↓al6, ↓ii6, ↓ar7, ↓al7, ↓ii7, ↓pf8_0, ↓gf8_0, ↓pf8_1, ↓gf8_1, ↓gf8_2, ↓gf8_3, ↓gf8_4, ↓pf8_5, ↓gf8_5, ↓gf8_6, ↓gf8_7, ↓gf8_8, ↓ic8, ↓ar9, ↓al9, ↓ii9, ↓ar10, ↓al10, ↓ii10, ↓ar11, ↓al11, ↓ii11, ↓ar12, ↓al12, ↓ii12, ↓ar13, ↓al13, ↓ii13, ↓ar14, ↓al14, ↓ii14, ↓gf157_0, ↓pf157_1, ↓gf157_1, ↓pf157_2, ↓gf157_2, ↓ic157, ↓ar158, ↓al158, ↓ii158, ↓gf159_0, ↓pf159_1, ↓gf159_1, ↓gf159_2, ↓gf159_3, ↓gf159_4, ↓pf159_5, ↓gf159_5, ↓pf159_6, ↓gf159_6, ↓gf159_7, ↓ic159, ↓ar160, ↓al160, ↓ii160, ↓ar161, ↓al161, ↓ii161, ↓ar162, ↓al162, ↓ii162, ↓ar163, ↓al163, ↓ii163, ↓ar164, ↓al164, ↓ii164, ↓gf169_0, ↓pf169_1, ↓gf169_1, ↓pf169_2, ↓gf169_2, ↓ic169, ↓ar170, ↓al170, ↓ii170, ↓gf173_0, ↓pf173_1, ↓gf173_1, ↓gf173_2, ↓gf173_3, ↓gf173_4, ↓pf173_5, ↓gf173_5, ↓pf173_6, ↓gf173_6, ↓gf173_7, ↓ic173, ↓ar174, ↓al174, ↓ii174, ↓ar175, ↓al175, ↓ii175, ↓ar176, ↓al176, ↓ii176, ↓ar177, ↓al177, ↓ii177, ↓ar178, ↓al178, ↓ii178, ↓pf180_0, ↓gf180_0, ↓pf180_1, ↓gf180_1, ↓gf180_2, ↓gf180_3, ↓gf180_4, ↓pf180_5, ↓gf180_5, ↓gf180_6, ↓gf180_7, ↓gf180_8, ↓ic180, ↓ar181, ↓al181, ↓ii181, ↓ar182, ↓al182, ↓ii182, ↓ar183, ↓al183, ↓ii183, ↓ar184, ↓al184, ↓ii184, ↓ar185, ↓al185, ↓ii185, ↓ar186, ↓al186, ↓ii186, ↓gf187_0, ↓pf187_1, ↓gf187_1, ↓gf187_2, ↓gf187_3, ↓gf187_4, ↓pf187_5, ↓gf187_5, ↓pf187_6, ↓gf187_6, ↓gf187_7, ↓ic187, ↓ar188, ↓al188, ↓ii188, ↓ar189, ↓al189, ↓ii189, ↓ar190, ↓al190, ↓ii190, ↓ar191, ↓al191, ↓ii191, ↓ar192, ↓al192, ↓ii192, ↓gf194_0, ↓pf194_1, ↓gf194_1, ↓gf194_2, ↓ic194, ↓ar195, ↓al195, ↓ii195, ↓ar196, ↓al196, ↓ii196, ↓gf198_0, ↓pf198_1, ↓gf198_1, ↓gf198_2, ↓ic198, ↓ar199, ↓al199, ↓ii199, ↓ar200, ↓al200, ↓ii200, ↓gf201_0, ↓pf201_1, ↓gf201_1, ↓gf201_2, ↓gf201_3, ↓gf201_4, ↓pf201_5, ↓gf201_5, ↓pf201_6, ↓gf201_6, ↓gf201_7, ↓ic201, ↓ar202, ↓al202, ↓ii202, ↓ar203, ↓al203, ↓ii203, ↓ar204, ↓al204, ↓ii204, ↓ar205, ↓al205, ↓ii205, ↓ar206, ↓al206, ↓ii206, cond_true, cond_false, true_and, and_true, Int.cast_ofNat_Int, Nat.reduceLT, Nat.reduceLeDiff, Nat.reduceBEq, Int.reduceLT, Int.reduceLE, Int.reduceEq, Int.reduceAdd, Nat.reduceEqDiff, not_true_eq_false, not_false_eq_true, false_implies, forall_const, eq_self, Nat.reduceAdd, Option.toList_some, Option.toList_none, List.cons_append, List.nil_append, List.length_cons, List.length_nil, Bool.false_eq_true, reduceCtorEq, true_or, or_true, false_or, or_false, Int.reduceNeg, implies_true, true_implies, xl1, xl2, xl3, xf1, xf2, xf3, p167_0, sq167_0, sq167_34]
  rw [o1]
  refine K0.use (ih σ3 (updI D f 1) t (depth + 1) (fun s => C s ∨ (Cyl M (updI D f 1) set s ∧ okS M l g s)) (Bc + 1 + gb u) ⟨b1, h2.cg e179 e193, by rw [b2 179 (by omega)]; exact a2, fun s c => c.elim (h4 s) (fun c => ⟨c.1.1.1, c.1.1.2.1⟩), h5.on2 t1.1 t1.2 t2 t0 o2 o3', by omega, by omega, by omega, by omega⟩ (a3.cg (fun j x y => b2 j (by omega)) (Int.le_refl _))) (by omega) (by decide) (fun r σ4 hi hv2 hq => ?_)
  obtain ⟨rfl, c1, c2, c3, c4, c5⟩ := hq
  refine S0.run 167 md167 pp167 0 rfl rfl rfl 6 44 ?_
  simp only [ev_hd, ev_sf, ev_hd0, ev_sf0, ↓ev_0, ↓ev_lx, ↓ev_7, ↓ev_8, ↓ev_9, ↓ev_33, ↓ev_11, ↓ev_12, ↓ev_12x, ↓ev_13, ↓ev_14, ↓ev_15, ↓ev_16, ↓ev_18, ↓ev_18x, ↓ev_22, ↓ev_23, ↓ev_24, ↓ev_32, ↓ev_25, ↓ev_26, ↓ev_27, ↓ev_28, ↓ev_31, ↓ev_w1, ↓ev_w2, ↓ev_p1, ↓ev_p2, ↓ev_p3, ↓ev_p4, ↓ev_p5, ↓ev_p6, ↓ev_p0, ev_r0, ev_r1, ev_r2, ↓ev16, ↓ev30, ev_34, ↓fl_0, ↓fr_0, ↓fs_0, ↓ft_0, ↓fc_0, ↓fl_1, ↓fr_1, ↓fs_1, ↓ft_1, ↓fc_1, ↓fl_2, ↓fr_2, ↓fs_2, ↓ft_2, ↓fc_2, ↓fl_3, ↓fr_3, ↓fs_3, ↓ft_3, ↓fc_3, ↓fl_4, ↓fr_4, ↓fs_4, ↓ft_4, ↓fc_4, ↓fl_5, ↓fr_5, ↓fs_5, ↓ft_5, ↓fc_5, ↓fl_6, ↓fr_6, ↓fs_6, ↓ft_6, ↓fc_6, ↓fl_7, ↓fr_7, ↓fs_7, ↓ft_7, ↓fc_7, ↓fb_0, ↓fb_1, ↓fb_2, ↓fb_3, ↓fb_4, ↓fb_5, ↓fb_6, ↓fb_7, ↓fb_8, ↓fb_9, ↓fb_10, ↓f5_0, ↓f6_0, ↓f5_1, ↓f6_1, ↓f5_2, ↓f6_2, ↓f5_3, ↓f6_3, ↓f5_4, ↓f6_4, ↓f5_5, ↓f6_5, ↓f_s, ↓f_cf, ↓f_ct, ↓gf0_0, ↓gf0_1, ↓gf0_2, ↓gf0_3, ↓gf0_4, ↓gf0_5, ↓gf0_6, ↓gf0_7, ↓gf0_8, ↓gf0_9, ↓gf0_10, ↓pf0_11, ↓gf0_11, ↓ic0, ↓gf15_0, ↓pf15_1, ↓gf15_1, ↓pf15_2, ↓gf15_2, ↓ic15, ↓gf165_0, ↓gf165_1, ↓pf165_2, ↓gf165_2, ↓gf165_3, ↓gf165_4, ↓ic165, ↓ar166, ↓al166, ↓ii166, ↓ar167, ↓al167, ↓ii167, ↓ar168, ↓al168, ↓ii168, ↓gf171_0, ↓pf171_1, ↓gf171_1, ↓pf171_2, ↓gf171_2, ↓gf171_3, ↓ic171, ↓ar172, ↓al172, ↓ii172, ↓gf179_0, ↓gf179_1, ↓gf179_2, ↓pf179_3, ↓gf179_3, ↓pf179_4, ↓gf179_4, ↓pf179_5, ↓gf179_5, ↓pf179_6, ↓gf179_6, ↓ic179, ↓ar193, ↓al193, ↓ii193, ↓gf197_0, ↓gf197_1, ↓gf197_2, ↓ic197, ↓ar207, ↓al207, ↓ii207, ↓gf208_0, ↓gf208_1, ↓gf208_2, ↓ic208, ↓ar209, ↓al209, ↓ii209, ↓ar210, ↓al210, ↓ii210, ↓ar211, ↓al211, ↓ii211, ↓pf1_0, ↓gf1_0, ↓pf1_1, ↓gf1_1, ↓gf1_2, ↓gf1_3, ↓gf1_4, ↓pf1_5, ↓gf1_5, ↓gf1_6, ↓gf1_7, ↓gf1_8, ↓ic1, ↓ar2, ↓al2, ↓ii2, ↓ar3, ↓al3, ↓ii3, ↓ar4, ↓al4, ↓ii4, ↓ar5, ↓al5, ↓ii5, ↓ar6, ↓al6, ↓ii6, ↓ar7, ↓al7, ↓ii7, ↓pf8_0, ↓gf8_0, ↓pf8_1, ↓gf8_1, ↓gf8_2, ↓gf8_3, ↓gf8_4, ↓pf8_5, ↓gf8_5, ↓gf8_6, ↓gf8_7, ↓gf8_8, ↓ic8, ↓ar9, ↓al9, ↓ii9, ↓ar10, ↓al10, ↓ii10, ↓ar11, ↓al11, ↓ii11, ↓ar12, ↓al12, ↓ii12, ↓ar13, ↓al13, ↓ii13, ↓ar14, ↓al14, ↓ii14, ↓gf157_0, ↓pf157_1, ↓gf157_1, ↓pf157_2, ↓gf157_2, ↓ic157, ↓ar158, ↓al158, ↓ii158, ↓gf159_0, ↓pf159_1, ↓gf159_1, ↓gf159_2, ↓gf159_3, ↓gf159_4, ↓pf159_5, ↓gf159_5, ↓pf159_6, ↓gf159_6, ↓gf159_7, ↓ic159, ↓ar160, ↓al160, ↓ii160, ↓ar161, ↓al161, ↓ii161, ↓ar162, ↓al162, ↓ii162, ↓ar163, ↓al163, ↓ii163, ↓ar164, ↓al164, ↓ii164, ↓gf169_0, ↓pf169_1, ↓gf169_1, ↓pf169_2, ↓gf169_2, ↓ic169, ↓ar170, ↓al170, ↓ii170, ↓gf173_0, ↓pf173_1, ↓gf173_1, ↓gf173_2, ↓gf173_3, ↓gf173_4, ↓pf173_5, ↓gf173_5, ↓pf173_6, ↓gf173_6, ↓gf173_7, ↓ic173, ↓ar174, ↓al174, ↓ii174, ↓ar175, ↓al175, ↓ii175, ↓ar176, ↓al176, ↓ii176, ↓ar177, ↓al177, ↓ii177, ↓ar178, ↓al178, ↓ii178, ↓pf180_0, ↓gf180_0, ↓pf180_1, ↓gf180_1, ↓gf180_2, ↓gf180_3, ↓gf180_4, ↓pf180_5, ↓gf180_5, ↓gf180_6, ↓gf180_7, ↓gf180_8, ↓ic180, ↓ar181, ↓al181, ↓ii181, ↓ar182, ↓al182, ↓ii182, ↓ar183, ↓al183, ↓ii183, ↓ar184, ↓al184, ↓ii184, ↓ar185, ↓al185, ↓ii185, ↓ar186, ↓al186, ↓ii186, ↓gf187_0, ↓pf187_1, ↓gf187_1, ↓gf187_2, ↓gf187_3, ↓gf187_4, ↓pf187_5, ↓gf187_5, ↓pf187_6, ↓gf187_6, ↓gf187_7, ↓ic187, ↓ar188, ↓al188, ↓ii188, ↓ar189, ↓al189, ↓ii189, ↓ar190, ↓al190, ↓ii190, ↓ar191, ↓al191, ↓ii191, ↓ar192, ↓al192, ↓ii192, ↓gf194_0, ↓pf194_1, ↓gf194_1, ↓gf194_2, ↓ic194, ↓ar195, ↓al195, ↓ii195, ↓ar196, ↓al196, ↓ii196, ↓gf198_0, ↓pf198_1, ↓gf198_1, ↓gf198_2, ↓ic198, ↓ar199, ↓al199, ↓ii199, ↓ar200, ↓al200, ↓ii200, ↓gf201_0, ↓pf201_1, ↓gf201_1, ↓gf201_2, ↓gf201_3, ↓gf201_4, ↓pf201_5, ↓gf201_5, ↓pf201_6, ↓gf201_6, ↓gf201_7, ↓ic201, ↓ar202, ↓al202, ↓ii202, ↓ar203, ↓al203, ↓ii203, ↓ar204, ↓al204, ↓ii204, ↓ar205, ↓al205, ↓ii205, ↓ar206, ↓al206, ↓ii206, cond_true, cond_false, true_and, and_true, Int.cast_ofNat_Int, Nat.reduceLT, Nat.reduceLeDiff, Nat.reduceBEq, Int.reduceLT, Int.reduceLE, Int.reduceEq, Int.reduceAdd, Nat.reduceEqDiff, not_true_eq_false, not_false_eq_true, false_implies, forall_const, eq_self, Nat.reduceAdd, Option.toList_some, Option.toList_none, List.cons_append, List.nil_append, List.length_cons, List.length_nil, Bool.false_eq_true, reduceCtorEq, true_or, or_true, false_or, or_false, Int.reduceNeg, implies_true, true_implies, xl1, xl2, xl3, xf1, xf2, xf3, p167_0, sq167_0, sq167_44]
  refine K0.use (c_leanOver ismz180 c1 f t1.1 t1.2 (by rw [wl2_off _ _ (by omega)]; exact hof t)) (by omega) (by decide) (fun r σ5 hi hv2 hq => ?_)
  obtain ⟨rfl, d1, d2⟩ := hq
  rw [wl2_flip _ _ t1.1, ← hfl, flip2] at d1
  refine S0.run 167 md167 pp167 0 rfl rfl rfl 9 53 ?_
  simp only [ev_hd, ev_sf, ev_hd0, ev_sf0, ↓ev_0, ↓ev_lx, ↓ev_7, ↓ev_8, ↓ev_9, ↓ev_33, ↓ev_11, ↓ev_12, ↓ev_12x, ↓ev_13, ↓ev_14, ↓ev_15, ↓ev_16, ↓ev_18, ↓ev_18x, ↓ev_22, ↓ev_23, ↓ev_24, ↓ev_32, ↓ev_25, ↓ev_26, ↓ev_27, ↓ev_28, ↓ev_31, ↓ev_w1, ↓ev_w2, ↓ev_p1, ↓ev_p2, ↓ev_p3, ↓ev_p4, ↓ev_p5, ↓ev_p6, ↓ev_p0, ev_r0, ev_r1, ev_r2, ↓ev16, ↓ev30, ev_34, ↓fl_0, ↓fr_0, ↓fs_0, ↓ft_0, ↓fc_0, ↓fl_1, ↓fr_1, ↓fs_1, ↓ft_1, ↓fc_1, ↓fl_2, ↓fr_2, ↓fs_2, ↓ft_2, ↓fc_2, ↓fl_3, ↓fr_3, ↓fs_3, ↓ft_3, ↓fc_3, ↓fl_4, ↓fr_4, ↓fs_4, ↓ft_4, ↓fc_4, ↓fl_5, ↓fr_5, ↓fs_5, ↓ft_5, ↓fc_5, ↓fl_6, ↓fr_6, ↓fs_6, ↓ft_6, ↓fc_6, ↓fl_7, ↓fr_7, ↓fs_7, ↓ft_7, ↓fc_7, ↓fb_0, ↓fb_1, ↓fb_2, ↓fb_3, ↓fb_4, ↓fb_5, ↓fb_6, ↓fb_7, ↓fb_8, ↓fb_9, ↓fb_10, ↓f5_0, ↓f6_0, ↓f5_1, ↓f6_1, ↓f5_2, ↓f6_2, ↓f5_3, ↓f6_3, ↓f5_4, ↓f6_4, ↓f5_5, ↓f6_5, ↓f_s, ↓f_cf, ↓f_ct, ↓gf0_0, ↓gf0_1, ↓gf0_2, ↓gf0_3, ↓gf0_4, ↓gf0_5, ↓gf0_6, ↓gf0_7, ↓gf0_8, ↓gf0_9, ↓gf0_10, ↓pf0_11, ↓gf0_11, ↓ic0, ↓gf15_0, ↓pf15_1, ↓gf15_1, ↓pf15_2, ↓gf15_2, ↓ic15, ↓gf165_0, ↓gf165_1, ↓pf165_2, ↓gf165_2, ↓gf165_3, ↓gf165_4, ↓ic165, ↓ar166, ↓al166, ↓ii166, ↓ar167, ↓al167, ↓ii167, ↓ar168, ↓al168, ↓ii168, ↓gf171_0, ↓pf171_1, ↓gf171_1, ↓pf171_2, ↓gf171_2, ↓gf171_3, ↓ic171, ↓ar172, ↓al172, ↓ii172, ↓gf179_0, ↓gf179_1, ↓gf179_2, ↓pf179_3, ↓gf179_3, ↓pf179_4, ↓gf179_4, ↓pf179_5, ↓gf179_5, ↓pf179_6, ↓gf179_6, ↓ic179, ↓ar193, ↓al193, ↓ii193, ↓gf197_0, ↓gf197_1, ↓gf197_2, ↓ic197, ↓ar207, ↓al207, ↓ii207, ↓gf208_0, ↓gf208_1, ↓gf208_2, ↓ic208, ↓ar209, ↓al209, ↓ii209, ↓ar210, ↓al210, ↓ii210, ↓ar211, ↓al211, ↓ii211, ↓pf1_0, ↓gf1_0, ↓pf1_1, ↓gf1_1, ↓gf1_2, ↓gf1_3, ↓gf1_4, ↓pf1_5, ↓gf1_5, ↓gf1_6, ↓gf1_7, ↓gf1_8, ↓ic1, ↓ar2, ↓al2, ↓ii2, ↓ar3, ↓al3, ↓ii3, ↓ar4, ↓al4, ↓ii4, ↓ar5, ↓al5, ↓ii5, ↓ar6, ↓al6, ↓ii6, ↓ar7, ↓al7, ↓ii7, ↓pf8_0, ↓gf8_0, ↓pf8_1, ↓gf8_1, ↓gf8_2, ↓gf8_3, ↓gf8_4, ↓pf8_5, ↓gf8_5, ↓gf8_6, ↓gf8_7, ↓gf8_8, ↓ic8, ↓ar9, ↓al9, ↓ii9, ↓ar10, ↓al10, ↓ii10, ↓ar11, ↓al11, ↓ii11, ↓ar12, ↓al12, ↓ii12, ↓ar13, ↓al13, ↓ii13, ↓ar14, ↓al14, ↓ii14, ↓gf157_0, ↓pf157_1, ↓gf157_1, ↓pf157_2, ↓gf157_2, ↓ic157, ↓ar158, ↓al158, ↓ii158, ↓gf159_0, ↓pf159_1, ↓gf159_1, ↓gf159_2, ↓gf159_3, ↓gf159_4, ↓pf159_5, ↓gf159_5, ↓pf159_6, ↓gf159_6, ↓gf159_7, ↓ic159, ↓ar160, ↓al160, ↓ii160, ↓ar161, ↓al161, ↓ii161, ↓ar162, ↓al162, ↓ii162, ↓ar163, ↓al163, ↓ii163, ↓ar164, ↓al164, ↓ii164, ↓gf169_0, ↓pf169_1, ↓gf169_1, ↓pf169_2, ↓gf169_2, ↓ic169, ↓ar170, ↓al170, ↓ii170, ↓gf173_0, ↓pf173_1, ↓gf173_1, ↓gf173_2, ↓gf173_3, ↓gf173_4, ↓pf173_5, ↓gf173_5, ↓pf173_6, ↓gf173_6, ↓gf173_7, ↓ic173, ↓ar174, ↓al174, ↓ii174, ↓ar175, ↓al175, ↓ii175, ↓ar176, ↓al176, ↓ii176, ↓ar177, ↓al177, ↓ii177, ↓ar178, ↓al178, ↓ii178, ↓pf180_0, ↓gf180_0, ↓pf180_1, ↓gf180_1, ↓gf180_2, ↓gf180_3, ↓gf180_4, ↓pf180_5, ↓gf180_5, ↓gf180_6, ↓gf180_7, ↓gf180_8, ↓ic180, ↓ar181, ↓al181, ↓ii181, ↓ar182, ↓al182, ↓ii182, ↓ar183, ↓al183, ↓ii183, ↓ar184, ↓al184, ↓ii184, ↓ar185, ↓al185, ↓ii185, ↓ar186, ↓al186, ↓ii186, ↓gf187_0, ↓pf187_1, ↓gf187_1, ↓gf187_2, ↓gf187_3, ↓gf187_4, ↓pf187_5, ↓gf187_5, ↓pf187_6, ↓gf187_6, ↓gf187_7, ↓ic187, ↓ar188, ↓al188, ↓ii188, ↓ar189, ↓al189, ↓ii189, ↓ar190, ↓al190, ↓ii190, ↓ar191, ↓al191, ↓ii191, ↓ar192, ↓al192, ↓ii192, ↓gf194_0, ↓pf194_1, ↓gf194_1, ↓gf194_2, ↓ic194, ↓ar195, ↓al195, ↓ii195, ↓ar196, ↓al196, ↓ii196, ↓gf198_0, ↓pf198_1, ↓gf198_1, ↓gf198_2, ↓ic198, ↓ar199, ↓al199, ↓ii199, ↓ar200, ↓al200, ↓ii200, ↓gf201_0, ↓pf201_1, ↓gf201_1, ↓gf201_2, ↓gf201_3, ↓gf201_4, ↓pf201_5, ↓gf201_5, ↓pf201_6, ↓gf201_6, ↓gf201_7, ↓ic201, ↓ar202, ↓al202, ↓ii202, ↓ar203, ↓al203, ↓ii203, ↓ar204, ↓al204, ↓ii204, ↓ar205, ↓al205, ↓ii205, ↓ar206, ↓al206, ↓ii206, cond_true, cond_false, true_and, and_true, Int.cast_ofNat_Int, Nat.reduceLT, Nat.reduceLeDiff, Nat.reduceBEq, Int.reduceLT, Int.reduceLE, Int.reduceEq, Int.reduceAdd, Nat.reduceEqDiff, not_true_eq_false, not_false_eq_true, false_implies, forall_const, eq_self, Nat.reduceAdd, Option.toList_some, Option.toList_none, List.cons_append, List.nil_append, List.length_cons, List.length_nil, Bool.false_eq_true, reduceCtorEq, true_or, or_true, false_or, or_false, Int.reduceNeg, implies_true, true_implies, xl1, xl2, xl3, xf1, xf2, xf3, p167_0, sq167_0, sq167_53]
  refine ⟨⟨t1.1, t1.2⟩, rfl, ?_, ?_, ?_, ?_, ?_⟩
  · rw [← wl2_out _ D t1.1 t1.2 (by rw [tm_off M set (by omega)]; exact t2) hD]
    exact mz_kind d1 t1.1 t1.2
  · rw [st_off _ _ _ (by omega), d2 179 (by omega)]
    refine c2.cg (fun s => ?_)
    rw [cyl_split t1.1 t1.2 t2 hD hc10 (by rw [t3]; exact hb0) o3' s]
    constructor
    · intro q
      rcases q with (q | q) | q
      · exact Or.inl q
      · exact Or.inr ⟨Or.inl q.1, q.2⟩
      · exact Or.inr ⟨Or.inr q.1, q.2⟩
    · intro q
      rcases q with q | ⟨q | q, p⟩
      · exact Or.inl (Or.inl q)
      · exact Or.inl (Or.inr ⟨q, p⟩)
      · exact Or.inr ⟨q, p⟩
  · rw [show Bc + gb (u + 1) = Bc + 1 + gb u + gb u from by omega]
    exact c3.cg (fun j x y => by rw [st_off _ _ _ (by omega), d2 j (by omega)]) (Int.le_refl _)
  · intro j hj
    rw [st_off _ _ _ (by omega), d2 179 (by omega), c4 j hj, e179 j hj]
  · intro k hk
    rw [st_off _ _ _ (by omega), d2 k (by omega), c5 k (by omega), b2 k (by omega), a5 k (by omega), F1 k (by omega)]
end TRD
