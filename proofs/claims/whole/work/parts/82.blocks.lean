-- STRETCHES OF CONSTRUCTORS
section BLK
variable {X : Cx} {d mc ms : Nat} {Q : QT} {L : List AV} {n k : Nat} {sh sh0 : Nat → Shp} {σ : Sg} {ce sl : Nat} {E : List EN} {rl : List (Option (Option Nat))}
theorem Call.mk {mid : Nat} {args : List AV} (md : MD) (hm : 0 < mid) (hmd : MTL[mid]? = some md) (hd : 1 ≤ d) (hlen : args.length ≤ md.2.2.1) (h : (∀ k j, InR (σ k j)) → (∀ v ∈ args, okv v) → Sat X d mc ms mid Q 0 (args ++ List.replicate (md.2.2.1 - args.length) (vx 9)) [] n sh σ 0 0) : Call X d mc ms mid args n sh σ Q := by
  intro hok
  refine (Call.intro (Q := Q) hd (fun md' hmd' => ?_)) hok
  cases hmd.symm.trans hmd'
  exact ⟨okm_all mid md hm hmd, hlen, Sat.inr (fun hi => h hi hok)⟩
theorem Sat.fobj (mid : Nat) (md : MD) (P : List EN) (rk : Nat) (hmd : MTL[mid]? = some md) (hP : md.2.2.2.2.2.2 = P) (hrk : md.2.2.2.1 = rkT rk) {pc p1 b0 x0 a1 b1 x1 : Nat} {f0 : Bool} {z0 z1 : Int} (hs : seek P pc = (pc, f0, 34, z0, 0, b0, x0) :: (p1, false, 29, z1, a1, b1, x1) :: E) (hs1 : seek P p1 = (p1, false, 29, z1, a1, b1, x1) :: E) (hc : ce ≤ mc) (hl : sl ≤ ms)
    (kk : Sat X d mc ms mid Q (hd E) (vr k :: L) [] n sh σ ce sl) : Sat X d mc ms mid Q pc (vr k :: L) [] n sh σ ce sl := by
  refine Sat.run mid md P rk hmd hP hrk hc hl 1 pc ?_
  rw [hs]
  show Sat X d mc ms mid Q p1 (vr k :: L) [vr k] n sh σ ce sl
  exact Sat.obj hmd hP hs1 (Nat.zero_le _) kk
theorem Sat.farr (mid : Nat) (md : MD) (P : List EN) (rk : Nat) (hmd : MTL[mid]? = some md) (hP : md.2.2.2.2.2.2 = P) (hrk : md.2.2.2.1 = rkT rk) {pc p1 p2 p3 b0 x0 a1 b1 x1 a2 b2 x2 c b x3 : Nat} {f0 : Bool} {z0 z2 z3 : Int} (N : Nat)
    (hs : seek P pc = (pc, f0, 34, z0, 0, b0, x0) :: (p1, false, 0, (N : Int), a1, b1, x1) :: (p2, false, 19, z2, a2, b2, x2) :: (p3, false, 10, z3, c, b, x3) :: E) (hs2 : seek P p2 = (p2, false, 19, z2, a2, b2, x2) :: (p3, false, 10, z3, c, b, x3) :: E) (hs3 : seek P p3 = (p3, false, 10, z3, c, b, x3) :: E) (h1 : ce + 1 ≤ mc) (h2 : sl + N ≤ ms) (hN : N < 100000)
    (hk : sh k = .inr (.inr (c, rl))) (hb : b < rl.length) (hkn : k < n) (hlo : ∀ j, j < k → sh j = sh0 j) (H : ∀ j, k < j → j < n → sh j = SH j) (hS : SH n = .inl ((a2 == 1), N))
    (kk : ∀ (sh2 : Nat → Shp) (σ2 : Sg), sh2 k = .inr (.inr (c, rl.set b (some (some n)))) → (∀ j, j < k → sh2 j = sh0 j) → (∀ j, k < j → j < n + 1 → sh2 j = SH j) → σ2 n = (fun _ => 0) → (∀ j, j ≠ n → σ2 j = σ j) → Sat X d mc ms mid Q (hd E) (vr k :: L) [] (n + 1) sh2 σ2 (ce + 1) (sl + N)) : Sat X d mc ms mid Q pc (vr k :: L) [] n sh σ ce sl := by
  refine Sat.run mid md P rk hmd hP hrk (by omega) (by omega) 2 pc ?_
  rw [hs]
  show Sat X d mc ms mid Q p2 (vr k :: L) [vi (N : Int), vr k] n sh σ ce sl
  refine Sat.newa hmd hP hs2 hN h1 h2 (fun sh2 σ2 e1 e2 e3 e4 => ?_)
  show Sat X d mc ms mid Q p3 (vr k :: L) [vr n, vr k] (n + 1) sh2 σ2 (ce + 1) (sl + N)
  refine Sat.putF hmd hP hs3 (by rw [e2 k (by omega)]; exact hk) hb (fun sh3 g1 g2 => ?_)
  refine kk sh3 σ2 g1 (fun j hj => by rw [g2 j (by omega), e2 j (by omega)]; exact hlo j hj) (fun j a b => ?_) e3 e4
  rw [g2 j (by omega)]
  by_cases e : j = n
  · rw [e, e1, hS]
  · rw [e2 j e]; exact H j a (by omega)
theorem Sat.fint (mid : Nat) (md : MD) (P : List EN) (rk : Nat) (hmd : MTL[mid]? = some md) (hP : md.2.2.2.2.2.2 = P) (hrk : md.2.2.2.1 = rkT rk) {pc p1 p2 p3 b0 x0 a1 b1 x1 c b x2 c4 a4 b4 x4 cd : Nat} {f0 f4 : Bool} {z0 z2 z4 : Int} (v : Int)
    (hs : seek P pc = (pc, f0, 34, z0, 0, b0, x0) :: (p1, false, 0, v, a1, b1, x1) :: (p2, false, cd, z2, c, b, x2) :: (p3, f4, c4, z4, a4, b4, x4) :: E) (hcd : cd = 9 ∨ (cd = 33 ∧ (v = 0 ∨ v = 1))) (hc : ce ≤ mc) (hl : sl ≤ ms)
    (hk : sh k = .inr (.inr (c, rl))) (hb : rl[b]? = some none)
    (kk : Sat X d mc ms mid Q p3 (vr k :: L) [] n sh (st σ k b v) ce sl) : Sat X d mc ms mid Q pc (vr k :: L) [] n sh σ ce sl := by
  refine Sat.run mid md P rk hmd hP hrk hc hl 3 pc ?_
  rw [hs]
  have key : pfl (sh k) c b (bif f4 then Sat X d mc ms mid Q p3 (vr k :: L) [] n sh (st σ k b v) ce sl else Sat X d mc ms mid Q p3 (vr k :: L) [] n sh (st σ k b v) ce sl) := by
    rw [hk]
    refine ⟨rfl, hb, ?_⟩
    cases f4 <;> exact kk
  rcases hcd with rfl | ⟨rfl, h01⟩
  · exact key
  · exact ⟨h01, key⟩
/-- what a constructor leaves, from cell k on -/
def iPost (k sz : Nat) (sh : Nat → Shp) (σ : Sg) (F : Sg → Prop) : QT := fun r n' sh' σ' => r = none ∧ n' = k + sz ∧ (∀ j, j < k → sh' j = sh j) ∧ (∀ j, k ≤ j → j < k + sz → sh' j = SH j) ∧ (∀ j, j < k → σ' j = σ j) ∧ F σ'
def IC (X : Cx) (d mc ms mid c k sz : Nat) (F : Sg → Prop) : Prop := ∀ (sh : Nat → Shp) (σ : Sg), sh k = .inr (.inr (c, rl0 c)) → σ k = (fun _ => 0) → Call X d mc ms mid [vr k] (k + 1) sh σ (iPost k sz sh σ F)
theorem Sat.fnew (mid : Nat) (md : MD) (P : List EN) (rk : Nat) (hmd : MTL[mid]? = some md) (hP : md.2.2.2.2.2.2 = P) (hrk : md.2.2.2.1 = rkT rk) {pc p1 p2 p3 p4 b0 x0 cn b1 x1 a2 b2 x2 callee x3 c b x4 d' mc' ms' sz : Nat} {f0 : Bool} {z0 z1 z2 z4 : Int} {F : Sg → Prop} {q : vw_C}
    (hs : seek P pc = (pc, f0, 34, z0, 0, b0, x0) :: (p1, false, 21, z1, cn, b1, x1) :: (p2, false, 22, z2, a2, b2, x2) :: (p3, false, 32, (cn : Int), callee, 1, x3) :: (p4, false, 10, z4, c, b, x4) :: E) (hs1 : seek P p1 = (p1, false, 21, z1, cn, b1, x1) :: (p2, false, 22, z2, a2, b2, x2) :: (p3, false, 32, (cn : Int), callee, 1, x3) :: (p4, false, 10, z4, c, b, x4) :: E) (hs2 : seek P p2 = (p2, false, 22, z2, a2, b2, x2) :: (p3, false, 32, (cn : Int), callee, 1, x3) :: (p4, false, 10, z4, c, b, x4) :: E) (hs4 : seek P p4 = (p4, false, 10, z4, c, b, x4) :: E)
    (hq : vwCl[cn]? = some q) (hI : IC X d' mc' ms' callee cn n sz F) (hdd : d' < d) (hsz : 1 ≤ sz) (h1 : ce + 1 + mc' ≤ mc) (h2 : sl + q.2.2 + ms' ≤ ms)
    (hk : sh k = .inr (.inr (c, rl))) (hb : b < rl.length) (hkn : k < n) (hlo : ∀ j, j < k → sh j = sh0 j) (H : ∀ j, k < j → j < n → sh j = SH j)
    (kk : ∀ (sh2 : Nat → Shp) (σ2 : Sg), sh2 k = .inr (.inr (c, rl.set b (some (some n)))) → (∀ j, j < k → sh2 j = sh0 j) → (∀ j, k < j → j < n + sz → sh2 j = SH j) → (∀ j, j < n → σ2 j = σ j) → F σ2 → Sat X d mc ms mid Q (hd E) (vr k :: L) [] (n + sz) sh2 σ2 (ce + 1 + mc') (sl + q.2.2 + ms')) : Sat X d mc ms mid Q pc (vr k :: L) [] n sh σ ce sl := by
  refine Sat.run mid md P rk hmd hP hrk (by omega) (by omega) 1 pc ?_
  rw [hs]
  show Sat X d mc ms mid Q p1 (vr k :: L) [vr k] n sh σ ce sl
  refine Sat.new hmd hP hs1 hq (by omega) (by omega) (fun sh2 σ2 e1 e2 e3 e4 => ?_)
  show Sat X d mc ms mid Q p2 (vr k :: L) [vr n, vr k] (n + 1) sh2 σ2 (ce + 1) (sl + q.2.2)
  refine Sat.run mid md P rk hmd hP hrk (by omega) (by omega) 2 p2 ?_
  rw [hs2]
  show isC (sh2 n) (cn : Int) ∧ CKm X d mc ms mid Q (n + 1) sh2 (ce + 1) (sl + q.2.2) callee [vr n] p4 (vr k :: L) [vr n, vr k] σ2
  refine ⟨by rw [e1]; rfl, d', mc', ms', iPost n sz sh2 σ2 F, hdd, h1, h2, Nat.le_of_ble_eq_true rfl, hI sh2 σ2 e1 e3, fun r n' sh' σ' hi hv hq2 => ?_⟩
  obtain ⟨rfl, rfl, g2, g3, g4, g5⟩ := hq2
  show Sat X d mc ms mid Q p4 (vr k :: L) [vr n, vr k] (n + sz) sh' σ' (ce + 1 + mc') (sl + q.2.2 + ms')
  refine Sat.putF hmd hP hs4 (by rw [g2 k hkn, e2 k (by omega)]; exact hk) hb (fun sh3 t1 t2 => ?_)
  refine kk sh3 σ' t1 (fun j hj => by rw [t2 j (by omega), g2 j (by omega), e2 j (by omega)]; exact hlo j hj) (fun j x y => ?_) (fun j hj => by rw [g4 j hj, e4 j (by omega)]) g5
  rw [t2 j (by omega)]
  by_cases e : j < n
  · rw [g2 j e, e2 j (by omega)]; exact H j x e
  · exact g3 j (by omega) y
theorem j_fillG (N : Nat) (hs : sh k = .inl (false, N)) (hN : N < 1000) (v : Int) : Call X 1 0 0 178 [vr k, vi v] n sh σ (fun r n' sh' σ' => r = none ∧ n' = n ∧ sh' = sh ∧ (∀ j, 0 ≤ j → j < (N : Int) → σ' k j = v) ∧ ∀ k', k' ≠ k → σ' k' = σ k') := by
  have har : ∀ (i : Int) (p : Prop), arr (sh k) false i p = ((0 ≤ i ∧ i < (N : Int)) ∧ p) := fun i p => by rw [hs]; exact propext ⟨fun q => q.2, fun q => ⟨rfl, q⟩⟩
  have hal : ∀ (KI : Int → Prop), aln (sh k) KI = KI (N : Int) := fun KI => by rw [hs]; rfl
  refine Call.mk md178 (by decide) rfl (by omega) (Nat.le_of_ble_eq_true rfl) ?_
  intro hin hav
  show Sat X 1 0 0 178 (fun r n' sh' σ' => r = none ∧ n' = n ∧ sh' = sh ∧ (∀ j, 0 ≤ j → j < (N : Int) → σ' k j = v) ∧ ∀ k', k' ≠ k → σ' k' = σ k') 0 [vr k, vi v, vx 9, vx 9] [] n sh σ 0 0
  have loop : ∀ (m : Nat) (i : Int) (σ1 : Sg), 0 ≤ i → i + m = N → (∀ j, 0 ≤ j → j < i → σ1 k j = v) → (∀ k', k' ≠ k → σ1 k' = σ k') → Sat X 1 0 0 178 (fun r n' sh' σ' => r = none ∧ n' = n ∧ sh' = sh ∧ (∀ j, 0 ≤ j → j < (N : Int) → σ' k j = v) ∧ ∀ k', k' ≠ k → σ' k' = σ k') 5 [vr k, vi v, vi i, vi (N : Int)] [] n sh σ1 0 0 := by
    intro m
    induction m with
    | zero =>
      intro i σ1 h0 h1 h2 h3
      refine Sat.run 178 md178 pp178 0 rfl rfl rfl (by omega) (by omega) 11 5 ?_
      simp only [ev_hd, ev_sf, ev_hd0, ev_sf0, ↓ev_0, ↓ev_lx, ↓ev_7, ↓ev_8, ↓ev_9, ↓ev_33, ↓ev_11, ↓ev_12, ↓ev_12x, ↓ev_13, ↓ev_14, ↓ev_15, ↓ev_16, ↓ev_18, ↓ev_18x, ↓ev_22, ↓ev_23, ↓ev_24, ↓ev_32, ↓ev_25, ↓ev_26, ↓ev_27, ↓ev_28, ↓ev_31, ↓ev_w1, ↓ev_w2, ↓ev_p1, ↓ev_p2, ↓ev_p3, ↓ev_p4, ↓ev_p5, ↓ev_p6, ↓ev_p0, ev_r0, ev_r1, ev_r2, ↓ev16, ↓ev30, ev_34, ↓fl_0, ↓fr_0, ↓fs_0, ↓ft_0, ↓fc_0, ↓fl_1, ↓fr_1, ↓fs_1, ↓ft_1, ↓fc_1, ↓fl_2, ↓fr_2, ↓fs_2, ↓ft_2, ↓fc_2, ↓fl_3, ↓fr_3, ↓fs_3, ↓ft_3, ↓fc_3, ↓fl_4, ↓fr_4, ↓fs_4, ↓ft_4, ↓fc_4, ↓fl_5, ↓fr_5, ↓fs_5, ↓ft_5, ↓fc_5, ↓fl_6, ↓fr_6, ↓fs_6, ↓ft_6, ↓fc_6, ↓fl_7, ↓fr_7, ↓fs_7, ↓ft_7, ↓fc_7, ↓fb_0, ↓fb_1, ↓fb_2, ↓fb_3, ↓fb_4, ↓fb_5, ↓fb_6, ↓fb_7, ↓fb_8, ↓fb_9, ↓fb_10, ↓f5_0, ↓f6_0, ↓f5_1, ↓f6_1, ↓f5_2, ↓f6_2, ↓f5_3, ↓f6_3, ↓f5_4, ↓f6_4, ↓f5_5, ↓f6_5, ↓f_s, ↓f_cf, ↓f_ct, cond_true, cond_false, true_and, and_true, Int.cast_ofNat_Int, Nat.reduceLT, Nat.reduceLeDiff, Nat.reduceBEq, Int.reduceLT, Int.reduceLE, Int.reduceEq, Int.reduceAdd, Nat.reduceEqDiff, not_true_eq_false, not_false_eq_true, false_implies, forall_const, eq_self, Nat.reduceAdd, Option.toList_some, Option.toList_none, List.cons_append, List.nil_append, List.length_cons, List.length_nil, Bool.false_eq_true, reduceCtorEq, true_or, or_true, false_or, or_false, Int.reduceNeg, implies_true, true_implies, xl1, xl2, xl3, xf1, xf2, xf3, p178_0, p178_5, p178_20, sq178_0, sq178_5, sq178_20, har, hal]
      exact ⟨fun _ => ⟨fun j a b => h2 j a (by omega), h3⟩, fun q => by omega⟩
    | succ m ih =>
      intro i σ1 h0 h1 h2 h3
      refine Sat.run 178 md178 pp178 0 rfl rfl rfl (by omega) (by omega) 11 5 ?_
      simp only [ev_hd, ev_sf, ev_hd0, ev_sf0, ↓ev_0, ↓ev_lx, ↓ev_7, ↓ev_8, ↓ev_9, ↓ev_33, ↓ev_11, ↓ev_12, ↓ev_12x, ↓ev_13, ↓ev_14, ↓ev_15, ↓ev_16, ↓ev_18, ↓ev_18x, ↓ev_22, ↓ev_23, ↓ev_24, ↓ev_32, ↓ev_25, ↓ev_26, ↓ev_27, ↓ev_28, ↓ev_31, ↓ev_w1, ↓ev_w2, ↓ev_p1, ↓ev_p2, ↓ev_p3, ↓ev_p4, ↓ev_p5, ↓ev_p6, ↓ev_p0, ev_r0, ev_r1, ev_r2, ↓ev16, ↓ev30, ev_34, ↓fl_0, ↓fr_0, ↓fs_0, ↓ft_0, ↓fc_0, ↓fl_1, ↓fr_1, ↓fs_1, ↓ft_1, ↓fc_1, ↓fl_2, ↓fr_2, ↓fs_2, ↓ft_2, ↓fc_2, ↓fl_3, ↓fr_3, ↓fs_3, ↓ft_3, ↓fc_3, ↓fl_4, ↓fr_4, ↓fs_4, ↓ft_4, ↓fc_4, ↓fl_5, ↓fr_5, ↓fs_5, ↓ft_5, ↓fc_5, ↓fl_6, ↓fr_6, ↓fs_6, ↓ft_6, ↓fc_6, ↓fl_7, ↓fr_7, ↓fs_7, ↓ft_7, ↓fc_7, ↓fb_0, ↓fb_1, ↓fb_2, ↓fb_3, ↓fb_4, ↓fb_5, ↓fb_6, ↓fb_7, ↓fb_8, ↓fb_9, ↓fb_10, ↓f5_0, ↓f6_0, ↓f5_1, ↓f6_1, ↓f5_2, ↓f6_2, ↓f5_3, ↓f6_3, ↓f5_4, ↓f6_4, ↓f5_5, ↓f6_5, ↓f_s, ↓f_cf, ↓f_ct, cond_true, cond_false, true_and, and_true, Int.cast_ofNat_Int, Nat.reduceLT, Nat.reduceLeDiff, Nat.reduceBEq, Int.reduceLT, Int.reduceLE, Int.reduceEq, Int.reduceAdd, Nat.reduceEqDiff, not_true_eq_false, not_false_eq_true, false_implies, forall_const, eq_self, Nat.reduceAdd, Option.toList_some, Option.toList_none, List.cons_append, List.nil_append, List.length_cons, List.length_nil, Bool.false_eq_true, reduceCtorEq, true_or, or_true, false_or, or_false, Int.reduceNeg, implies_true, true_implies, xl1, xl2, xl3, xf1, xf2, xf3, p178_0, p178_5, p178_20, sq178_0, sq178_5, sq178_20, har, hal]
      refine ⟨fun q => by omega, fun q => ⟨by omega, by unfold InR; omega, ih (i + 1) _ (by omega) (by omega) (fun j a b => ?_) (fun k' a => by rw [st_off _ _ _ a]; exact h3 k' a)⟩⟩
      by_cases e : j = i
      · subst e; rw [st_hit]
      · rw [st_mis e]; exact h2 j a (by omega)
  refine Sat.run 178 md178 pp178 0 rfl rfl rfl (by omega) (by omega) 7 0 ?_
  simp only [ev_hd, ev_sf, ev_hd0, ev_sf0, ↓ev_0, ↓ev_lx, ↓ev_7, ↓ev_8, ↓ev_9, ↓ev_33, ↓ev_11, ↓ev_12, ↓ev_12x, ↓ev_13, ↓ev_14, ↓ev_15, ↓ev_16, ↓ev_18, ↓ev_18x, ↓ev_22, ↓ev_23, ↓ev_24, ↓ev_32, ↓ev_25, ↓ev_26, ↓ev_27, ↓ev_28, ↓ev_31, ↓ev_w1, ↓ev_w2, ↓ev_p1, ↓ev_p2, ↓ev_p3, ↓ev_p4, ↓ev_p5, ↓ev_p6, ↓ev_p0, ev_r0, ev_r1, ev_r2, ↓ev16, ↓ev30, ev_34, ↓fl_0, ↓fr_0, ↓fs_0, ↓ft_0, ↓fc_0, ↓fl_1, ↓fr_1, ↓fs_1, ↓ft_1, ↓fc_1, ↓fl_2, ↓fr_2, ↓fs_2, ↓ft_2, ↓fc_2, ↓fl_3, ↓fr_3, ↓fs_3, ↓ft_3, ↓fc_3, ↓fl_4, ↓fr_4, ↓fs_4, ↓ft_4, ↓fc_4, ↓fl_5, ↓fr_5, ↓fs_5, ↓ft_5, ↓fc_5, ↓fl_6, ↓fr_6, ↓fs_6, ↓ft_6, ↓fc_6, ↓fl_7, ↓fr_7, ↓fs_7, ↓ft_7, ↓fc_7, ↓fb_0, ↓fb_1, ↓fb_2, ↓fb_3, ↓fb_4, ↓fb_5, ↓fb_6, ↓fb_7, ↓fb_8, ↓fb_9, ↓fb_10, ↓f5_0, ↓f6_0, ↓f5_1, ↓f6_1, ↓f5_2, ↓f6_2, ↓f5_3, ↓f6_3, ↓f5_4, ↓f6_4, ↓f5_5, ↓f6_5, ↓f_s, ↓f_cf, ↓f_ct, cond_true, cond_false, true_and, and_true, Int.cast_ofNat_Int, Nat.reduceLT, Nat.reduceLeDiff, Nat.reduceBEq, Int.reduceLT, Int.reduceLE, Int.reduceEq, Int.reduceAdd, Nat.reduceEqDiff, not_true_eq_false, not_false_eq_true, false_implies, forall_const, eq_self, Nat.reduceAdd, Option.toList_some, Option.toList_none, List.cons_append, List.nil_append, List.length_cons, List.length_nil, Bool.false_eq_true, reduceCtorEq, true_or, or_true, false_or, or_false, Int.reduceNeg, implies_true, true_implies, xl1, xl2, xl3, xf1, xf2, xf3, p178_0, p178_5, p178_20, sq178_0, sq178_5, sq178_20, har, hal]
  exact ⟨by unfold InR; omega, loop N 0 σ (by omega) (by omega) (fun j a b => by omega) (fun _ _ => rfl)⟩
end BLK
section BLK2
variable {X : Cx} {d mc ms : Nat} {Q : QT} {L : List AV} {n k : Nat} {sh sh0 : Nat → Shp} {σ : Sg} {ce sl : Nat} {E : List EN} {rl : List (Option (Option Nat))}
theorem Sat.ffill (mid : Nat) (md : MD) (P : List EN) (rk : Nat) (hmd : MTL[mid]? = some md) (hP : md.2.2.2.2.2.2 = P) (hrk : md.2.2.2.1 = rkT rk) {pc p1 p2 p3 p4 b0 x0 c b x1 a2 b2 x2 x3 c4 a4 b4 x4 : Nat} {f0 f4 : Bool} {z0 z1 z3 z4 : Int} (v : Int)
    (hs : seek P pc = (pc, f0, 34, z0, 0, b0, x0) :: (p1, false, 8, z1, c, b, x1) :: (p2, false, 0, v, a2, b2, x2) :: (p3, false, 24, z3, 178, 2, x3) :: (p4, f4, c4, z4, a4, b4, x4) :: E) (hc : ce ≤ mc) (hl : sl ≤ ms) (hd : 1 < d)
    {kc N : Nat} (hk : sh k = .inr (.inr (c, rl))) (hb : rl[b]? = some (some (some kc))) (hkc : sh kc = .inl (false, N)) (hN : N < 1000)
    (kk : ∀ σ2 : Sg, (∀ j, 0 ≤ j → j < (N : Int) → σ2 kc j = v) → (∀ j, j ≠ kc → σ2 j = σ j) → Sat X d mc ms mid Q p4 (vr k :: L) [] n sh σ2 ce sl) : Sat X d mc ms mid Q pc (vr k :: L) [] n sh σ ce sl := by
  refine Sat.run mid md P rk hmd hP hrk hc hl 4 pc ?_
  rw [hs]
  have key : CKm X d mc ms mid Q n sh ce sl 178 [vr kc, vi v] p4 (vr k :: L) [] σ := by
    refine ⟨1, 0, 0, _, hd, by omega, by omega, Nat.zero_le _, j_fillG N hkc hN v, fun r n' sh' σ' hi hv hq => ?_⟩
    obtain ⟨rfl, rfl, rfl, g1, g2⟩ := hq
    exact kk σ' g1 g2
  show gfl (sh k) c b (σ k) (fun w => CKm X d mc ms mid Q n sh ce sl 178 [w, vi v] p4 (vr k :: L) [] σ)
  unfold gfl
  rw [hk]
  refine ⟨rfl, ?_⟩
  rw [hb]
  exact key
theorem Sat.fanew (mid : Nat) (md : MD) (P : List EN) (rk : Nat) (hmd : MTL[mid]? = some md) (hP : md.2.2.2.2.2.2 = P) (hrk : md.2.2.2.1 = rkT rk) {pc p1 p2 p3 b0 x0 a1 b1 x1 a2 b2 x2 c b x3 : Nat} {f0 : Bool} {z0 z2 z3 : Int} (N : Nat)
    (hs : seek P pc = (pc, f0, 34, z0, 0, b0, x0) :: (p1, false, 0, (N : Int), a1, b1, x1) :: (p2, false, 20, z2, a2, b2, x2) :: (p3, false, 10, z3, c, b, x3) :: E) (hs2 : seek P p2 = (p2, false, 20, z2, a2, b2, x2) :: (p3, false, 10, z3, c, b, x3) :: E) (hs3 : seek P p3 = (p3, false, 10, z3, c, b, x3) :: E) (h1 : ce + 1 ≤ mc) (h2 : sl + N ≤ ms) (hN : N < 100000)
    (hk : sh k = .inr (.inr (c, rl))) (hb : b < rl.length) (hkn : k < n)
    (kk : ∀ (sh2 : Nat → Shp), sh2 k = .inr (.inr (c, rl.set b (some (some n)))) → sh2 n = .inr (.inl (N, fun _ => none)) → (∀ j, j ≠ k → j ≠ n → sh2 j = sh j) → Sat X d mc ms mid Q (hd E) (vr k :: L) [] (n + 1) sh2 σ (ce + 1) (sl + N)) : Sat X d mc ms mid Q pc (vr k :: L) [] n sh σ ce sl := by
  refine Sat.run mid md P rk hmd hP hrk (by omega) (by omega) 2 pc ?_
  rw [hs]
  show Sat X d mc ms mid Q p2 (vr k :: L) [vi (N : Int), vr k] n sh σ ce sl
  refine Sat.anew hmd hP hs2 hN h1 h2 (fun sh2 e1 e2 => ?_)
  show Sat X d mc ms mid Q p3 (vr k :: L) [vr n, vr k] (n + 1) sh2 σ (ce + 1) (sl + N)
  refine Sat.putF hmd hP hs3 (by rw [e2 k (by omega)]; exact hk) hb (fun sh3 g1 g2 => ?_)
  exact kk sh3 g1 (by rw [g2 n (by omega)]; exact e1) (fun j a b => by rw [g2 j a, e2 j b])
end BLK2
section BLK3
variable {X : Cx} {d mc ms mid : Nat} {Q : QT} {L St : List AV} {n k pc : Nat} {sh : Nat → Shp} {σ : Sg} {ce sl : Nat}
theorem f_0 {S : Nat → List AV → List AV → Sg → Prop} {R : Option AV → Sg → Prop} {CK : Nat → List AV → Nat → List AV → List AV → Sg → Prop} {rb : Bool} {P E : List EN} {c a b x : Nat} {z : Int} {fl : Bool} : wq X sh S R CK rb P 0 ((pc, fl, c, z, a, b, x) :: E) L St σ = S pc L St σ := Eq.trans rfl rfl
theorem Whp.re {H : Heap} (hW : Whp X n sh σ H) {len : Nat} {g g' : Nat → Option Nat} (hk : sh k = .inr (.inl (len, g))) (hg : ∀ j, j < len → g j = g' j) : Whp X n (fun j => if j = k then .inr (.inl (len, g')) else sh j) σ H := by
  have hkn : k < n := sh_lt hW (by rw [hk]; exact fun h => by cases h)
  have ha : (wl X n sh σ)[k]? = some (X.1 + k, .inl (X.2.2.1.2.2, len, .inr (.inr (.inr (.inr (fun j => (g j).map (X.1 + ·))))))) := by rw [wl_get hkn, hk]; rfl
  have h1 := hW.2.1 k _ ha
  have h1 : H[X.1 + k]? = some (vp_cell _ _) := h1
  refine my_set (k := k) (sh' := fun j => if j = k then .inr (.inl (len, g')) else sh j) (σ' := σ) hW hkn rfl (fun _ _ => rfl) ?_ (fun j hj => ⟨if_neg hj, rfl⟩) hW.2.2.1
  rw [if_pos rfl]
  show H[X.1 + k]? = some (vp_cell _ _)
  rw [h1]
  dsimp only
  rw [vp_cell_q, vp_cell_q]
  unfold arrV
  congr 3
  funext j
  show va_rf ((g j.val).map (X.1 + ·)) = va_rf ((g' j.val).map (X.1 + ·))
  rw [hg j.val j.isLt]
theorem Sat.re {len : Nat} {g : Nat → Option Nat} (g' : Nat → Option Nat) (hk : sh k = .inr (.inl (len, g))) (hg : ∀ j, j < len → g j = g' j) (kk : ∀ sh2 : Nat → Shp, sh2 k = .inr (.inl (len, g')) → (∀ j, j ≠ k → sh2 j = sh j) → Sat X d mc ms mid Q pc L St n sh2 σ ce sl) : Sat X d mc ms mid Q pc L St n sh σ ce sl :=
  fun md hmd Z hZ hL hS H locs ls hl hW hv => kk (fun j => if j = k then .inr (.inl (len, g')) else sh j) (if_pos rfl) (fun j hj => if_neg hj) md hmd Z hZ hL hS H locs ls hl (hW.re hk hg) hv
end BLK3
section BLK4
variable {X : Cx} {d mc ms : Nat} {Q : QT} {L : List AV} {n k : Nat} {sh : Nat → Shp} {σ : Sg} {ce sl : Nat} {E : List EN} {rl : List (Option (Option Nat))}
theorem Sat.fast (mid : Nat) (md : MD) (P : List EN) (rk : Nat) (hmd : MTL[mid]? = some md) (hP : md.2.2.2.2.2.2 = P) (hrk : md.2.2.2.1 = rkT rk) {pc p1 p2 p3 p4 p5 b0 x0 c b x1 a2 b2 x2 a3 b3 x3 a4 b4 x4 c5 a5 b5 x5 : Nat} {f0 f5 : Bool} {z0 z1 z4 z5 : Int} (i v : Int)
    (hs : seek P pc = (pc, f0, 34, z0, 0, b0, x0) :: (p1, false, 8, z1, c, b, x1) :: (p2, false, 0, i, a2, b2, x2) :: (p3, false, 0, v, a3, b3, x3) :: (p4, false, 13, z4, a4, b4, x4) :: (p5, f5, c5, z5, a5, b5, x5) :: E) (hc : ce ≤ mc) (hl : sl ≤ ms)
    {kc N : Nat} (hk : sh k = .inr (.inr (c, rl))) (hb : rl[b]? = some (some (some kc))) (hkc : sh kc = .inl (false, N)) (h0 : 0 ≤ i) (h1 : i < (N : Int))
    (kk : Sat X d mc ms mid Q p5 (vr k :: L) [] n sh (st σ kc i v) ce sl) : Sat X d mc ms mid Q pc (vr k :: L) [] n sh σ ce sl := by
  refine Sat.run mid md P rk hmd hP hrk hc hl 5 pc ?_
  rw [hs]
  have e : ∀ K, gfl (sh k) c b (σ k) K = K (vr kc) := by
    intro K
    unfold gfl
    rw [hk]
    dsimp only
    rw [hb]
    exact propext ⟨fun q => q.2, fun q => ⟨rfl, q⟩⟩
  have ea : ∀ p, arr (sh kc) false i p = ((0 ≤ i ∧ i < (N : Int)) ∧ p) := fun p => by rw [hkc]; exact propext ⟨fun q => q.2, fun q => ⟨rfl, q⟩⟩
  cases f5
  · simp only [↓f_s, ↓fr_0, ↓ev_8, ↓ev_0, ↓ev_13, ↓f_cf, ↓f_ct, ev_sf, ev_hd, ↓f_0, ↓e, ↓ea]
    exact ⟨⟨h0, h1⟩, kk⟩
  · simp only [↓f_s, ↓fr_0, ↓ev_8, ↓ev_0, ↓ev_13, ↓f_cf, ↓f_ct, ev_sf, ev_hd, ↓f_0, ↓e, ↓ea]
    exact ⟨⟨h0, h1⟩, kk⟩
end BLK4
