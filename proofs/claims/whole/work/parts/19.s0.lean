-- CONTRACTS of methods that make nothing, over the whole system's world
def q0 (Q : Option AV → Sg → Prop) : QT := fun r n' sh' σ' => n' = NN ∧ sh' = SH ∧ Q r σ'
def C0 (X : Cx) (d mid : Nat) (args : List AV) (σ : Sg) (Q : Option AV → Sg → Prop) : Prop := Call X d 0 0 mid args NN SH σ (q0 Q)
def S0 (X : Cx) (d mid : Nat) (Q : Option AV → Sg → Prop) (pc : Nat) (L St : List AV) (σ : Sg) : Prop := Sat X d 0 0 mid (q0 Q) pc L St NN SH σ 0 0
def K0 (X : Cx) (d mid : Nat) (Q : Option AV → Sg → Prop) (callee : Nat) (args : List AV) (nx : Nat) (L rest : List AV) (σ : Sg) : Prop :=
  ∃ (d' : Nat) (Q1 : Option AV → Sg → Prop), d' < d ∧ rest.length ≤ 8 ∧ C0 X d' callee args σ Q1 ∧ ∀ r σ', (∀ k j, InR (σ' k j)) → (∀ v, r = some v → okv v) → Q1 r σ' → S0 X d mid Q nx L (r.toList ++ rest) σ'
theorem S0.run {X : Cx} {d : Nat} {Q : Option AV → Sg → Prop} {L St : List AV} {σ : Sg} (mid : Nat) (md : MD) (P : List EN) (rk : Nat) (hmd : MTL[mid]? = some md) (hP : md.2.2.2.2.2.2 = P) (hrk : md.2.2.2.1 = rkT rk) (f pc : Nat)
    (h : wq X SH (S0 X d mid Q) (fun r σ' => rtk rk r ∧ Q r σ') (K0 X d mid Q) (rk == 2) P f (seek P pc) L St σ) : S0 X d mid Q pc L St σ := by
  intro md' hmd' Z hZ
  cases hmd.symm.trans hmd'
  have hok : okP md P = true := by rw [← hP]; exact okp_all hmd
  have hret := ret_ok (n := NN) (sh := SH) (ce := 0) (sl := 0) hZ (Nat.le_refl 0) (Nat.le_refl 0) hrk
  have h3 := wq_sound (Z := Z) (md := md) (n := NN) (ce := 0) (sl := 0) hZ.1 hok (fun t L St σ hS => hS md hmd Z hZ)
    (R := fun r σ' => rtk rk r ∧ Q r σ') ⟨fun pc x L σ a b c => hret.1 pc x L σ a b ⟨c.1, rfl, rfl, c.2⟩, fun pc L σ a c => hret.2 pc L σ a ⟨c.1, rfl, rfl, c.2⟩⟩
    (fun callee args nx L rest σ hC => (show CKm X d 0 0 mid (q0 Q) NN SH 0 0 callee args nx L rest σ from by
      obtain ⟨d', Q1, a1, a2, a3, a4⟩ := hC
      refine ⟨d', 0, 0, q0 Q1, a1, Nat.le_refl 0, Nat.le_refl 0, a2, a3, fun r n' sh' σ' b1 b2 b3 => ?_⟩
      obtain ⟨rfl, rfl, b4⟩ := b3
      exact a4 r σ' b1 b2 b4).use hmd hZ) f (seek P pc) L St σ (seek_ok P pc hok) h
  cases hsk : seek P pc with
  | nil =>
    rw [hsk] at h
    cases f <;> exact h.elim
  | cons q F =>
    rw [hsk] at h3
    have e1 : hd (q :: F) = pc := seek_hd P pc hsk
    rw [e1] at h3
    exact h3
theorem C0.intro {X : Cx} {d mid : Nat} {args : List AV} {σ : Sg} {Q : Option AV → Sg → Prop} (md : MD) (hm : 0 < mid) (hmd : MTL[mid]? = some md) (hd : 1 ≤ d) (hlen : args.length ≤ md.2.2.1) (h : (∀ k j, InR (σ k j)) → (∀ v ∈ args, okv v) → S0 X d mid Q 0 (args ++ List.replicate (md.2.2.1 - args.length) (vx 9)) [] σ) : C0 X d mid args σ Q := by
  intro hok
  refine (Call.intro (Q := q0 Q) hd (fun md' hmd' => ?_)) hok
  cases hmd.symm.trans hmd'
  exact ⟨okm_all mid md hm hmd, hlen, Sat.inr (fun hi => h hi hok)⟩
theorem K0.use {X : Cx} {d mid : Nat} {Q : Option AV → Sg → Prop} {callee : Nat} {args : List AV} {nx : Nat} {L rest : List AV} {σ : Sg} {d' : Nat} {Q1 : Option AV → Sg → Prop} (hC : C0 X d' callee args σ Q1) (hd : d' < d) (hr : rest.length ≤ 8) (h : ∀ r σ', (∀ k j, InR (σ' k j)) → (∀ v, r = some v → okv v) → Q1 r σ' → S0 X d mid Q nx L (r.toList ++ rest) σ') : K0 X d mid Q callee args nx L rest σ := ⟨d', Q1, hd, hr, hC, h⟩
theorem C0.mono {X : Cx} {d mid : Nat} {args : List AV} {σ : Sg} {Q Q' : Option AV → Sg → Prop} (h : C0 X d mid args σ Q) (hQ : ∀ r σ', (∀ k j, InR (σ' k j)) → Q r σ' → Q' r σ') : C0 X d mid args σ Q' := Call.mono h (fun r n' sh' σ' a b c => ⟨c.1, c.2.1, hQ r σ' a c.2.2⟩)
theorem S0.inr {X : Cx} {d mid : Nat} {Q : Option AV → Sg → Prop} {pc : Nat} {L St : List AV} {σ : Sg} (h : (∀ k j, InR (σ k j)) → S0 X d mid Q pc L St σ) : S0 X d mid Q pc L St σ := Sat.inr h
-- the rows of wq's evaluation, all by definition
section EV
variable {X : Cx} {sh : Nat → Shp} {S : Nat → List AV → List AV → Sg → Prop} {R : Option AV → Sg → Prop} {CK : Nat → List AV → Nat → List AV → List AV → Sg → Prop} {rb : Bool} {P E : List EN} {f pc nx a b x k : Nat} {z i v w y : Int} {L St rest : List AV} {σ : Sg} {K : List AV → List AV → Sg → Prop} {J : Nat → List AV → List AV → Sg → Prop} {e : EN} {v0 v1 v2 v3 v4 v5 v6 v7 v8 : AV} {KI : Int → Prop} {KR : Nat ⊕ Nat → Prop} {KS : List AV → List AV → Prop} {p q : Prop} {fl : Bool} {t : Nat} {JN : Nat → Prop} {ts : List Nat} {lo : Int} {t1 t2 : Nat}
theorem ev_s : wq X sh S R CK rb P (f + 1) (e :: E) L St σ = stp X sh R CK rb (hd E) (fun L St σ => bif sf E then S (hd E) L St σ else wq X sh S R CK rb P f E L St σ) (fun t L St σ => bif sf (seek P t) then S t L St σ else wq X sh S R CK rb P f (seek P t) L St σ) e.2.2.1 e.2.2.2.1 e.2.2.2.2.1 e.2.2.2.2.2.1 L St σ := rfl
theorem ev_hd : hd ((pc, fl, k, z, a, b, x) :: E) = pc := rfl
theorem ev_sf : sf ((pc, fl, k, z, a, b, x) :: E) = fl := rfl
theorem ev_hd0 : hd [] = 0 := rfl
theorem ev_sf0 : sf [] = false := rfl
theorem ev_0 : stp X sh R CK rb nx K J 0 z a b L St σ = K L (vi z :: St) σ := rfl
theorem ev_1 : stp X sh R CK rb nx K J 1 z a b L St σ = ldi (nth L a) (fun v => K L (vi v :: St) σ) := rfl
theorem ev_34 : stp X sh R CK rb nx K J 34 z a b L St σ = ldr (nth L a) (fun v => K L (.inr v :: St) σ) := rfl
theorem ev_li : ldi (vi v) KI = KI v := rfl
theorem ev_lr : ldr (vr k) KR = KR (.inl k) := rfl
theorem ev_lx : ldr (vx k) KR = (k < 4 ∧ KR (.inr k)) := rfl
theorem ev_2 : stp X sh R CK rb nx K J 2 z a b L (vi v :: St) σ = K (sn L a (vi v)) St σ := rfl
theorem ev_35 {u : Nat ⊕ Nat} : stp X sh R CK rb nx K J 35 z a b L (.inr u :: St) σ = K (sn L a (.inr u)) St σ := rfl
theorem ev_3 : stp X sh R CK rb nx K J 3 z a b L St σ = ldi (nth L a) (fun x => InR (x + z) ∧ K (sn L a (vi (x + z))) St σ) := rfl
theorem ev_4 : stp X sh R CK rb nx K J 4 z a b L (vi y :: vi v :: St) σ = bop a v y (fun w => K L (vi w :: St) σ) := rfl
theorem ev_b0 : bop 0 v y KI = (InR (v + y) ∧ KI (v + y)) := rfl
theorem ev_b1 : bop 1 v y KI = (InR (v - y) ∧ KI (v - y)) := rfl
theorem ev_b2 : bop 2 v y KI = (InR (v * y) ∧ KI (v * y)) := rfl
theorem ev_b3 : bop 3 v y KI = ((0 ≤ v ∧ 0 < y) ∧ KI (v / y)) := rfl
theorem ev_b4 : bop 4 v y KI = ((0 ≤ v ∧ 0 < y) ∧ KI (v % y)) := rfl
theorem ev_b5 : bop 5 v y KI = KI (bshl v y) := rfl
theorem ev_b6 : bop 6 v y KI = KI (bshr v y) := rfl
theorem ev_b7 : bop 7 v y KI = KI (bushr v y) := rfl
theorem ev_b8 : bop 8 v y KI = KI (band v y) := rfl
theorem ev_b9 : bop 9 v y KI = KI (bor v y) := rfl
theorem ev_b10 : bop 10 v y KI = KI (bxor v y) := rfl
theorem ev_5 : stp X sh R CK rb nx K J 5 z a b L (vi v :: St) σ = ((cnd a v 0 → J b L St σ) ∧ (¬ cnd a v 0 → K L St σ)) := rfl
theorem ev_6 : stp X sh R CK rb nx K J 6 z a b L (vi y :: vi v :: St) σ = ((cnd a v y → J b L St σ) ∧ (¬ cnd a v y → K L St σ)) := rfl
theorem ev_c0 : cnd 0 v y = (v = y) := rfl
theorem ev_c1 : cnd 1 v y = (¬ v = y) := rfl
theorem ev_c2 : cnd 2 v y = (v < y) := rfl
theorem ev_c3 : cnd 3 v y = (y ≤ v) := rfl
theorem ev_c4 : cnd 4 v y = (y < v) := rfl
theorem ev_c5 : cnd 5 v y = (v ≤ y) := rfl
theorem ev_7 : stp X sh R CK rb nx K J 7 z a b L St σ = J b L St σ := rfl
theorem ev_8 : stp X sh R CK rb nx K J 8 z a b L (vr k :: St) σ = gfl (sh k) a b (σ k) (fun v => K L (v :: St) σ) := rfl
theorem ev_9 : stp X sh R CK rb nx K J 9 z a b L (vi v :: vr k :: St) σ = pfl (sh k) a b (K L St (st σ k b v)) := rfl
theorem ev_33 : stp X sh R CK rb nx K J 33 z a b L (vi v :: vr k :: St) σ = ((v = 0 ∨ v = 1) ∧ pfl (sh k) a b (K L St (st σ k b v))) := rfl
theorem ev_11 : stp X sh R CK rb nx K J 11 z a b L St σ = ((1 ≤ a ∧ a < 4) ∧ K L (vx a :: St) σ) := rfl
theorem ev_12 : stp X sh R CK rb nx K J 12 z a b L (vi i :: vr k :: St) σ = arr (sh k) false i (K L (vi (σ k i) :: St) σ) := rfl
theorem ev_12x : stp X sh R CK rb nx K J 12 z a b L (vi i :: vx k :: St) σ = (k < 4 ∧ (0 ≤ i ∧ i < xl X k) ∧ K L (vi (xf X k i) :: St) σ) := rfl
theorem ev_13 : stp X sh R CK rb nx K J 13 z a b L (vi v :: vi i :: vr k :: St) σ = arr (sh k) false i (K L St (st σ k i v)) := rfl
theorem ev_14 : stp X sh R CK rb nx K J 14 z a b L (vi i :: vr k :: St) σ = arr (sh k) true i (K L (vi (σ k i) :: St) σ) := rfl
theorem ev_15 : stp X sh R CK rb nx K J 15 z a b L (vi v :: vi i :: vr k :: St) σ = ((v = 0 ∨ v = 1) ∧ arr (sh k) true i (K L St (st σ k i v))) := rfl
theorem ev_16 : stp X sh R CK rb nx K J 16 z a b L (vi i :: vr k :: St) σ = arq (sh k) i (fun v => K L (v :: St) σ) := rfl
theorem ev_18 : stp X sh R CK rb nx K J 18 z a b L (vr k :: St) σ = aln (sh k) (fun v => InR v ∧ K L (vi v :: St) σ) := rfl
theorem ev_18x : stp X sh R CK rb nx K J 18 z a b L (vx k :: St) σ = (k < 4 ∧ InR (xl X k) ∧ K L (vi (xl X k) :: St) σ) := rfl
theorem ev_22 : stp X sh R CK rb nx K J 22 z a b L (v0 :: St) σ = K L (v0 :: v0 :: St) σ := rfl
theorem ev_23 : stp X sh R CK rb nx K J 23 z a b L (v0 :: v1 :: St) σ = K L (v0 :: v1 :: v0 :: v1 :: St) σ := rfl
theorem ev_24 : stp X sh R CK rb nx K J 24 z a b L St σ = spl b St (fun args rest => CK a args nx L rest σ) := rfl
theorem ev_32 : stp X sh R CK rb nx K J 32 z a b L St σ = spl b St (fun args rest => (match args with | .inr (.inl k) :: _ => isC (sh k) z | _ => False) ∧ CK a args nx L rest σ) := rfl
theorem ev_25 : stp X sh R CK rb nx K J 25 z a b L [vi v] σ = ((rb = true → v = 0 ∨ v = 1) ∧ R (some (vi v)) σ) := rfl
theorem ev_26 : stp X sh R CK rb nx K J 26 z a b L [] σ = R none σ := rfl
theorem ev_27 : stp X sh R CK rb nx K J 27 z a b L (vi v :: St) σ = K L (vi (b2b v) :: St) σ := rfl
theorem ev_28 : stp X sh R CK rb nx K J 28 z a b L (vi v :: St) σ = K L (vi (b2s v) :: St) σ := rfl
theorem ev_30 {nn dp sp : Int} {kd ks : Nat} : stp X sh R CK rb nx K J 30 z a b L (vi nn :: vi dp :: vr kd :: vi sp :: vr ks :: St) σ = (St.length ≤ 8 ∧ (0 ≤ nn ∧ 0 ≤ dp ∧ 0 ≤ sp) ∧ aln (sh ks) (fun l1 => sp + nn ≤ l1) ∧ aln (sh kd) (fun l2 => dp + nn ≤ l2) ∧ (sh ks = .inl (false, (match sh ks with | .inl (_, q) => q | _ => 0)) ∧ sh kd = .inl (false, (match sh kd with | .inl (_, q) => q | _ => 0))) ∧ K L St (cpy σ ks sp kd dp nn)) := rfl
theorem ev_31 : stp X sh R CK rb nx K J 31 z a b L (vi v :: St) σ = swp v z (SWT.getD b []) (fun t => J t L St σ) := rfl
theorem ev_w1 : swp v lo [t] JN = JN t := rfl
theorem ev_w2 : swp v lo (t :: t2 :: ts) JN = ((v = lo → JN t) ∧ (¬ v = lo → swp v (lo + 1) (t2 :: ts) JN)) := rfl
theorem ev_p1 : spl 1 (v0 :: St) KS = KS [v0] St := rfl
theorem ev_p2 : spl 2 (v1 :: v0 :: St) KS = KS [v0, v1] St := rfl
theorem ev_p3 : spl 3 (v2 :: v1 :: v0 :: St) KS = KS [v0, v1, v2] St := rfl
theorem ev_p4 : spl 4 (v3 :: v2 :: v1 :: v0 :: St) KS = KS [v0, v1, v2, v3] St := rfl
theorem ev_p5 : spl 5 (v4 :: v3 :: v2 :: v1 :: v0 :: St) KS = KS [v0, v1, v2, v3, v4] St := rfl
theorem ev_p6 : spl 6 (v5 :: v4 :: v3 :: v2 :: v1 :: v0 :: St) KS = KS [v0, v1, v2, v3, v4, v5] St := rfl
theorem ev_p0 : spl 0 St KS = KS [] St := rfl
theorem ev_n0 : nth (v0 :: L) 0 = v0 := rfl
theorem ev_n1 : nth (v0 :: v1 :: L) 1 = v1 := rfl
theorem ev_n2 : nth (v0 :: v1 :: v2 :: L) 2 = v2 := rfl
theorem ev_n3 : nth (v0 :: v1 :: v2 :: v3 :: L) 3 = v3 := rfl
theorem ev_n4 : nth (v0 :: v1 :: v2 :: v3 :: v4 :: L) 4 = v4 := rfl
theorem ev_n5 : nth (v0 :: v1 :: v2 :: v3 :: v4 :: v5 :: L) 5 = v5 := rfl
theorem ev_n6 : nth (v0 :: v1 :: v2 :: v3 :: v4 :: v5 :: v6 :: L) 6 = v6 := rfl
theorem ev_n7 : nth (v0 :: v1 :: v2 :: v3 :: v4 :: v5 :: v6 :: v7 :: L) 7 = v7 := rfl
theorem ev_m0 {u : AV} : sn (v0 :: L) 0 u = u :: L := rfl
theorem ev_m1 {u : AV} : sn (v0 :: v1 :: L) 1 u = v0 :: u :: L := rfl
theorem ev_m2 {u : AV} : sn (v0 :: v1 :: v2 :: L) 2 u = v0 :: v1 :: u :: L := rfl
theorem ev_m3 {u : AV} : sn (v0 :: v1 :: v2 :: v3 :: L) 3 u = v0 :: v1 :: v2 :: u :: L := rfl
theorem ev_m4 {u : AV} : sn (v0 :: v1 :: v2 :: v3 :: v4 :: L) 4 u = v0 :: v1 :: v2 :: v3 :: u :: L := rfl
theorem ev_m5 {u : AV} : sn (v0 :: v1 :: v2 :: v3 :: v4 :: v5 :: L) 5 u = v0 :: v1 :: v2 :: v3 :: v4 :: u :: L := rfl
theorem ev_m6 {u : AV} : sn (v0 :: v1 :: v2 :: v3 :: v4 :: v5 :: v6 :: L) 6 u = v0 :: v1 :: v2 :: v3 :: v4 :: v5 :: u :: L := rfl
theorem ev_m7 {u : AV} : sn (v0 :: v1 :: v2 :: v3 :: v4 :: v5 :: v6 :: v7 :: L) 7 u = v0 :: v1 :: v2 :: v3 :: v4 :: v5 :: v6 :: u :: L := rfl
theorem ev_r0 : rtk 0 none = True := rfl
theorem ev_r1 : rtk 1 (some v0) = True := rfl
theorem ev_r2 : rtk 2 (some v0) = True := rfl
end EV
