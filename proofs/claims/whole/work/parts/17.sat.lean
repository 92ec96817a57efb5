-- THE WALK at the level of contracts
def wq (X : Cx) (sh : Nat → Shp) (S : Nat → List AV → List AV → Sg → Prop) (R : Option AV → Sg → Prop) (CK : Nat → List AV → Nat → List AV → List AV → Sg → Prop) (rb : Bool) (P : List EN) : Nat → List EN → List AV → List AV → Sg → Prop
  | _, [], _, _, _ => False
  | 0, e :: _, L, St, σ => S e.1 L St σ
  | f + 1, e :: E, L, St, σ => stp X sh R CK rb (hd E) (fun L St σ => bif sf E then S (hd E) L St σ else wq X sh S R CK rb P f E L St σ) (fun t L St σ => bif sf (seek P t) then S t L St σ else wq X sh S R CK rb P f (seek P t) L St σ) e.2.2.1 e.2.2.2.1 e.2.2.2.2.1 e.2.2.2.2.2.1 L St σ
theorem seek_hd : ∀ (P : List EN) (t : Nat) {e : EN} {E : List EN}, seek P t = e :: E → e.1 = t
  | [], t, e, E, h => by cases h
  | q :: P, t, e, E, h => by
    unfold seek at h
    cases hb : q.1 == t with
    | true =>
      rw [hb] at h
      cases h
      exact beq_iff_eq.mp hb
    | false =>
      rw [hb] at h
      exact seek_hd P t h
theorem seek_ok {md : MD} : ∀ (P : List EN) (t : Nat), okP md P = true → okP md (seek P t) = true
  | [], t, h => h
  | q :: P, t, h => by
    unfold seek
    cases hb : q.1 == t with
    | true => exact h
    | false =>
      have h2 : (okE md (hd P) q && okP md P) = true := h
      rw [Bool.and_eq_true] at h2
      exact seek_ok P t h2.2
section WQ
variable {X : Cx} {md : MD} {Z : FC} {n : Nat} {sh : Nat → Shp} {ce sl : Nat} {S : Nat → List AV → List AV → Sg → Prop} {R : Option AV → Sg → Prop} {CK : Nat → List AV → Nat → List AV → List AV → Sg → Prop} {rb : Bool} {P : List EN}
theorem wq_sound (hB : Bd X md Z) (hP : okP md P = true) (hS : ∀ t L St σ, S t L St σ → SW X md.2.2.1 Z t L St n sh σ ce sl) (hR : RetOK X md Z n sh ce sl rb R) (hC : ∀ mid args nx L rest σ, CK mid args nx L rest σ → CKs X md Z n sh ce sl mid args nx L rest σ) :
    ∀ (f : Nat) (E : List EN) (L St : List AV) (σ : Sg), okP md E = true → wq X sh S R CK rb P f E L St σ → SW X md.2.2.1 Z (hd E) L St n sh σ ce sl
  | _, [], L, St, σ, _, h => by
    cases ‹Nat› <;> exact h.elim
  | 0, e :: E, L, St, σ, _, h => hS _ _ _ _ h
  | f + 1, e :: E, L, St, σ, hE, h => by
    have h2 : (okE md (hd E) e && okP md E) = true := hE
    rw [Bool.and_eq_true] at h2
    have h3 := h2.1
    unfold okE at h3
    split at h3
    · next op len hdc =>
      refine stp_sound hB okm_all hdc h3 ?_ ?_ hR hC h
      · intro L St σ hK
        cases hb : sf E with
        | true => rw [hb] at hK; exact hS _ _ _ _ hK
        | false => rw [hb] at hK; exact wq_sound hB hP hS hR hC f E L St σ h2.2 hK
      · intro t L St σ hK
        cases hb : sf (seek P t) with
        | true => rw [hb] at hK; exact hS _ _ _ _ hK
        | false =>
          rw [hb] at hK
          have h4 := wq_sound hB hP hS hR hC f (seek P t) L St σ (seek_ok P t hP) hK
          cases hsk : seek P t with
          | nil =>
            rw [hsk] at hK
            cases f <;> exact hK.elim
          | cons q F =>
            rw [hsk] at h4
            have e1 : hd (q :: F) = t := seek_hd P t hsk
            rw [e1] at h4
            exact h4
    · cases h3
end WQ
def rkT : Nat → Option FieldType
  | 0 => none
  | 1 => some .int
  | _ => some .boolean
def rtk (rk : Nat) (r : Option AV) : Prop := match rk, r with
  | 0, none => True
  | 1, some _ => True
  | 2, some _ => True
  | _, _ => False
def CKm (X : Cx) (d mc ms mid : Nat) (Q : QT) (n : Nat) (sh : Nat → Shp) (ce sl : Nat) (callee : Nat) (args : List AV) (nx : Nat) (L rest : List AV) (σ : Sg) : Prop :=
  ∃ (d' mc' ms' : Nat) (Q1 : QT), d' < d ∧ ce + mc' ≤ mc ∧ sl + ms' ≤ ms ∧ rest.length ≤ 8 ∧ Call X d' mc' ms' callee args n sh σ Q1 ∧ ∀ r n' sh' σ', (∀ k j, InR (σ' k j)) → (∀ v, r = some v → okv v) → Q1 r n' sh' σ' → Sat X d mc ms mid Q nx L (r.toList ++ rest) n' sh' σ' (ce + mc') (sl + ms')
theorem CKm.use {X : Cx} {d mc ms mid : Nat} {Q : QT} {n : Nat} {sh : Nat → Shp} {ce sl : Nat} {md : MD} {Z : FC} (hmd : MTL[mid]? = some md) (hZ : Zm X md d mc ms Q Z) {callee : Nat} {args : List AV} {nx : Nat} {L rest : List AV} {σ : Sg} (h : CKm X d mc ms mid Q n sh ce sl callee args nx L rest σ) : CKs X md Z n sh ce sl callee args nx L rest σ := by
  obtain ⟨d', mc', ms', Q1, h1, h2, h3, h4, h5, h6⟩ := h
  refine ⟨d', mc', ms', Q1, ?_, ?_, ?_, ?_, h4, h5, fun r n' sh' σ' a b c => h6 r n' sh' σ' a b c md hmd Z hZ⟩
  · rw [hZ.2.1]; exact h1
  · rw [hZ.2.1]; show 64 * d' + 64 ≤ 64 * d; omega
  · rw [hZ.2.1]; exact h2
  · rw [hZ.2.1]; exact h3
theorem ret_ok {X : Cx} {d mc ms : Nat} {Q : QT} {n : Nat} {sh : Nat → Shp} {ce sl : Nat} {md : MD} {Z : FC} (hZ : Zm X md d mc ms Q Z) (h1 : ce ≤ mc) (h2 : sl ≤ ms) {rk : Nat} (hrk : md.2.2.2.1 = rkT rk) : RetOK X md Z n sh ce sl (rk == 2) (fun r σ' => rtk rk r ∧ Q r n sh σ') := by
  obtain ⟨hB, hRm, hr, hlk, hQ⟩ := hZ
  obtain ⟨hx, hb, -⟩ := hB
  obtain ⟨p, l, e, R, s, m, args, below, meth, c, QQ⟩ := Z
  dsimp only at hx hb hRm hr hlk hQ
  subst hQ
  refine ⟨fun pc x L σ hd h01 hR hL hS H locs ls hl hW hv => ?_, fun pc L σ hd hR hL hS H locs ls hl hW hv => ?_⟩
  · refine W.widen h1 h2 ?_
    have hq : ∀ t : State, t.heap = H → s.WarmedH t.vm → Qm X Q args s (.returned (some (.int (Int32.ofInt x)))) t := fun t ht _ => ⟨⟨some (vi x), n, sh, σ, rfl, (fun v hv => by cases hv; exact hS _ List.mem_cons_self), hR.2, by rw [ht]; exact hW⟩, hv.F ht⟩
    match rk, hR, hrk, h01 with
    | 0, hR, _, _ => exact hR.1.elim
    | 1, hR, hrk, _ =>
      exact W.iret hx hb (hr.trans hrk) hq hv.2.2 hd hlk
    | 2, hR, hrk, h01 =>
      exact W.zret (ty := .boolean) hx hb (hr.trans hrk) (by rcases h01 rfl with rfl | rfl <;> rfl) hq hv.2.2 hd hlk
    | k + 3, hR, _, _ => exact hR.1.elim
  · refine W.widen h1 h2 ?_
    have hq : ∀ t : State, t.heap = H → s.WarmedH t.vm → Qm X Q args s (.returned none) t := fun t ht _ => ⟨⟨none, n, sh, σ, rfl, (fun v hv => by cases hv), hR.2, by rw [ht]; exact hW⟩, hv.F ht⟩
    match rk, hR, hrk with
    | 0, hR, hrk => exact W.vret hx hb (hr.trans hrk) hq hv.2.2 hd hlk
    | 1, hR, _ => exact hR.1.elim
    | 2, hR, _ => exact hR.1.elim
    | k + 3, hR, _ => exact hR.1.elim
theorem Sat.run {X : Cx} {d mc ms : Nat} {Q : QT} {n : Nat} {sh : Nat → Shp} {ce sl : Nat} {L St : List AV} {σ : Sg} (mid : Nat) (md : MD) (P : List EN) (rk : Nat) (hmd : MTL[mid]? = some md) (hP : md.2.2.2.2.2.2 = P) (hrk : md.2.2.2.1 = rkT rk) (h1 : ce ≤ mc) (h2 : sl ≤ ms) (f pc : Nat)
    (h : wq X sh (fun pc L St σ => Sat X d mc ms mid Q pc L St n sh σ ce sl) (fun r σ' => rtk rk r ∧ Q r n sh σ') (CKm X d mc ms mid Q n sh ce sl) (rk == 2) P f (seek P pc) L St σ) : Sat X d mc ms mid Q pc L St n sh σ ce sl := by
  intro md' hmd' Z hZ
  cases hmd.symm.trans hmd'
  have hok : okP md P = true := by rw [← hP]; exact okp_all hmd
  have h3 := wq_sound (Z := Z) (md := md) hZ.1 hok (fun t L St σ hS => hS md hmd Z hZ) (ret_ok hZ h1 h2 hrk) (fun mid args nx L rest σ hC => hC.use hmd hZ) f (seek P pc) L St σ (seek_ok P pc hok) h
  cases hsk : seek P pc with
  | nil =>
    rw [hsk] at h
    cases f <;> exact h.elim
  | cons q F =>
    rw [hsk] at h3
    have e1 : hd (q :: F) = pc := seek_hd P pc hsk
    rw [e1] at h3
    exact h3
/-- what the world says of all numbers may be used -/
theorem Sat.inr {X : Cx} {d mc ms mid : Nat} {Q : QT} {pc : Nat} {L St : List AV} {n : Nat} {sh : Nat → Shp} {σ : Sg} {ce sl : Nat} (h : (∀ k j, InR (σ k j)) → Sat X d mc ms mid Q pc L St n sh σ ce sl) : Sat X d mc ms mid Q pc L St n sh σ ce sl :=
  fun md hmd Z hZ hL hS H locs ls hl hW hv => h hW.2.2.1 md hmd Z hZ hL hS H locs ls hl hW hv
