-- CONTRACTS over the abstract machine, and the soundness of stp and wp
def rmm (d mc ms : Nat) : Room := { frames := d, cells := mc, slots := ms, locals := 64 * d }
abbrev QT : Type := Option AV → Nat → (Nat → Shp) → Sg → Prop
def Qm (X : Cx) (Q : QT) : Array Value → State → Outcome → State → Prop := fun _ st oc t => (∃ (r : Option AV) (n' : Nat) (sh' : Nat → Shp) (σ' : Sg), oc = .returned (r.map (cv X)) ∧ (∀ v, r = some v → okv v) ∧ Q r n' sh' σ' ∧ Whp X n' sh' σ' t.heap) ∧ va_F (Ab X) st t
abbrev mws (md : MD) : List Cond := .code md.1 md.2.1 md.2.2.1 md.2.2.2.1 :: gtbl
def Pm (X : Cx) (args : List AV) (n : Nat) (sh : Nat → Shp) (σ : Sg) : Array Value → State → Prop := va_Pc (args.map (cv X)) (fun U => Wst X U ∧ X.1 ≤ U.heap.size ∧ Whp X n sh σ U.heap)
def Call (X : Cx) (d mc ms mid : Nat) (args : List AV) (n : Nat) (sh : Nat → Shp) (σ : Sg) (Q : QT) : Prop :=
  (∀ v ∈ args, okv v) → ∀ md, MTL[mid]? = some md → ∀ l, Met l md.1 (mws md) (rmm d mc ms) (Pm X args n sh σ) (Qm X Q) mc ms (Ab X)
/-- what the tables say of a method -/
def OKM (md : MD) : Prop := Cond.code md.1 md.2.1 md.2.2.1 md.2.2.2.1 ∈ gtbl ∧ Cond.initialized md.1.cls ∈ gtbl ∧ (md.2.2.2.2.1 = true → Cond.static md.1 ∈ gtbl) ∧ (md.2.2.2.2.1 = false → Cond.instanceMethod md.1 ∈ gtbl) ∧ (md.2.2.2.2.1 = false → md.1.name ≠ "<init>" → Cond.selects md.1.cls md.1 md.1 ∈ gtbl) ∧ (md.1.cls ≠ "java/lang/invoke/MethodHandle" ∧ md.1.cls ≠ "java/lang/invoke/VarHandle" ∧ (parseMethodDescriptor md.1.desc).map (fun d => d.parameters.length) = some md.2.2.2.2.2.1) ∧ plainName md.1.cls = true ∧ md.2.2.1 ≤ 40
def Zm (X : Cx) (md : MD) (d mc ms : Nat) (Q : QT) (Z : FC) : Prop := Bd X md Z ∧ Z.2.2.2.1 = rmm d mc ms ∧ Z.2.2.2.2.2.2.2.2.1.sig.returnType = md.2.2.2.1 ∧ Z.2.2.2.2.2.2.2.2.1.locks = false ∧ Z.2.2.2.2.2.2.2.2.2.2 = MQ Z.2.2.2.2.2.2.2.1 (Qm X Q) Z.2.2.2.2.2.2.1 Z.2.2.2.2.1 mc ms (Ab X)
def Sat (X : Cx) (d mc ms mid : Nat) (Q : QT) (pc : Nat) (L St : List AV) (n : Nat) (sh : Nat → Shp) (σ : Sg) (ce sl : Nat) : Prop :=
  ∀ md, MTL[mid]? = some md → ∀ Z, Zm X md d mc ms Q Z → SW X md.2.2.1 Z pc L St n sh σ ce sl
theorem nsum : ∀ (X : Cx) (rest : List AV), ((rest.map (cv X)).map fun v => v.category).sum = rest.length
  | X, [] => rfl
  | X, v :: r => by
    simp only [List.map_cons, List.sum_cons, List.length_cons, cv_cat]
    rw [nsum X r]
    omega
theorem lgl : ∀ (X : Cx) (vs : List AV), lg_sl (vs.map (cv X)) = vs.map (fun v => Slot.val (cv X v))
  | X, [] => rfl
  | X, v :: r => by
    have := lgl X r
    unfold lg_sl at this ⊢
    rw [List.map_cons, List.flatMap_cons, this, if_neg (by rw [cv_cat]; omega)]
    rfl
theorem lva : ∀ (X : Cx) (vs : List AV) (i j : Nat) (v : AV), vs[j]? = some v → (i + j, cv X v) ∈ lv_args i (vs.map (cv X))
  | X, [], i, j, v, h => by simp at h
  | X, w :: r, i, 0, v, h => by
    cases h
    exact List.mem_cons_self
  | X, w :: r, i, j + 1, v, h => by
    have h2 : r[j]? = some v := h
    have h3 := lva X r (i + 1) j v h2
    rw [List.map_cons, lv_args, if_neg (by rw [cv_cat]; omega)]
    rw [show i + (j + 1) = i + 1 + j by omega]
    exact List.mem_cons_of_mem _ h3
/-- a method's contract out of its walk -/
theorem Call.intro {X : Cx} {d mc ms mid : Nat} {args : List AV} {n : Nat} {sh : Nat → Shp} {σ : Sg} {Q : QT} (hd : 1 ≤ d) (hM : ∀ md, MTL[mid]? = some md → OKM md ∧ args.length ≤ md.2.2.1 ∧ Sat X d mc ms mid Q 0 (args ++ List.replicate (md.2.2.1 - args.length) (vx 9)) [] n sh σ 0 0) : Call X d mc ms mid args n sh σ Q := by
  intro hok md hmd l
  obtain ⟨hO, hle, hS⟩ := hM md hmd
  refine Met.ofW (cc := md.2.1) (maxL := md.2.2.1) (ret := md.2.2.2.1) hO.2.2.2.2.2.2.1 rfl ?_
  intro p e s m as below meth c s₁ B hml hv
  obtain ⟨rfl, hst, hbs, hW⟩ := hv
  have hts := atoms_spec (ws := mws md) B.pre
  have hS2 := hS md hmd (p, l, e, (headSpec (mws md) (rmm d mc ms)).room, s, m, (args.map (cv X)).toArray, below, meth, c, MQ below (Qm X Q) (args.map (cv X)).toArray s mc ms (Ab X))
    ⟨⟨B.exec, B.bytes, hml, findClass_of_methodNamed B.named, (name_of_methodNamed B.named B.method).1, fun w hw => hts w (List.mem_cons_of_mem _ hw), hst, hbs, hd, by show 64 ≤ 64 * d; omega⟩, rfl, B.returns, B.notSynchronized, rfl⟩
  rw [lg_entry_eq]
  have hlen : (lg_sl (args.map (cv X))).length = args.length := by rw [lgl, List.length_map]
  have hl := lv_entry (args.map (cv X)) (n := md.2.2.1) (by rw [hlen]; exact hle)
  refine hS2 ?_ (fun _ h => by cases h) s.heap [] _ ⟨hl.1, hl.2.1, ?_, ?_⟩ hW va_S.rf
  · intro v hv
    rcases List.mem_append.mp hv with h | h
    · exact hok v h
    · rw [(List.mem_replicate.mp h).2]
      exact trivial
  · rw [List.length_append, List.length_replicate]
    show args.length + (md.2.2.1 - args.length) = md.2.2.1
    omega
  · intro i v hi hk
    by_cases hil : i < args.length
    · rw [List.getElem?_append_left hil] at hi
      have h3 := lva X args 0 i v hi
      rw [Nat.zero_add] at h3
      exact hl.2.2 (i, cv X v) h3
    · rw [List.getElem?_append_right (by omega)] at hi
      have := List.mem_of_getElem? hi
      rw [(List.mem_replicate.mp this).2] at hk
      exact absurd hk (by decide)
theorem Call.mono {X : Cx} {d mc ms mid : Nat} {args : List AV} {n : Nat} {sh : Nat → Shp} {σ : Sg} {Q Q' : QT} (h : Call X d mc ms mid args n sh σ Q) (hQ : ∀ r n' sh' σ', (∀ k j, InR (σ' k j)) → (∀ v, r = some v → okv v) → Q r n' sh' σ' → Q' r n' sh' σ') : Call X d mc ms mid args n sh σ Q' := by
  intro hok md hmd l p e ha hc hk s m as below hf happ hP hK
  obtain ⟨k, o, h1, h2, h3, ⟨⟨r, n', sh', σ', e1, e2, e3, e4⟩, e5⟩, h5⟩ := h hok md hmd l p e ha hc hk s m as below hf happ hP hK
  exact ⟨k, o, h1, h2, h3, ⟨⟨r, n', sh', σ', e1, e2, hQ r n' sh' σ' e4.2.2.1 e2 e3, e4⟩, e5⟩, h5⟩
