-- THE CLAIM (begun from the kit's skeleton of the law's walk)
/-! THE CLAIM OUT OF ONE WALK OF THE LAW'S BODY. Your part is whole_start (and what it stands on); all else here is the same for every law, but numbers. -/
def R_law : String := "MirrorMazeLaw"
def lw_P (b : Addr) (xs : List Int32) (args : Array Value) (s : State) : Prop := args = #[.ref b] ∧ s.IntsAt b xs ∧ xs.length ≤ 384 ∧ (Jvm.Cond.and given_1 narrow_1).before args s = true
def lw_Q (_ : Array Value) (s : State) (o : Outcome) (t : State) : Prop := o = .returned (some (.int 1)) ∧ Framed s o t [] 600000 7302249
def lw_Z (below : List Frame) (a : Array Value) (s : State) : State → Prop := fun t => ∃ o, t.status = .running ∧ Ended t below o ∧ lw_Q a s o t
/-- the law's own end, with 1 on the stack, nothing written that was there before, its room as the claim has it -/
theorem lw_ret {p : Program} {l : Launch} {e : Env} {s : State} {m : MethodId} {below : List Frame} {meth : Method} {c : Code} {b : Nat} (hx : p.tables.exec = Jvm.exec) (hb : c.code = code) (hr : meth.sig.returnType = ret) (hlocks : meth.locks = false) {pc : Nat} {H : Heap} {ls : Array Slot} (hdg : decode code pc = .ok (.ireturn, 1)) : W p l e room_1 s m #[Value.ref b] below meth c H [] 600000 7302249 (lw_Z below #[Value.ref b] s) (F0 m pc ls [.int 1]) := by
  intro T hT X
  obtain ⟨fs, hret, hrun, hended, hW, hframe⟩ := X.leave (v := some (.int 1)) (hlocks := hlocks) (fun h => by rw [hr] at h; cases h)
  have hmeth' : T.vm.method? m = some meth := X.method'
  refine ⟨T.setFrames fs, ?_, .returned (some (.int 1)), hrun, hended, rfl, ⟨_, rfl⟩, hW, hframe⟩
  jvm_step X.here [X.here.top, hx, hb, hdg, hmeth', hr, ret, narrow_b1]
  (try refine ⟨rfl, ?_⟩); (try refine ⟨rfl, ?_⟩)
  first | (intro acts; rw [hret _ acts rfl rfl rfl]) | rw [hret _ _ rfl rfl rfl]
  exact Steps.refl _
/-- what holds at the law's entry: the machine, the code, the tables' words (any of lw_tbl by 'hts w (by decide +kernel)'), the script of L ints xs at the cell b, what the Statement gives of the start (any of its parts by flat_of_before) -/
def lw_At (p : Program) (s : State) (m : MethodId) (meth : Method) (c : Code) (b L : Nat) (xs : Nat → Int32) : Prop :=
  p.tables.exec = Jvm.exec ∧ c.code = code ∧ meth.sig.returnType = ret ∧ c.maxLocals = 4 ∧ s.vm.findClass R_law = some m.cls ∧ (∀ w ∈ lw_tbl, w.before #[Value.ref b] s = true) ∧ va_X b L xs s s.heap ∧ b < s.heap.size ∧ meth.locks = false ∧ (Jvm.Cond.and given_1 narrow_1).before #[Value.ref b] s = true ∧ meth.name = "law"

def xe (b t1 t2 t3 : Nat) (e : Nat) : Nat := match e with | 0 => b | 1 => t1 | 2 => t2 | _ => t3
theorem tbl_in {w : Cond} (i : Nat) (h : lw_tbl[i]? = some w) : w ∈ lw_tbl := List.mem_of_getElem? h
theorem start_ok {s : State} {b L : Nat} {xs : Nat → Int32} (hts : ∀ w ∈ lw_tbl, w.before #[Value.ref b] s = true) (hX : va_X b L xs s s.heap) (hbl : b < s.heap.size) (hgv : (Jvm.Cond.and given_1 narrow_1).before #[Value.ref b] s = true) : ∃ X : Cx, X.1 = s.heap.size ∧ X.2.2.2.1 0 = b ∧ xl X 0 = L ∧ Wst X s := by
  have hg : ∀ w ∈ gtbl, w.before #[Value.ref b] s = true := fun w hw => hts w (List.mem_filter.mp hw).1
  have hs := flat_of_before _ hgv
  have key0 : ∀ (k : Nat) (q : vw_C), vwCl[k]? = some q → ∃ (cC : ClassId) (iS : Nat → Nat), u_Kn s q.1 q.2.1 q.2.2 cC iS := fun k q hq => u_known hg (uws_in k q hq) (hg _ (inst_ok k q hq).1)
  obtain ⟨c0, i0, -⟩ := key0 0 _ rfl
  have key : ∀ k : Nat, ∃ p : ClassId × (Nat → Nat), ∀ q : vw_C, vwCl[k]? = some q → u_Kn s q.1 q.2.1 q.2.2 p.1 p.2 := by
    intro k
    cases h : vwCl[k]? with
    | none => exact ⟨(c0, i0), fun q hq => by cases hq⟩
    | some q =>
      obtain ⟨cC, iS, h2⟩ := key0 k q h
      exact ⟨(cC, iS), fun q' hq => by cases hq; exact h2⟩
  obtain ⟨dd, hdd⟩ := Classical.axiomOfChoice key
  obtain ⟨cI, kI, pI, i1, i2, i3⟩ := Cond.arrayClass_spec (hts (.arrayClass .int) (tbl_in 118 (by decide +kernel)))
  obtain ⟨cB, kB, pB2, b1, b2, b3⟩ := Cond.arrayClass_spec (hts (.arrayClass .boolean) (tbl_in 889 (by decide +kernel)))
  obtain ⟨pA, cA, kA, a1, a2, a3, a4, a5⟩ := Cond.arrayOver_spec (hts (.arrayOver (.object "MirrorMaze$Maze")) (tbl_in 126 (by decide +kernel)))
  have hA : ∀ a : Nat, a < s.heap.size → ¬ (fun q : Nat => s.heap.size ≤ q) a := fun a h => Nat.not_le.mpr h
  have e1 : ∀ j : Nat, j < 5 → (Term.elem (.static "MirrorMaze" "KIND_ABOVE" "[I") (.int (Int32.ofNat j))).eval #[Value.ref b] s none [] s = some (.int (Int32.ofInt (kab (j : Int)))) := by
    intro j hj
    match j, hj with
    | 0, _ => exact va_eqt (z := -1) (hs _ (by decide +kernel))
    | 1, _ => exact va_eqt (z := 0) (hs _ (by decide +kernel))
    | 2, _ => exact va_eqt (z := 1) (hs _ (by decide +kernel))
    | 3, _ => exact va_eqt (z := 0) (hs _ (by decide +kernel))
    | 4, _ => exact va_eqt (z := 1) (hs _ (by decide +kernel))
    | k + 5, h => omega
  have e2 : ∀ j : Nat, j < 4 → (Term.elem (.static "MirrorMaze" "X_OF_WAY" "[I") (.int (Int32.ofNat j))).eval #[Value.ref b] s none [] s = some (.int (Int32.ofInt (dx (j : Int)))) := by
    intro j hj
    match j, hj with
    | 0, _ => exact va_eqt (z := 1) (hs _ (by decide +kernel))
    | 1, _ => exact va_eqt (z := 0) (hs _ (by decide +kernel))
    | 2, _ => exact va_eqt (z := -1) (hs _ (by decide +kernel))
    | 3, _ => exact va_eqt (z := 0) (hs _ (by decide +kernel))
    | k + 4, h => omega
  have e3 : ∀ j : Nat, j < 4 → (Term.elem (.static "MirrorMaze" "Y_OF_WAY" "[I") (.int (Int32.ofNat j))).eval #[Value.ref b] s none [] s = some (.int (Int32.ofInt (dy (j : Int)))) := by
    intro j hj
    match j, hj with
    | 0, _ => exact va_eqt (z := 0) (hs _ (by decide +kernel))
    | 1, _ => exact va_eqt (z := 1) (hs _ (by decide +kernel))
    | 2, _ => exact va_eqt (z := 0) (hs _ (by decide +kernel))
    | 3, _ => exact va_eqt (z := -1) (hs _ (by decide +kernel))
    | k + 4, h => omega
  obtain ⟨t1, u1, w1⟩ := va_Tof (A := fun q : Nat => s.heap.size ≤ q) (tm := .static "MirrorMaze" "KIND_ABOVE" "[I") (ty := .int) (N := 5) (by decide) (hs _ (by decide +kernel)) (va_eqt (z := 5) (hs _ (by decide +kernel))) e1 hA
  obtain ⟨t2, u2, w2⟩ := va_Tof (A := fun q : Nat => s.heap.size ≤ q) (tm := .static "MirrorMaze" "X_OF_WAY" "[I") (ty := .int) (N := 4) (by decide) (hs _ (by decide +kernel)) (va_eqt (z := 4) (hs _ (by decide +kernel))) e2 hA
  obtain ⟨t3, u3, w3⟩ := va_Tof (A := fun q : Nat => s.heap.size ≤ q) (tm := .static "MirrorMaze" "Y_OF_WAY" "[I") (ty := .int) (N := 4) (by decide) (hs _ (by decide +kernel)) (va_eqt (z := 4) (hs _ (by decide +kernel))) e3 hA
  have hini : (Cond.initialized "MirrorMaze").before #[Value.ref b] s = true := hts _ (tbl_in 40 (by decide +kernel))
  have z1 := va_Zref (A := fun q : Nat => s.heap.size ≤ q) (hts (.laysStatic "MirrorMaze" "KIND_ABOVE" "[I") (tbl_in 459 (by decide +kernel))) hini u1 hA
  have z2 := va_Zref (A := fun q : Nat => s.heap.size ≤ q) (hts (.laysStatic "MirrorMaze" "X_OF_WAY" "[I") (tbl_in 497 (by decide +kernel))) hini u2 hA
  have z3 := va_Zref (A := fun q : Nat => s.heap.size ≤ q) (hts (.laysStatic "MirrorMaze" "Y_OF_WAY" "[I") (tbl_in 499 (by decide +kernel))) hini u3 hA
  obtain ⟨scr, s1, s2, s3, s4, s5⟩ := hX
  refine ⟨(s.heap.size, (fun k => (dd k).1, fun k => (dd k).2), (cI, cB, cA), xe b t1 t2 t3, L, xs), rfl, rfl, rfl, ⟨fun k q hq => hdd k q hq, fun k q hq => ?_⟩, va_AO.of (hts (.arrayOver (.object "MirrorMaze$Maze")) (tbl_in 126 (by decide +kernel))), va_Nw.of rfl (hts nw1 (tbl_in 496 (by decide +kernel))), va_Nw.of rfl (hts nw2 (tbl_in 498 (by decide +kernel))), va_Nw.of rfl (hts nw3 (tbl_in 508 (by decide +kernel))), fun e x y => ?_, fun e x => ?_⟩
  · match k, hq with
    | 0, hq => cases hq; exact ⟨fun N z => ⟨(fun k h => by cases h), kI, i2, pI, i3⟩, i1⟩
    | 1, hq => cases hq; exact ⟨fun N z => ⟨(fun k h => by cases h), kB, b2, pB2, b3⟩, b1⟩
    | 2, hq => cases hq; exact ⟨fun N z => ⟨(fun k h => by cases h), kA, a3, pA, a4⟩, kA, pA, a3, a4, a1, a5⟩
    | k + 3, hq => simp [tysX] at hq
  · match e, x, y with
    | 1, _, _ => exact z1
    | 2, _, _ => exact z2
    | 3, _, _ => exact z3
    | e + 4, _, y => omega
  · match e, x with
    | 0, _ =>
      refine ⟨scr, s1, s2, s3, Nat.le_of_eq s4.symm, by rw [s4]; rfl, fun j hj => ?_, hA b hbl⟩
      rw [s5 j hj]
      show some (Value.int (xs j)) = some (Value.int (Int32.ofInt (xs ((j : Int).toNat)).toInt))
      rw [oI]
      rfl
    | 1, _ => exact w1
    | 2, _ => exact w2
    | 3, _ => exact w3
    | e + 4, x => omega
/-- from the entry, for every script of at most 384 ints, the law comes to its end with true -/
theorem whole_start {p : Program} {e : Env} {s : State} {m : MethodId} {below : List Frame} {meth : Method} {c : Code} (l : Launch) {b L : Nat} {xs : Nat → Int32} (hL : L ≤ 384) (C0 : lw_At p s m meth c b L xs) : W p l e room_1 s m #[Value.ref b] below meth c s.heap [] 0 0 (lw_Z below #[Value.ref b] s) (entryFrame m ([Value.ref b] : List Value).toArray 4) := by
  obtain ⟨hx, hb, hr, hml, hown, hts, hX, hbl, hlocks, hgv, hnm⟩ := id C0
  obtain ⟨X, x1, x2, x3, hst⟩ := start_ok hts hX hbl hgv
  have hg : ∀ w ∈ gtbl, w.before #[Value.ref b] s = true := fun w hw => hts w (List.mem_filter.mp hw).1
  have hZ : LZ X (p, l, e, room_1, s, m, #[Value.ref b], below, meth, c, lw_Z below #[Value.ref b] s) := by
    refine ⟨⟨hx, hb, hml, hown, hnm, hg, hst, by rw [x1]; exact Nat.le_refl _, by show 1 ≤ 2048; omega, by show 64 ≤ 84000; omega⟩, rfl, ⟨fun pc x L σ hd h01 hR => ?_, fun pc L σ hd hR => by cases hR⟩, by rw [x3]; exact hL⟩
    cases hR
    intro hL hS H locs ls hl hW hv
    refine va_forget (fun q hq => ?_) (W.widen (by omega) (by omega) (lw_ret hx hb hr hlocks hd))
    have h5 : X.1 ≤ q.base := hv.2.2 q hq
    rw [x1] at h5
    exact h5
  have hS := l_start hZ
  rw [lg_entry_eq]
  have hl := lv_entry ([.ref b]) (n := 4) (Nat.le_of_ble_eq_true rfl)
  refine hS (fun v hv => ?_) (fun _ h => by cases h) s.heap [] _ ⟨hl.1, hl.2.1, rfl, fun i v hi hk => ?_⟩ ⟨by rw [x1]; rfl, fun k q h => by simp [wl] at h, fun _ _ => in_0, fun _ _ => rfl⟩ va_S.rf
  · rcases List.mem_cons.mp hv with h | h
    · rw [h]; exact trivial
    · rcases List.mem_cons.mp h with h | h
      · rw [h]; exact trivial
      · rcases List.mem_cons.mp h with h | h
        · rw [h]; exact trivial
        · rcases List.mem_cons.mp h with h | h
          · rw [h]; exact trivial
          · cases h
  · match i, hi with
    | 0, hi =>
      cases hi
      have := hl.2.2 (0, .ref b) List.mem_cons_self
      show _ = some (Slot.val (Value.ref (X.2.2.2.1 0)))
      rw [x2]
      exact this
    | 1, hi => cases hi; cases hk
    | 2, hi => cases hi; cases hk
    | 3, hi => cases hi; cases hk
    | k + 4, hi => simp at hi
set_option maxHeartbeats 4000000 in
theorem lw_walk (l : Launch) (b : Addr) (xs : List Int32) : MetFree l x (headSpec (Jvm.Cond.code x code maxLocals ret :: tables_1) room_1) (lw_P b xs) (fun _ _ _ _ _ => True) lw_Q := by
  refine MetFree.of_bodyS (code := code) (maxLocals := maxLocals) (ret := ret) (by decide) ?_ ?_
  · intro args s m h hn
    obtain ⟨meth, c, h1, h2, h3, h4, h5, h6, -, -⟩ := Cond.code_spec hn (atoms_spec (ws := Jvm.Cond.code x code maxLocals ret :: tables_1) h _ List.mem_cons_self)
    exact ⟨meth, c, h1, h2, h3, h4, h5, h6⟩
  · intro p e s m args below meth c s₁ B hml0 hP _
    obtain ⟨rfl, hx, hbd, hgv⟩ := hP
    obtain ⟨scr, harrAt, hlist, hof, hsmall⟩ := hx
    obtain ⟨hcb, hkn, -, -⟩ := State.arrayAt?_spec harrAt
    have hown : s.vm.findClass R_law = some m.cls := findClass_of_methodNamed B.named
    have hts0 : ∀ c ∈ (Jvm.Cond.code x code maxLocals ret :: tables_1), c.before #[Value.ref b] s = true := atoms_spec (ws := Jvm.Cond.code x code maxLocals ret :: tables_1) B.pre
    have hts : ∀ w ∈ lw_tbl, w.before #[Value.ref b] s = true := k2_hts_sels lw_privs (fun w hw => hts0 w (List.mem_cons_of_mem _ hw)) lw_privs_ok
    have hml : c.maxLocals = 4 := B.maxLocals_eq (hts0 _ List.mem_cons_self)
    have X₀ : Stand p l e room_1 s m #[Value.ref b] below meth c s₁ [] 0 0 := Stand.of_body B
    have hh0 : s₁.heap = s.heap := by rw [B.state]; rfl
    have hsz : scr.slots.size = xs.length := by rw [← Array.length_toList, hlist, List.length_map]
    have hval : ∀ j : Nat, j < xs.length → scr.slots[j]? = some (.int (xs.getD j 0)) := fun j hj => by
      rw [← Array.getElem?_toList, hlist]
      simp [hj]
    have hbl : b < s.heap.size := (Array.getElem?_eq_some_iff.mp hcb).1
    have hX : va_X b xs.length (fun j => xs.getD j 0) s s.heap := ⟨scr, hcb, hof, hkn, hsz, hval⟩
    have K : W p l e room_1 s m #[Value.ref b] below meth c s₁.heap [] 0 0 (lw_Z below #[Value.ref b] s) (entryFrame m ([Value.ref b] : List Value).toArray 4) := by
      rw [hh0]
      exact whole_start l hbd ⟨B.exec, B.bytes, B.returns, hml, hown, hts, hX, hbl, B.notSynchronized, hgv, (name_of_methodNamed B.named B.method).1⟩
    obtain ⟨t, a1, o, b1, b2, b3⟩ := K s₁ rfl X₀
    exact ⟨t, o, a1, b1, b2, b3⟩
theorem lw_pre_spec {args : Array Value} {s : State} (h : (Jvm.Cond.and given_1 narrow_1).before args s = true) (hr : rest_1_c.before args s = true) : ∃ (b : Addr) (xs : List Int32), lw_P b xs args s := by
  have hs := flat_of_before _ h
  have hq := flat_of_before _ hr
  have hc : (Cond.count 1).before args s = true := hs _ (by decide +kernel)
  have harr : (Cond.arrayOf (.arg 0) .int).before args s = true := hs _ (by decide +kernel)
  have hle : (Cond.le (.length (.arg 0)) (.int 384)).before args s = true := hs _ (by decide +kernel)
  have hlen : (Cond.isInt (.length (.arg 0))).before args s = true := hq _ (by decide +kernel)
  have hall : (Cond.all (.arg 0) (.isInt (.elem (.arg 0) (.index 0)))).before args s = true := hq _ (by decide +kernel)
  obtain ⟨b, xs, hb, hx⟩ := State.ints_of_pre rfl harr hlen hall
  have hsm : xs.length < 2 ^ 31 := hx.choose_spec.2.2.2
  have hev : (Term.length (.arg 0)).eval args s none [] s = some (.int xs.length.toInt32) := hx.length_eval hb
  have hv := Cond.le_ints hev (show (Term.int 384).eval args s none [] s = some (.int 384) from rfl)
  have hd : xs.length.toInt32 ≤ 384 := by
    simpa [Cond.before, Cond.holds, hv] using hle
  have hN : xs.length ≤ 384 := (Int32.ofNat_le_ofNat hsm (by decide)).mp (show Int32.ofNat xs.length ≤ Int32.ofNat 384 from hd)
  exact ⟨b, xs, Cond.one_arg hc (show args[0]? = some (.ref b) from hb), hx, hN, h⟩
theorem lw_comes (l : Launch) : Comes l x (Jvm.Cond.code x code maxLocals ret :: tables_1) room_1 (fun tb e args s => Calls_1 tb e args s ∧ rest_1 tb e args s ∧ Pre_1 tb e args s)
    (fun _ _ args s o t => lw_Q args s o t) := by
  intro p e ha hc hk s m args below hf hfit hheap happ hpre
  obtain ⟨b, xs, hP⟩ := lw_pre_spec hpre.2.2 hpre.2.1
  obtain ⟨k, o, h1, h2, h3, hQ⟩ := lw_walk l b xs p e ha hc hk s m args below hf ((Spec.applies_iff_loose hf).mp happ).1 hP trivial
  exact ⟨k, o, h1, h2, h3, hQ⟩
theorem lw_frame {s t : State} {o : Outcome} {args : Array Value} (h : Framed s o t [] 600000 7302249) :
    Framed s o t (fieldLocs frame_1_writes args s ++ arrayLocs frame_1_arrays args s ++ staticLocs frame_1_statics s) 600000 7302249 := h
theorem lw_limb (L : Cond) (hL : ∀ (args : Array Value) (s t : State), L.after args s (.returned (some (.int 1))) t = true) :
    ArmFor flags0 classFile x code maxLocals ret World_1 tables_1 room_1 Calls_1 rest_1 Pre_1
      (fun tb e a s o t => postC L tb e a s o t ∧ Framed s o t (fieldLocs frame_1_writes a s ++ arrayLocs frame_1_arrays a s ++ staticLocs frame_1_statics s) 600000 7302249) := by
  intro l _ _ _ p e ha hc hk s m args below hf hfit hheap happ hpre
  obtain ⟨k, o, h1, h2, h3, rfl, hF⟩ := lw_comes l p e ha hc hk s m args below hf hfit hheap happ hpre
  exact ⟨k, _, h1, h2, h3, hL args s _, lw_frame hF⟩
theorem i_vc : Claimed_1_1 ∧ Claimed_1_2 := ⟨lw_limb limb_1_1 (fun args s t => by simp [limb_1_1, Cond.after, Cond.holds, Cond.value]), lw_limb limb_1_2 (fun args s t => Cond.after_iff.mpr (by
  first | (rw [show limb_1_2 = Cond.eq .result (.int 1) from rfl, Cond.eq_ints (x := 1) (y := 1) rfl rfl]; simp; done) | (simp [limb_1_2, Cond.value, Term.eval]; done)))⟩
