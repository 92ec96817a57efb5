theorem o_add (x y : Int) : Int32.ofInt x + Int32.ofInt y = Int32.ofInt (x + y) := (Int32.ofInt_add x y).symm
theorem o_sub (x y : Int) : Int32.ofInt x - Int32.ofInt y = Int32.ofInt (x - y) := (Int32.ofInt_sub x y).symm
theorem o_mul (x y : Int) : Int32.ofInt x * Int32.ofInt y = Int32.ofInt (x * y) := (Int32.ofInt_mul x y).symm
theorem o_div {x y : Int} (hx : InR x) (hy : InR y) (h0 : 0 ≤ x) (h1 : 0 < y) : Int32.ofInt x / Int32.ofInt y = Int32.ofInt (x / y) := by
  obtain ⟨a, rfl⟩ := Int.eq_ofNat_of_zero_le h0
  obtain ⟨b, rfl⟩ := Int.eq_ofNat_of_zero_le (Int.le_of_lt h1)
  unfold InR at hx hy
  have := pk_div (a := a) (d := b) (by omega) (by omega) (by omega)
  rw [← Int.natCast_ediv, i_nat, i_nat, i_nat]
  exact this
theorem o_rem {x y : Int} (hx : InR x) (hy : InR y) (h0 : 0 ≤ x) (h1 : 0 < y) : Int32.ofInt x - Int32.ofInt x / Int32.ofInt y * Int32.ofInt y = Int32.ofInt (x % y) := by
  obtain ⟨a, rfl⟩ := Int.eq_ofNat_of_zero_le h0
  obtain ⟨b, rfl⟩ := Int.eq_ofNat_of_zero_le (Int.le_of_lt h1)
  unfold InR at hx hy
  have := pk_rem (a := a) (d := b) (by omega) (by omega) (by omega)
  rw [← Int.natCast_emod, i_nat, i_nat, i_nat]
  exact this
theorem div_in {x y : Int} (hx : InR x) (h0 : 0 ≤ x) (h1 : 0 < y) : InR (x / y) := by
  have h2 : 0 ≤ x / y := Int.ediv_nonneg h0 (Int.le_of_lt h1)
  have h3 : x / y ≤ x := Int.ediv_le_self y h0
  unfold InR at *
  omega
theorem rem_in {x y : Int} (hy : InR y) (h1 : 0 < y) : InR (x % y) := by
  have h2 := Int.emod_nonneg x (Int.ne_of_gt h1)
  have h3 := Int.emod_lt_of_pos x h1
  unfold InR at *
  omega
theorem o_ne0 {y : Int} (hy : InR y) (h1 : 0 < y) : ¬ Int32.ofInt y = 0 := fun q => by
  have := (i_eq hy in_0).mp q
  omega
/-- a return, of whatever context -/
def RetOK (X : Cx) (md : MD) (Z : FC) (n : Nat) (sh : Nat → Shp) (ce sl : Nat) (rb : Bool) (R : Option AV → Sg → Prop) : Prop :=
  (∀ pc x L σ, decode md.2.1 pc = .ok (.ireturn, 1) → (rb = true → x = 0 ∨ x = 1) → R (some (vi x)) σ → SW X md.2.2.1 Z pc L [vi x] n sh σ ce sl) ∧ ∀ pc L σ, decode md.2.1 pc = .ok (.return_, 1) → R none σ → SW X md.2.2.1 Z pc L [] n sh σ ce sl
/-- a call, of whatever context: the callee's contract (nothing made), and what is behind it -/
def CKs (X : Cx) (md : MD) (Z : FC) (n : Nat) (sh : Nat → Shp) (ce sl : Nat) (mid : Nat) (args : List AV) (nx : Nat) (L rest : List AV) (σ : Sg) : Prop :=
  ∃ (d mc ms : Nat) (Q1 : QT), d + 1 ≤ Z.2.2.2.1.frames ∧ 64 * d + 64 ≤ Z.2.2.2.1.locals ∧ ce + mc ≤ Z.2.2.2.1.cells ∧ sl + ms ≤ Z.2.2.2.1.slots ∧ rest.length ≤ 8 ∧ Call X d mc ms mid args n sh σ Q1 ∧ ∀ r n' sh' σ', (∀ k j, InR (σ' k j)) → (∀ v, r = some v → okv v) → Q1 r n' sh' σ' → SW X md.2.2.1 Z nx L (r.toList ++ rest) n' sh' σ' (ce + mc) (sl + ms)
section STEP
variable {X : Cx} {md : MD} {Z : FC} {pc nx : Nat} {L St : List AV} {n : Nat} {sh : Nat → Shp} {σ : Sg} {ce sl : Nat}
theorem r_call {p : Program} {l : Launch} {e : Env} {R : Room} {s : State} {m : MethodId} {as : Array Value} {below : List Frame} {meth : Method} {c : Code} {H : Heap} {locs : List Loc} {QQ : State → Prop} {ls : Array Slot} {mc ms : Nat} {Q1 : QT} {rest : List AV} {a : Array Value} {st0 : List Value} {rv : List Value}
    (hrv : rv = rest.map (cv X)) (hr : va_Run p l e R s m as below meth c H locs ce sl mc ms (F0 m pc ls st0) rv (Qm X Q1 a) (Ab X)) (hS : va_S (Ab X) s.heap H locs)
    (kk : ∀ (r : Option AV) n' sh' σ' (H1 : Heap) (locs1 : List Loc), (∀ v, r = some v → okv v) → Q1 r n' sh' σ' → Whp X n' sh' σ' H1 → va_S (Ab X) s.heap H1 locs1 → W p l e R s m as below meth c H1 locs1 (ce + mc) (sl + ms) QQ (F0 m (pc + 3) ls ((r.toList ++ rest).map (cv X)))) : W p l e R s m as below meth c H locs ce sl QQ (F0 m pc ls st0) := by
  subst hrv
  intro T hT X1
  obtain ⟨v, st₀, t, T', L1, h0, X', hL, e1, e2, ⟨⟨r, n', sh', σ', hv, hok, hq, hw⟩, hz, hk⟩, stp1⟩ := hr T hT X1
  have hvr : v = r.map (cv X) := by
    cases hv
    rfl
  subst hvr
  rw [h0] at hz hk
  obtain ⟨t2, a1, b1⟩ := kk r n' sh' σ' T'.heap (locs ++ L1) hok hq (by rw [e1]; exact hw)
    ⟨Nat.le_trans hS.1 (by rw [e1]; exact hz), fun q h1 h2 => by rw [e1, hk q (Nat.lt_of_lt_of_le h1 hS.1) h2]; exact hS.2.1 q h1 h2, fun q hq => by
      rcases List.mem_append.mp hq with h | h
      · exact hS.2.2 q h
      · exact hL q h⟩ T' rfl X'
  refine ⟨t2, stp1 t2 ?_, b1⟩
  cases r with
  | none => exact a1
  | some w => exact a1
theorem Pm_blind {args : List AV} : FrameBlind (Pm X args n sh σ) := by
  intro a U g mk h
  obtain ⟨h1, h2, h3, h4⟩ := h
  exact ⟨h1, h2.blind, h3, h4⟩
theorem Pm_at {args : List AV} {s U : State} {H : Heap} {locs : List Loc} (hst : Wst X s) (hbs : X.1 ≤ s.heap.size) (hS : va_S (Ab X) s.heap H locs) (hW : Whp X n sh σ H) (hU : U.heap = H) (hw : s.WarmedH U.vm) : Pm X args n sh σ (args.map (cv X)).toArray U :=
  ⟨rfl, hst.warm hS hU hw, by rw [hU]; exact Nat.le_trans hbs hS.1, by rw [hU]; exact hW⟩
theorem cell_words {mid : Nat} {q : MD} (hO : OKM q) : GoodIn gtbl (mws q) := gt_in _ (fun w hw => by
  rcases List.mem_cons.mp hw with h | h
  · rw [h]; exact hO.1
  · exact h)
theorem rmm_room {d mc ms maxL : Nat} {R : Room} (h1 : d + 1 ≤ R.frames) (h2 : 64 * d + 64 ≤ R.locals) (h3 : maxL ≤ 40) : (rmm d mc ms).frames + 1 ≤ R.frames ∧ 8 + (maxL + 11) + (rmm d mc ms).locals ≤ R.locals := ⟨h1, by show 8 + (maxL + 11) + 64 * d ≤ _; omega⟩
theorem r_callV (hB : Bd X md Z) {mid idx k : Nat} {q : MD} (hq : MTL[mid]? = some q) (hO : OKM q) {As rest : List AV} {ci : Nat} {rl : List (Option (Option Nat))} {r : vw_C} (hk : sh k = .inr (.inr (ci, rl))) (hr : vwCl[ci]? = some r) (hrc : r.1 = q.1.cls) (hs : q.2.2.2.2.1 = false) (hni : q.1.name ≠ "<init>") (hn : As.length = q.2.2.2.2.2.1) (hl : Cond.methodLink md.1.cls idx q.1 ∈ gtbl) (hdg : decode md.2.1 pc = .ok (.invokevirtual idx, 3)) (h : CKs X md Z n sh ce sl mid (vr k :: As) (pc + 3) L rest σ) : SW X md.2.2.1 Z pc L (As.reverse ++ vr k :: rest) n sh σ ce sl := by
  obtain ⟨d, mc, ms, Q1, hd1, hd2, hc1, hc2, hlen, hC, hK⟩ := h
  obtain ⟨hx, hb, hml, hown, hnm, hts, hst, hbs, hfr, hlo⟩ := hB
  obtain ⟨p, l, e, R, s, m, as, below, meth, c, QQ⟩ := Z
  intro hL hSt H locs ls hlr hW hS
  have hci := vwCl_lt hr
  have hkn : k < n := sh_lt hW (by rw [hk]; intro h; cases h; omega)
  have he : (wl X n sh σ)[k]? = some (X.1 + k, .inr (ci, fld X.1 (σ k) rl 0)) := by rw [wl_get hkn, hk]; rfl
  have hargs : ∀ v ∈ vr k :: As, okv v := by
    intro v hv
    rcases List.mem_cons.mp hv with h | h
    · rw [h]; exact trivial
    · exact hSt v (List.mem_append_left _ (List.mem_reverse.mpr h))
  have hrest : ∀ v ∈ rest, okv v := fun v hv => hSt v (List.mem_append_right _ (List.mem_cons_of_mem _ hv))
  obtain ⟨cell, g1, g2, g3⟩ := va_recv hst.1 hW.2.1 hr he
  have hMet := hC hargs q hq l
  have hb2 : (8 : Nat) ≥ ((rest.map (cv X)).map fun v => v.category).sum := by rw [nsum]; exact hlen
  refine r_call (rest := rest) rfl (va_runV (As := As.map (cv X)) (rest := rest.map (cv X)) (C := q.1.cls) (b := X.1 + k) (bytes := q.2.1) (maxL := q.2.2.1) (ret := q.2.2.2.1) (n := As.length) ⟨hx, hb, hml, hown, hts⟩ hMet ⟨callB_of As.length hts (cell_words (mid := mid) hO) rfl rfl rfl (hts _ hO.2.1) (hts _ hl) ⟨hO.2.2.2.2.2.1.1, hO.2.2.2.2.2.1.2.1, by rw [hO.2.2.2.2.2.1.2.2, hn]⟩ (rmm_room hd1 hd2 hO.2.2.2.2.2.2.2), hts _ (hO.2.2.2.1 hs), hts _ (hO.2.2.2.2.1 hs hni)⟩ ⟨Pm_blind, ⟨cell, g1, g2, by rw [← hrc]; exact g3⟩, fun U hU hw => Pm_at (args := vr k :: As) hst hbs hS hW hU hw⟩ rfl (by rw [List.length_map]) (hlr.1) ?_ (lv_room hb2) hdg ⟨hc1, hc2⟩) hS ?_
  · show (As.reverse ++ vr k :: rest).map (cv X) = _
    rw [List.map_append, List.map_reverse]
    rfl
  · intro r n' sh' σ' H1 locs1 h1 h2 h3 h4
    refine hK r n' sh' σ' h3.2.2.1 h1 h2 hL ?_ H1 locs1 ls hlr h3 h4
    intro v hv
    rcases List.mem_append.mp hv with h | h
    · exact h1 v (Option.mem_toList.mp h)
    · exact hrest v h
theorem r_callI (hB : Bd X md Z) {mid idx k : Nat} {q : MD} (hq : MTL[mid]? = some q) (hO : OKM q) {As rest : List AV} (hs : q.2.2.2.2.1 = false) (hni : q.1.name = "<init>") (hret : q.2.2.2.1 = none) (hn : As.length = q.2.2.2.2.2.1) (hl : Cond.methodLink md.1.cls idx q.1 ∈ gtbl) (hdg : decode md.2.1 pc = .ok (.invokespecial idx, 3)) (h : CKs X md Z n sh ce sl mid (vr k :: As) (pc + 3) L rest σ) : SW X md.2.2.1 Z pc L (As.reverse ++ vr k :: rest) n sh σ ce sl := by
  obtain ⟨d, mc, ms, Q1, hd1, hd2, hc1, hc2, hlen, hC, hK⟩ := h
  obtain ⟨hx, hb, hml, hown, hnm, hts, hst, hbs, hfr, hlo⟩ := hB
  obtain ⟨p, l, e, R, s, m, as, below, meth, c, QQ⟩ := Z
  intro hL hSt H locs ls hlr hW hS
  have hargs : ∀ v ∈ vr k :: As, okv v := by
    intro v hv
    rcases List.mem_cons.mp hv with h | h
    · rw [h]; exact trivial
    · exact hSt v (List.mem_append_left _ (List.mem_reverse.mpr h))
  have hrest : ∀ v ∈ rest, okv v := fun v hv => hSt v (List.mem_append_right _ (List.mem_cons_of_mem _ hv))
  have hMet := hC hargs q hq l
  have hb2 : (8 : Nat) ≥ ((rest.map (cv X)).map fun v => v.category).sum := by rw [nsum]; exact hlen
  have hG := cell_words (mid := mid) hO
  have hcd := hO.1
  unfold mws at hMet hG
  rw [hret] at hMet hG
  refine r_call (rest := rest) rfl (va_runI (As := As.map (cv X)) (rest := rest.map (cv X)) (b := X.1 + k) (bytes := q.2.1) (maxL := q.2.2.1) (n := As.length) ⟨hx, hb, hml, hown, hts⟩ hMet ⟨callB_of As.length hts hG rfl rfl rfl (hts _ hO.2.1) (hts _ hl) ⟨hO.2.2.2.2.2.1.1, hO.2.2.2.2.2.1.2.1, by rw [hO.2.2.2.2.2.1.2.2, hn]⟩ (rmm_room hd1 hd2 hO.2.2.2.2.2.2.2), hni, hts _ (hO.2.2.2.1 hs)⟩ ⟨Pm_blind, fun U hU hw => Pm_at (args := vr k :: As) hst hbs hS hW hU hw⟩ rfl (by rw [List.length_map]) (hlr.1) ?_ (lv_room hb2) hdg ⟨hc1, hc2⟩) hS ?_
  · show (As.reverse ++ vr k :: rest).map (cv X) = _
    rw [List.map_append, List.map_reverse]
    rfl
  · intro r n' sh' σ' H1 locs1 h1 h2 h3 h4
    refine hK r n' sh' σ' h3.2.2.1 h1 h2 hL ?_ H1 locs1 ls hlr h3 h4
    intro v hv
    rcases List.mem_append.mp hv with h | h
    · exact h1 v (Option.mem_toList.mp h)
    · exact hrest v h
theorem r_callS (hB : Bd X md Z) {mid idx : Nat} {q : MD} (hq : MTL[mid]? = some q) (hO : OKM q) {As rest : List AV} (hs : q.2.2.2.2.1 = true) (hn : As.length = q.2.2.2.2.2.1) (hl : Cond.methodLink md.1.cls idx q.1 ∈ gtbl) (hdg : decode md.2.1 pc = .ok (.invokestatic idx, 3)) (h : CKs X md Z n sh ce sl mid As (pc + 3) L rest σ) : SW X md.2.2.1 Z pc L (As.reverse ++ rest) n sh σ ce sl := by
  obtain ⟨d, mc, ms, Q1, hd1, hd2, hc1, hc2, hlen, hC, hK⟩ := h
  obtain ⟨hx, hb, hml, hown, hnm, hts, hst, hbs, hfr, hlo⟩ := hB
  obtain ⟨p, l, e, R, s, m, as, below, meth, c, QQ⟩ := Z
  intro hL hSt H locs ls hlr hW hS
  have hargs : ∀ v ∈ As, okv v := fun v hv => hSt v (List.mem_append_left _ (List.mem_reverse.mpr hv))
  have hrest : ∀ v ∈ rest, okv v := fun v hv => hSt v (List.mem_append_right _ hv)
  have hMet := hC hargs q hq l
  have hb2 : (8 : Nat) ≥ ((rest.map (cv X)).map fun v => v.category).sum := by rw [nsum]; exact hlen
  refine r_call (rest := rest) rfl (va_runS (As := As.map (cv X)) (rest := rest.map (cv X)) (bytes := q.2.1) (maxL := q.2.2.1) (ret := q.2.2.2.1) (n := As.length) ⟨hx, hb, hml, hown, hts⟩ hMet ⟨callB_of As.length hts (cell_words (mid := mid) hO) rfl rfl rfl (hts _ hO.2.1) (hts _ hl) ⟨hO.2.2.2.2.2.1.1, hO.2.2.2.2.2.1.2.1, by rw [hO.2.2.2.2.2.1.2.2, hn]⟩ (rmm_room hd1 hd2 hO.2.2.2.2.2.2.2), hts _ (hO.2.2.1 hs)⟩ ⟨Pm_blind, fun U hU hw => Pm_at (args := As) hst hbs hS hW hU hw⟩ rfl (by rw [List.length_map]) (hlr.1) ?_ (lv_room hb2) hdg ⟨hc1, hc2⟩) hS ?_
  · show (As.reverse ++ rest).map (cv X) = _
    rw [List.map_append, List.map_reverse]
  · intro r n' sh' σ' H1 locs1 h1 h2 h3 h4
    refine hK r n' sh' σ' h3.2.2.1 h1 h2 hL ?_ H1 locs1 ls hlr h3 h4
    intro v hv
    rcases List.mem_append.mp hv with h | h
    · exact h1 v (Option.mem_toList.mp h)
    · exact hrest v h
theorem r_callN (hB : Bd X md Z) {mid : Nat} {q : MD} (hq : MTL[mid]? = some q) (hO : OKM q) {As rest : List AV} (hs : q.2.2.2.2.1 = true) (hn : As.length = q.2.2.2.2.2.1) (ho : md.1.cls = "MirrorMaze$Maze") (hqn : q.1 = ⟨"MirrorMaze", "isMirrorKind", "(I)Z"⟩) (hdg : decode md.2.1 pc = .ok (.invokestatic 62, 3)) (h : CKs X md Z n sh ce sl mid As (pc + 3) L rest σ) : SW X md.2.2.1 Z pc L (As.reverse ++ rest) n sh σ ce sl := by
  obtain ⟨d, mc, ms, Q1, hd1, hd2, hc1, hc2, hlen, hC, hK⟩ := h
  obtain ⟨hx, hb, hml, hown, hnm, hts, hst, hbs, hfr, hlo⟩ := hB
  obtain ⟨p, l, e, R, s, m, as, below, meth, c, QQ⟩ := Z
  intro hL hSt H locs ls hlr hW hS
  have hargs : ∀ v ∈ As, okv v := fun v hv => hSt v (List.mem_append_left _ (List.mem_reverse.mpr hv))
  have hrest : ∀ v ∈ rest, okv v := fun v hv => hSt v (List.mem_append_right _ hv)
  have hMet := hC hargs q hq l
  have hb2 : (8 : Nat) ≥ ((rest.map (cv X)).map fun v => v.category).sum := by rw [nsum]; exact hlen
  rw [ho] at hown
  have hnw : va_Nw (.methodLinkNest "MirrorMaze$Maze" 62 q.1 "MirrorMaze") s := by rw [hqn]; exact hst.2.2.2.2.1
  refine r_call (rest := rest) rfl (va_runSN (As := As.map (cv X)) (rest := rest.map (cv X)) (bytes := q.2.1) (maxL := q.2.2.1) (ret := q.2.2.2.1) (n := As.length) (host := "MirrorMaze") ⟨hx, hb, hml, hown, hts⟩ hMet ⟨va_cnB As.length hts (cell_words (mid := mid) hO) rfl rfl rfl hnw (hts _ hO.2.1) ⟨hO.2.2.2.2.2.1.1, hO.2.2.2.2.2.1.2.1, by rw [hO.2.2.2.2.2.1.2.2, hn]⟩ (rmm_room hd1 hd2 hO.2.2.2.2.2.2.2), hts _ (hO.2.2.1 hs), trivial⟩ ⟨Pm_blind, fun U hU hw => Pm_at (args := As) hst hbs hS hW hU hw⟩ rfl (by rw [List.length_map]) (hlr.1) ?_ (lv_room hb2) hdg ⟨hc1, hc2⟩) hS ?_
  · show (As.reverse ++ rest).map (cv X) = _
    rw [List.map_append, List.map_reverse]
  · intro r n' sh' σ' H1 locs1 h1 h2 h3 h4
    refine hK r n' sh' σ' h3.2.2.1 h1 h2 hL ?_ H1 locs1 ls hlr h3 h4
    intro v hv
    rcases List.mem_append.mp hv with h | h
    · exact h1 v (Option.mem_toList.mp h)
    · exact hrest v h
end STEP
