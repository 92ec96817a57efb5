section ROWS
variable {p : Program} {l : Launch} {e : Env} {R : Room} {s : State} {m : MethodId} {args : Array Value} {below : List Frame} {meth : Method} {c : Code} {H : Heap} {locs : List Loc} {cells slots : Nat} {Q : State → Prop}
variable {cc : ByteArray} {pc : Nat} {ls : Array Slot} {rest : List Value} {X : Cx} {n : Nat} {sh : Nat → Shp} {σ : Sg} {H0 : Heap}
theorem my_get (hexec : p.tables.exec = Jvm.exec) (hb : c.code = cc) (hts : ∀ w ∈ gtbl, w.before args s = true) {own : String} (hown : s.vm.findClass own = some m.cls) (hst : Wst X s) (hW : Whp X n sh σ H) {k ci idx b : Nat} {q : vw_C} {rl : List (Option (Option Nat))} (hk : sh k = .inr (.inr (ci, rl))) (hq : vwCl[ci]? = some q) (hbN : b < q.2.2) (hl : Cond.fieldLink own idx (q.2.1 b).1 (q.2.1 b).2.1 (q.2.1 b).2.2.1 ∈ gtbl) {o : Option (Option Nat)} (ho : rl[b]? = some o) (hdg : decode cc pc = .ok (.getfield idx, 3))
    (kk : W p l e R s m args below meth c H locs cells slots Q (F0 m (pc + 3) ls (fv X.1 (σ k) b o :: rest))) : W p l e R s m args below meth c H locs cells slots Q (F0 m pc ls (.ref (X.1 + k) :: rest)) := by
  have hci := vwCl_lt hq
  have hkn : k < n := sh_lt hW (by rw [hk]; intro h; cases h; omega)
  have hg : (wl X n sh σ)[k]? = some (X.1 + k, .inr (ci, fld X.1 (σ k) rl 0)) := by rw [wl_get hkn, hk]; rfl
  refine va_get (D := X.2.1) (cl := vwCl) (ref := (q.2.1 b).1) (C := q.1) (T := q.2.1) (N := q.2.2) (Ts := gtbl) hexec hb hts (uws_in ci q hq) hown hst.1 hW.2.1 k hg hq b hbN (hts _ hl) (fun _ h => h) (v := fv X.1 (σ k) b o) ?_ hdg kk
  rw [fld_get, ho, Nat.zero_add]
  rfl
/-- a field of ints (or a boolean) -/
theorem my_put (hexec : p.tables.exec = Jvm.exec) (hb : c.code = cc) (hts : ∀ w ∈ gtbl, w.before args s = true) {own : String} (hown : s.vm.findClass own = some m.cls) (hst : Wst X s) (hW : Whp X n sh σ H) (hS : va_S (Ab X) H0 H locs) {k ci idx b : Nat} {q : vw_C} {rl : List (Option (Option Nat))} (hk : sh k = .inr (.inr (ci, rl))) (hq : vwCl[ci]? = some q) (hbN : b < q.2.2) (hl : Cond.fieldLink own idx (q.2.1 b).1 (q.2.1 b).2.1 (q.2.1 b).2.2.1 ∈ gtbl) (ho : rl[b]? = some none) (hfin : (q.2.1 b).2.2.2 = false) {ty : FieldType} {x : Int} (hx : InR x) (hd : parseFieldDescriptor (q.2.1 b).2.2.1 = some ty) (hn : narrow ty (.int (Int32.ofInt x)) = .int (Int32.ofInt x)) (hfit : fits ty (.int (Int32.ofInt x)) = true) (hdg : decode cc pc = .ok (.putfield idx, 3))
    (kk : ∀ (H1 : Heap) (locs1 : List Loc), Whp X n sh (st σ k b x) H1 → va_S (Ab X) H0 H1 locs1 → W p l e R s m args below meth c H1 locs1 cells slots Q (F0 m (pc + 3) ls rest)) : W p l e R s m args below meth c H locs cells slots Q (F0 m pc ls (.int (Int32.ofInt x) :: .ref (X.1 + k) :: rest)) := by
  have hci := vwCl_lt hq
  have hkn : k < n := sh_lt hW (by rw [hk]; intro h; cases h; omega)
  have he : (wl X n sh σ)[k]? = some (X.1 + k, .inr (ci, fld X.1 (σ k) rl 0)) := by rw [wl_get hkn, hk]; rfl
  obtain ⟨ty0, hty, hnm⟩ := uty_ok ci q hq
  have hin := uws_in ci q hq
  have hap := va_apart (own := own) hts hin ty0 hty hnm hst.1 hq
  obtain ⟨r, h1, cell, q1, q2, q3, q4⟩ := hW.2.1 k _ he
  have hr : r = q := Option.some.inj (h1.symm.trans hq)
  subst hr
  obtain ⟨hSl, hfc, kC, hkC, hkind⟩ := hst.1.1 ci _ hq
  obtain ⟨cf, kf, fi, f, hi, hsl⟩ := hSl b hbN
  have hlay := hts _ (hin _ (u_in_lay hbN))
  unfold u_lay at hlay
  rw [if_neg (by rw [hfin]; decide)] at hlay
  have hst2 := (u_facts hfc hkC (u_lays hts hin hbN) hi).1
  have h6 := u_store hfc hkC hkind hlay hi hd hn hfit
  refine W.putK hexec hb (f := f) ⟨hown, hts _ hl, ⟨_, _, _, hi⟩, hst2⟩ (by rw [q2]; exact h6) q1 q3 (by rw [hsl]; exact k2_hasslot (q4 b hbN)) rfl rfl hdg fun H' e1 e2 e3 => ?_
  rw [hsl] at e1 ⊢
  have hlen : b < (fld X.1 (σ k) rl 0).length := by rw [fld_len]; exact (List.getElem?_eq_some_iff.mp ho).1
  refine kk H' _ (my_set (k := k) (sh' := sh) (σ' := st σ k b x) hW hkn e2 e3 ?_ (fun j hj => ⟨rfl, st_off σ b x hj⟩) (st_in hW.2.2.1 hx)) (hS.put e2 e3 (Nat.le_add_right _ _))
  rw [hk, st_row]
  show va_at X.2.1 vwCl (X.1 + k, .inr (ci, fld X.1 (updI (σ k) b x) rl 0)) H'
  rw [← fld_seti X.1 (σ k) rl b x ho]
  exact ⟨_, hq, t_OB.to (V := updV (vp_V (fld X.1 (σ k) rl 0)) b (.int (Int32.ofInt x))) ⟨_, e1, q2, q3, t_set q4 hap hbN _⟩ (fun j _ => vp_updV_set hlen _ j)⟩
/-- a final field of references, in the constructor -/
theorem my_putF (hexec : p.tables.exec = Jvm.exec) (hb : c.code = cc) (hts : ∀ w ∈ gtbl, w.before args s = true) {own : String} (hown : s.vm.findClass own = some m.cls) (hst : Wst X s) (hW : Whp X n sh σ H) (hS : va_S (Ab X) H0 H locs) {k ci idx b r0 : Nat} {q : vw_C} {rl : List (Option (Option Nat))} (hk : sh k = .inr (.inr (ci, rl))) (hq : vwCl[ci]? = some q) (hbN : b < q.2.2) (hl : Cond.fieldLink own idx (q.2.1 b).1 (q.2.1 b).2.1 (q.2.1 b).2.2.1 ∈ gtbl) (hlr : b < rl.length) (hfin : (q.2.1 b).2.2.2 = true) (hin2 : meth.name = "<init>") (hdecl : (q.2.1 b).1 = own) {ty : FieldType} (hd : parseFieldDescriptor (q.2.1 b).2.2.1 = some ty) (hn : ∀ a, narrow ty (.ref a) = .ref a) (hfit : ∀ a, fits ty (.ref a) = true) (hdg : decode cc pc = .ok (.putfield idx, 3))
    (kk : ∀ (H1 : Heap) (locs1 : List Loc), Whp X n (fun j => if j = k then .inr (.inr (ci, rl.set b (some (some r0)))) else sh j) σ H1 → va_S (Ab X) H0 H1 locs1 → W p l e R s m args below meth c H1 locs1 cells slots Q (F0 m (pc + 3) ls rest)) : W p l e R s m args below meth c H locs cells slots Q (F0 m pc ls (.ref (X.1 + r0) :: .ref (X.1 + k) :: rest)) := by
  have hci := vwCl_lt hq
  have hkn : k < n := sh_lt hW (by rw [hk]; intro h; cases h; omega)
  have he : (wl X n sh σ)[k]? = some (X.1 + k, .inr (ci, fld X.1 (σ k) rl 0)) := by rw [wl_get hkn, hk]; rfl
  obtain ⟨ty0, hty, hnm⟩ := uty_ok ci q hq
  have hin := uws_in ci q hq
  have hap := va_apart (own := own) hts hin ty0 hty hnm hst.1 hq
  obtain ⟨r, h1, cell, q1, q2, q3, q4⟩ := hW.2.1 k _ he
  have hr : r = q := Option.some.inj (h1.symm.trans hq)
  subst hr
  obtain ⟨hSl, hfc, kC, hkC, hkind⟩ := hst.1.1 ci _ hq
  obtain ⟨cf, kf, fi, f, hi, hsl⟩ := hSl b hbN
  have hlay := hts _ (hin _ (u_in_lay hbN))
  unfold u_lay at hlay
  rw [if_pos hfin] at hlay
  have hst2 := (u_facts hfc hkC (u_lays hts hin hbN) hi).1
  have hcf : m.cls = cf := by
    obtain ⟨_, _, c', _, _, _, -, -, hf', -, -, -, hown2, -⟩ := Cond.laysFinal_spec hlay
    have e1 : c' = cf := by have := hi.symm.trans hf'; simp at this; exact this.1.symm
    rw [hdecl] at hown2
    rw [← e1]; exact Option.some.inj (hown.symm.trans hown2)
  have h6 := u_fits hfc hkC hkind (Or.inr hlay) hi hd (hn (X.1 + r0)) (hfit (X.1 + r0))
  refine W.putFinK hexec hb hown (hts _ hl) hi hst2 hcf hin2 (by rw [q2]; exact h6) q1 q3 (by rw [hsl]; exact k2_hasslot (q4 b hbN)) rfl rfl hdg fun H' e1 e2 e3 => ?_
  rw [hsl] at e1 ⊢
  have hlen : b < (fld X.1 (σ k) rl 0).length := by rw [fld_len]; exact hlr
  refine kk H' _ (my_set (k := k) (sh' := fun j => if j = k then .inr (.inr (ci, rl.set b (some (some r0)))) else sh j) (σ' := σ) hW hkn e2 e3 ?_ (fun j hj => ⟨if_neg hj, rfl⟩) hW.2.2.1) (hS.put e2 e3 (Nat.le_add_right _ _))
  rw [if_pos rfl]
  show va_at X.2.1 vwCl (X.1 + k, .inr (ci, fld X.1 (σ k) (rl.set b (some (some r0))) 0)) H'
  rw [← fld_setr X.1 (σ k) rl b (some r0) hlr]
  exact ⟨_, hq, t_OB.to (V := updV (vp_V (fld X.1 (σ k) rl 0)) b (.ref (X.1 + r0))) ⟨_, e1, q2, q3, t_set q4 hap hbN _⟩ (fun j _ => vp_updV_set hlen _ j)⟩
theorem my_aald (hexec : p.tables.exec = Jvm.exec) (hb : c.code = cc) (hst : Wst X s) (hW : Whp X n sh σ H) {k len r : Nat} {g : Nat → Option Nat} (hk : sh k = .inr (.inl (len, g))) {i : Int} (hi : InR i) (h0 : 0 ≤ i) (h1 : i < len) (hg0 : g i.toNat = some r) (hdg : decode cc pc = .ok (.aaload, 1))
    (kk : W p l e R s m args below meth c H locs cells slots Q (F0 m (pc + 1) ls (.ref (X.1 + r) :: rest))) : W p l e R s m args below meth c H locs cells slots Q (F0 m pc ls (.int (Int32.ofInt i) :: .ref (X.1 + k) :: rest)) := by
  have hkn : k < n := sh_lt hW (by rw [hk]; exact fun h => by cases h)
  have hg : (wl X n sh σ)[k]? = some (X.1 + k, .inl (X.2.2.1.2.2, len, .inr (.inr (.inr (.inr (fun j => (g j).map (X.1 + ·))))))) := by rw [wl_get hkn, hk]; rfl
  refine va_aldq hexec hb hst.1 hW.2.1 k 2 hg (C := "MirrorMaze$Maze") rfl (i_in hi h0 h1) hdg ?_
  rw [i_clamp hi, hg0]
  exact kk
theorem my_aast (hexec : p.tables.exec = Jvm.exec) (hb : c.code = cc) (hst : Wst X s) (hW : Whp X n sh σ H) (hS : va_S (Ab X) H0 H locs) {k len kv : Nat} {g : Nat → Option Nat} {rl : List (Option (Option Nat))} (hk : sh k = .inr (.inl (len, g))) (hkv : sh kv = .inr (.inr (1, rl))) {i : Int} (hi : InR i) (h0 : 0 ≤ i) (h1 : i < len) (hdg : decode cc pc = .ok (.aastore, 1))
    (kk : ∀ (H1 : Heap) (locs1 : List Loc), Whp X n (fun j => if j = k then .inr (.inl (len, va_up g i.toNat (some kv))) else sh j) σ H1 → va_S (Ab X) H0 H1 locs1 → W p l e R s m args below meth c H1 locs1 cells slots Q (F0 m (pc + 1) ls rest)) : W p l e R s m args below meth c H locs cells slots Q (F0 m pc ls (.ref (X.1 + kv) :: .int (Int32.ofInt i) :: .ref (X.1 + k) :: rest)) := by
  have hkn : k < n := sh_lt hW (by rw [hk]; exact fun h => by cases h)
  have hvn : kv < n := sh_lt hW (by rw [hkv]; exact fun h => by cases h)
  have ha : (wl X n sh σ)[k]? = some (X.1 + k, .inl (X.2.2.1.2.2, len, .inr (.inr (.inr (.inr (fun j => (g j).map (X.1 + ·))))))) := by rw [wl_get hkn, hk]; rfl
  have hv : (wl X n sh σ)[kv]? = some (X.1 + kv, .inr (1, fld X.1 (σ kv) rl 0)) := by rw [wl_get hvn, hkv]; rfl
  have hin := i_in hi h0 h1
  have hlt : (Int32.ofInt i).toNatClampNeg < len := Nat.not_le.mp fun q => hin (Or.inr q)
  have hn0 : ¬ Int32.ofInt i < 0 := fun q => hin (Or.inl q)
  obtain ⟨r', hr', cellV, g1, g2, g3, -⟩ := hW.2.1 kv _ hv
  have hcls := (hst.1.1 1 _ rfl).2
  obtain ⟨kA, comp, k1, k2, k3, -⟩ := (hst.1.2 2 _ rfl).2
  have hcomp : comp = X.2.1.1 1 := Option.some.inj (k3.symm.trans hcls.1)
  subst hcomp
  obtain ⟨kC, hkC, -⟩ := hcls.2
  refine W.aast hexec hb (hW.2.1 k _ ha) (fun q h => by cases h) (fun h => by cases h) k1 k2 rfl hkC ⟨hn0, by show _ < (arrV _ _ _).slots.size; rw [arrV_size]; exact hlt⟩ g1 (fun q h => by rw [g3] at h; cases h) (by rw [g2]; exact hkC) (by rw [g2]; exact va_assign hcls) rfl rfl hdg fun H1 e1 z1 oq => ?_
  refine kk H1 _ (my_set (k := k) (sh' := fun j => if j = k then .inr (.inl (len, va_up g i.toNat (some kv))) else sh j) (σ' := σ) hW hkn z1 oq ?_ (fun j hj => ⟨if_neg hj, rfl⟩) hW.2.2.1) (hS.put z1 oq (Nat.le_add_right _ _))
  rw [if_pos rfl]
  show H1[X.1 + k]? = some (vp_cell _ _)
  rw [e1]
  dsimp only
  rw [vp_cell_q, vp_cell_q, arrV_store, i_clamp hi]
  congr 2
  funext q
  by_cases hq : q = i.toNat
  · subst hq
    simp [updV, va_up, va_rf]
  · simp [updV, va_up, hq]
/-- a new cell at the end -/
theorem my_push {sh' : Nat → Shp} {σ' : Sg} {H1 : Heap} (hW : Whp X n sh σ H) (hz : H1.size = H.size + 1) (oq : ∀ q : Nat, q < H.size → H1[q]? = H[q]?) (he : va_at X.2.1 vwCl (X.1 + n, cel X (sh' n) (σ' n)) H1) (ho : ∀ j, j ≠ n → sh' j = sh j ∧ σ' j = σ j) (hr : ∀ k j, InR (σ' k j)) : Whp X (n + 1) sh' σ' H1 := by
  obtain ⟨h1, h2, h3, h4⟩ := hW
  refine ⟨by omega, ?_, hr, fun j hj => ?_⟩
  · rw [← wl_push (sh := sh) (σ := σ) (fun j hj => ho j (by omega))]
    refine va_P.app (va_P.kept h2 (fun k q hk => oq q.1 ((h2 k q hk).lt))) (fun k q hk => ?_)
    have hk0 : k < 1 := (List.getElem?_eq_some_iff.mp hk).1
    rw [show k = 0 by omega] at hk
    cases hk
    exact he
  · rw [(ho j (by omega)).1]
    exact h4 j (by omega)
theorem my_S {H1 : Heap} (hS : va_S (Ab X) H0 H locs) (hz : H1.size = H.size + 1) (oq : ∀ q : Nat, q < H.size → H1[q]? = H[q]?) : va_S (Ab X) H0 H1 locs := ⟨Nat.le_trans hS.1 (by omega), fun x h1 h2 => (oq x (Nat.lt_of_lt_of_le h1 hS.1)).trans (hS.2.1 x h1 h2), hS.2.2⟩
def zrow (σ : Sg) (k : Nat) : Sg := fun k' j => if k' = k then 0 else σ k' j
theorem zrow_in {σ : Sg} {k : Nat} (h : ∀ k j, InR (σ k j)) : ∀ k' j, InR (zrow σ k k' j) := by
  intro k' j
  unfold zrow
  split
  · exact in_0
  · exact h k' j
theorem my_newa (hexec : p.tables.exec = Jvm.exec) (hb : c.code = cc) (hst : Wst X s) (hW : Whp X n sh σ H) (hS : va_S (Ab X) H0 H locs) (z : Bool) (harr : (Cond.arrayClass (newarray.typeOf (if z then .boolean else .int))).before args s = true) {N : Nat} (hN : N < 100000) (hcells : cells + 1 ≤ R.cells) (hslots : slots + N ≤ R.slots) (hdg : decode cc pc = .ok (.newarray (if z then .boolean else .int), 2))
    (kk : ∀ (H1 : Heap), Whp X (n + 1) (fun j => if j = n then .inl (z, N) else sh j) (zrow σ n) H1 → va_S (Ab X) H0 H1 locs → W p l e R s m args below meth c H1 locs (cells + 1) (slots + N) Q (F0 m (pc + 2) ls (.ref (X.1 + n) :: rest))) : W p l e R s m args below meth c H locs cells slots Q (F0 m pc ls (.int (Int32.ofInt (N : Nat)) :: rest)) := by
  have hNr : InR (N : Int) := by unfold InR; omega
  have hn0 : ¬ Int32.ofInt (N : Int) < 0 := fun q => by
    have := (i_lt hNr in_0).mp q
    omega
  refine va_newaK hexec hb harr rfl hdg rfl hn0 (N := N) (by rw [i_clamp hNr]; rfl) (by cases z <;> simp [componentBytes, newarray.typeOf] <;> omega) hcells hslots hW.1 fun H1 cA e1 z1 o1 hAr hNm => ?_
  refine kk H1 (my_push hW (by rw [z1, hW.1]) (by rw [hW.1]; exact o1) ?_ (fun j hj => ⟨if_neg hj, by funext i; simp [zrow, hj]⟩) (zrow_in hW.2.2.1)) (my_S hS (by rw [z1, hW.1]) (by rw [hW.1]; exact o1))
  rw [if_pos rfl]
  have e0 : zrow σ n n = fun _ => 0 := by funext i; simp [zrow]
  rw [e0]
  show H1[X.1 + n]? = some (vp_cell _ _)
  rw [e1]
  cases z with
  | false =>
    have : cA = X.2.2.1.1 := by
      have h1 : s.vm.findClass ("[" ++ (FieldType.int).toString) = some X.2.2.1.1 := (hst.1.2 0 _ rfl).2
      exact Option.some.inj (hNm.symm.trans h1)
    subst this
    rfl
  | true =>
    have : cA = X.2.2.1.2.1 := by
      have h1 : s.vm.findClass ("[" ++ (FieldType.boolean).toString) = some X.2.2.1.2.1 := (hst.1.2 1 _ rfl).2
      exact Option.some.inj (hNm.symm.trans h1)
    subst this
    rfl
theorem my_anew (hexec : p.tables.exec = Jvm.exec) (hb : c.code = cc) {own : String} {index : Nat} (hown : s.vm.findClass own = some m.cls) (hcl : (Cond.classLink own index "MirrorMaze$Maze").before args s = true) (hst : Wst X s) (hW : Whp X n sh σ H) (hS : va_S (Ab X) H0 H locs) {N : Nat} (hN : N < 100000) (hcells : cells + 1 ≤ R.cells) (hslots : slots + N ≤ R.slots) (hdg : decode cc pc = .ok (.anewarray index, 3))
    (kk : ∀ (H1 : Heap), Whp X (n + 1) (fun j => if j = n then .inr (.inl (N, fun _ => none)) else sh j) σ H1 → va_S (Ab X) H0 H1 locs → W p l e R s m args below meth c H1 locs (cells + 1) (slots + N) Q (F0 m (pc + 3) ls (.ref (X.1 + n) :: rest))) : W p l e R s m args below meth c H locs cells slots Q (F0 m pc ls (.int (Int32.ofInt (N : Nat)) :: rest)) := by
  have hNr : InR (N : Int) := by unfold InR; omega
  have hn0 : ¬ Int32.ofInt (N : Int) < 0 := fun q => by
    have := (i_lt hNr in_0).mp q
    omega
  have hc : (Int32.ofInt (N : Int)).toNatClampNeg = N := by rw [i_clamp hNr]; rfl
  refine W.anew hexec hb hown hcl (va_AO.use hst.2.1) rfl hdg rfl hn0 (by rw [hc]; omega) hcells (by rw [hc]; exact hslots) fun cA kA comp f1 f2 f3 f4 => ?_
  rw [hc]
  have hcA : cA = X.2.2.1.2.2 := by
    obtain ⟨_, _, _, _, _, k4⟩ := (hst.1.2 2 _ rfl).2
    exact Option.some.inj (f1.symm.trans k4)
  subst hcA
  generalize hH1 : H.push ({ cls := X.2.2.1.2.2, slots := Array.replicate N .null, vm := .none } : Cell) = H1
  have z1 : H1.size = H.size + 1 := by rw [← hH1, Array.size_push]
  have e1 : H1[H.size]? = some (arrV X.2.2.1.2.2 N (fun _ => .null)) := by rw [← hH1, Array.getElem?_push_size, ← arrV_new]
  have o1 : ∀ q : Nat, q < H.size → H1[q]? = H[q]? := fun q hq => by rw [← hH1, Array.getElem?_push, if_neg (Nat.ne_of_lt hq)]
  rw [show H.size = X.1 + n from hW.1]
  refine kk H1 (my_push hW z1 o1 ?_ (fun j hj => ⟨if_neg hj, rfl⟩) hW.2.2.1) (my_S hS z1 o1)
  rw [if_pos rfl]
  show H1[X.1 + n]? = some (vp_cell _ _)
  rw [← hW.1, e1]
  rfl
/-- a new object: its fields' kinds -/
theorem my_new (hexec : p.tables.exec = Jvm.exec) (hb : c.code = cc) (hts : ∀ w ∈ gtbl, w.before args s = true) {own : String} {ci index : Nat} {q : vw_C} (hown : s.vm.findClass own = some m.cls) (hq : vwCl[ci]? = some q) (hcl : (Cond.classLink own index q.1).before args s = true) (hinst : (Cond.instantiable q.1 q.2.2).before args s = true) (hini : (Cond.initialized q.1).before args s = true) (hst : Wst X s) (hW : Whp X n sh σ H) (hS : va_S (Ab X) H0 H locs) {rl : List (Option (Option Nat))} (hrl : ∀ ty0 : Nat → FieldType, (∀ k, k < q.2.2 → parseFieldDescriptor (q.2.1 k).2.2.1 = some (ty0 k)) → ∀ j, j < q.2.2 → ∃ o, rl[j]? = some o ∧ ((o = none ∧ (ty0 j = .int ∨ ty0 j = .boolean)) ∨ (o = some none ∧ defaultValue (ty0 j) = .null)))
    (hcells : cells + 1 ≤ R.cells) (hslots : slots + q.2.2 ≤ R.slots) (hdg : decode cc pc = .ok (.new index, 3))
    (kk : ∀ (H1 : Heap), Whp X (n + 1) (fun j => if j = n then .inr (.inr (ci, rl)) else sh j) (zrow σ n) H1 → va_S (Ab X) H0 H1 locs → W p l e R s m args below meth c H1 locs (cells + 1) (slots + q.2.2) Q (F0 m (pc + 3) ls (.ref (X.1 + n) :: rest))) : W p l e R s m args below meth c H locs cells slots Q (F0 m pc ls rest) := by
  have hKn := hst.1.1 ci _ hq
  obtain ⟨ty0, hty, hnm⟩ := uty_ok ci q hq
  refine W.newcK hexec hb hown hcl hinst hini rfl hdg hcells hslots hKn.2.1 hW.1 fun H1 kC hkC e1 z1 o1 => ?_
  refine kk H1 (my_push hW (by rw [z1, hW.1]) (by rw [hW.1]; exact o1) ?_ (fun j hj => ⟨if_neg hj, by funext i; simp [zrow, hj]⟩) (zrow_in hW.2.2.1)) (my_S hS (by rw [z1, hW.1]) (by rw [hW.1]; exact o1))
  rw [if_pos rfl]
  have e0 : zrow σ n n = fun _ => 0 := by funext i; simp [zrow]
  rw [e0]
  refine ⟨q, hq, (u_born ty0 hts (uws_in ci q hq) hKn hkC e1 hty).to (fun j hj => ?_)⟩
  show defaultValue (ty0 j) = vp_V (fld X.1 (fun _ => 0) rl 0) j
  obtain ⟨o, h1, h2⟩ := hrl ty0 hty j hj
  unfold vp_V
  rw [List.getD_eq_getElem?_getD, fld_get, h1]
  rcases h2 with ⟨rfl, h3 | h3⟩ | ⟨rfl, h3⟩
  · rw [h3]; rfl
  · rw [h3]; rfl
  · rw [h3]; rfl
end ROWS
