-- THE ROWS: an instruction's step, from the kit's rows
theorem uws_in : ∀ (ci : Nat) (q : vw_C), vwCl[ci]? = some q → ∀ w ∈ u_ws q.1 q.2.1 q.2.2, w ∈ gtbl := by
  intro ci q h
  match ci, h with
  | 0, h => cases h; decide +kernel
  | 1, h => cases h; decide +kernel
  | 2, h => cases h; decide +kernel
  | 3, h => cases h; decide +kernel
  | 4, h => cases h; decide +kernel
  | 5, h => cases h; decide +kernel
  | 6, h => cases h; decide +kernel
  | 7, h => cases h; decide +kernel
  | 8, h => cases h; decide +kernel
  | 9, h => cases h; decide +kernel
  | 10, h => cases h; decide +kernel
  | 11, h => cases h; decide +kernel
  | k + 12, h => simp [vwCl] at h
theorem uty_ok : ∀ (ci : Nat) (q : vw_C), vwCl[ci]? = some q → ∃ ty0 : Nat → FieldType, (∀ k, k < q.2.2 → parseFieldDescriptor (q.2.1 k).2.2.1 = some (ty0 k)) ∧ (∀ a, a < q.2.2 → ∀ b, b < q.2.2 → a ≠ b → (q.2.1 a).2.1 ≠ (q.2.1 b).2.1) := by
  intro ci q h
  match ci, h with
  | 0, h => cases h; exact ⟨_, tyX0_ok, nmX0⟩
  | 1, h => cases h; exact ⟨_, tyX1_ok, nmX1⟩
  | 2, h => cases h; exact ⟨_, tyX2_ok, nmX2⟩
  | 3, h => cases h; exact ⟨_, tyX3_ok, nmX3⟩
  | 4, h => cases h; exact ⟨_, tyX4_ok, nmX4⟩
  | 5, h => cases h; exact ⟨_, tyX5_ok, nmX5⟩
  | 6, h => cases h; exact ⟨_, tyX6_ok, nmX6⟩
  | 7, h => cases h; exact ⟨_, tyX7_ok, nmX7⟩
  | 8, h => cases h; exact ⟨_, tyX8_ok, nmX8⟩
  | 9, h => cases h; exact ⟨_, tyX9_ok, nmX9⟩
  | 10, h => cases h; exact ⟨_, tyX10_ok, nmX10⟩
  | 11, h => cases h; exact ⟨_, tyX11_ok, nmX11⟩
  | k + 12, h => simp [vwCl] at h
theorem vwCl_lt {ci : Nat} {q : vw_C} (h : vwCl[ci]? = some q) : ci < 12 := (List.getElem?_eq_some_iff.mp h).1
theorem fc {v : AV} {St : List AV} (h : okv v) (hs : ∀ w ∈ St, okv w) : ∀ w ∈ v :: St, okv w := List.forall_mem_cons.mpr ⟨h, hs⟩
theorem nth_some : ∀ (L : List AV) (a : Nat) (v : AV), nth L a = v → kn v = true → L[a]? = some v
  | [], a, v, h, hk => by
    subst h
    exact absurd hk (show ¬ kn (vx 9) = true by decide)
  | w :: l, 0, v, h, _ => by
    cases h
    rfl
  | w :: l, a + 1, v, h, hk => nth_some l a v h hk
theorem sn_set : ∀ (L : List AV) (a : Nat) (v : AV), sn L a v = L.set a v
  | [], _, _ => rfl
  | w :: l, 0, v => rfl
  | w :: l, a + 1, v => by
    show w :: sn l a v = w :: l.set a v
    rw [sn_set l a v]
theorem ok_set {L : List AV} {a : Nat} {v : AV} (h : ∀ w ∈ L, okv w) (hv : okv v) : ∀ w ∈ L.set a v, okv w := by
  intro w hw
  rcases List.mem_or_eq_of_mem_set hw with h1 | h1
  · exact h w h1
  · rw [h1]; exact hv
theorem sh_lt {X : Cx} {n : Nat} {sh : Nat → Shp} {σ : Sg} {H : Heap} {k : Nat} (h : Whp X n sh σ H) (hk : sh k ≠ dSh) : k < n := Nat.lt_of_not_le fun q => hk (h.2.2.2 k q)
section ROWS
variable {p : Program} {l : Launch} {e : Env} {R : Room} {s : State} {m : MethodId} {args : Array Value} {below : List Frame} {meth : Method} {c : Code} {H : Heap} {locs : List Loc} {cells slots : Nat} {Q : State → Prop}
variable {cc : ByteArray} {pc : Nat} {ls : Array Slot} {rest : List Value} {X : Cx} {n : Nat} {sh : Nat → Shp} {σ : Sg} {H0 : Heap}
/-- a store into a cell of the world, by what it becomes -/
theorem my_set {k : Nat} {sh' : Nat → Shp} {σ' : Sg} {H1 : Heap} (hW : Whp X n sh σ H) (hk : k < n) (hz : H1.size = H.size) (oq : ∀ q : Nat, q ≠ X.1 + k → H1[q]? = H[q]?) (he : va_at X.2.1 vwCl (X.1 + k, cel X (sh' k) (σ' k)) H1) (ho : ∀ j, j ≠ k → sh' j = sh j ∧ σ' j = σ j) (hr : ∀ k j, InR (σ' k j)) : Whp X n sh' σ' H1 := by
  obtain ⟨h1, h2, h3, h4⟩ := hW
  refine ⟨hz.trans h1, ?_, hr, fun j hj => ?_⟩
  · rw [← wl_set hk ho]
    exact va_P.set h2 (wl_D X n sh σ) (wl_get hk) he oq
  · rw [(ho j (by omega)).1]
    exact h4 j hj
theorem st_in {σ : Sg} {k : Nat} {i x : Int} (h : ∀ k j, InR (σ k j)) (hx : InR x) : ∀ k' j, InR (st σ k i x k' j) := by
  intro k' j
  unfold st
  split
  · exact hx
  · exact h k' j
theorem my_iald (hexec : p.tables.exec = Jvm.exec) (hb : c.code = cc) (hst : Wst X s) (hW : Whp X n sh σ H) {k len : Nat} (hk : sh k = .inl (false, len)) {i : Int} (hi : InR i) (h0 : 0 ≤ i) (h1 : i < len) (hdg : decode cc pc = .ok (.iaload, 1))
    (kk : W p l e R s m args below meth c H locs cells slots Q (F0 m (pc + 1) ls (.int (Int32.ofInt (σ k i)) :: rest))) : W p l e R s m args below meth c H locs cells slots Q (F0 m pc ls (.int (Int32.ofInt i) :: .ref (X.1 + k) :: rest)) := by
  have hkn : k < n := sh_lt hW (by rw [hk]; exact fun h => by cases h)
  have hg : (wl X n sh σ)[k]? = some (X.1 + k, .inl (X.2.2.1.1, len, .inl (fun j => Int32.ofInt (σ k j)))) := by rw [wl_get hkn, hk]; rfl
  refine va_iald hexec hb hst.1 hW.2.1 k 0 hg rfl (i_in hi h0 h1) hdg ?_
  rw [i_clamp hi]
  show W p l e R s m args below meth c H locs cells slots Q (F0 m (pc + 1) ls (.int (Int32.ofInt (σ k (i.toNat : Int))) :: rest))
  rw [Int.toNat_of_nonneg h0]
  exact kk
theorem my_zald (hexec : p.tables.exec = Jvm.exec) (hb : c.code = cc) (hst : Wst X s) (hW : Whp X n sh σ H) {k len : Nat} (hk : sh k = .inl (true, len)) {i : Int} (hi : InR i) (h0 : 0 ≤ i) (h1 : i < len) (hdg : decode cc pc = .ok (.baload, 1))
    (kk : W p l e R s m args below meth c H locs cells slots Q (F0 m (pc + 1) ls (.int (Int32.ofInt (σ k i)) :: rest))) : W p l e R s m args below meth c H locs cells slots Q (F0 m pc ls (.int (Int32.ofInt i) :: .ref (X.1 + k) :: rest)) := by
  have hkn : k < n := sh_lt hW (by rw [hk]; exact fun h => by cases h)
  have hg : (wl X n sh σ)[k]? = some (X.1 + k, .inl (X.2.2.1.2.1, len, .inl (fun j => Int32.ofInt (σ k j)))) := by rw [wl_get hkn, hk]; rfl
  refine va_zald hexec hb hst.1 hW.2.1 k 1 hg rfl (i_in hi h0 h1) hdg ?_
  rw [i_clamp hi]
  show W p l e R s m args below meth c H locs cells slots Q (F0 m (pc + 1) ls (.int (Int32.ofInt (σ k (i.toNat : Int))) :: rest))
  rw [Int.toNat_of_nonneg h0]
  exact kk
/-- an array of the law's or of the statics: only read -/
theorem my_xald (hexec : p.tables.exec = Jvm.exec) (hb : c.code = cc) (hst : Wst X s) (hS : va_S (Ab X) s.heap H locs) {ex : Nat} (hx : ex < 4) {i : Int} (hi : InR i) (h0 : 0 ≤ i) (h1 : i < xl X ex) (hdg : decode cc pc = .ok (.iaload, 1))
    (kk : W p l e R s m args below meth c H locs cells slots Q (F0 m (pc + 1) ls (.int (Int32.ofInt (xf X ex i)) :: rest))) : W p l e R s m args below meth c H locs cells slots Q (F0 m pc ls (.int (Int32.ofInt i) :: .ref (X.2.2.2.1 ex) :: rest)) := by
  obtain ⟨cell, g1, g2, g3, g4, g5, g6, g7⟩ := hst.2.2.2.2.2.2 ex hx
  have hlt : i.toNat < xl X ex := by omega
  have hv : cell.slots[i.toNat]? = some (.int (Int32.ofInt (xf X ex i))) := by
    rw [g6 i.toNat hlt]
    show some (Value.int (Int32.ofInt (xf X ex (i.toNat : Int)))) = _
    rw [Int.toNat_of_nonneg h0]
  refine W.iald (v := .int (Int32.ofInt (xf X ex i))) hexec hb (by rw [hS.2.1 _ (Array.getElem?_eq_some_iff.mp g1).1 g7]; exact g1) g2 g3 ?_ (by rw [i_clamp hi]; exact hv) rfl rfl hdg kk
  rw [i_clamp hi]
  have := (i_lt hi in_0).mp
  rintro (q | q)
  · have := this q
    omega
  · omega
theorem my_xlen (hexec : p.tables.exec = Jvm.exec) (hb : c.code = cc) (hst : Wst X s) (hS : va_S (Ab X) s.heap H locs) {ex : Nat} (hx : ex < 4) (hdg : decode cc pc = .ok (.arraylength, 1))
    (kk : W p l e R s m args below meth c H locs cells slots Q (F0 m (pc + 1) ls (.int (Int32.ofInt (xl X ex : Nat)) :: rest))) : W p l e R s m args below meth c H locs cells slots Q (F0 m pc ls (.ref (X.2.2.2.1 ex) :: rest)) := by
  obtain ⟨cell, g1, g2, g3, g4, g5, g6, g7⟩ := hst.2.2.2.2.2.2 ex hx
  rw [i_nat] at kk
  exact W.alen (n := Int32.ofNat (xl X ex)) hexec hb (by rw [hS.2.1 _ (Array.getElem?_eq_some_iff.mp g1).1 g7]; exact g1) g2 g5 rfl rfl hdg kk
theorem my_alen (hexec : p.tables.exec = Jvm.exec) (hb : c.code = cc) (hst : Wst X s) (hW : Whp X n sh σ H) {k len : Nat} {z : Bool} (hk : sh k = .inl (z, len)) (hdg : decode cc pc = .ok (.arraylength, 1))
    (kk : W p l e R s m args below meth c H locs cells slots Q (F0 m (pc + 1) ls (.int (Int32.ofInt (len : Nat)) :: rest))) : W p l e R s m args below meth c H locs cells slots Q (F0 m pc ls (.ref (X.1 + k) :: rest)) := by
  have hkn : k < n := sh_lt hW (by rw [hk]; exact fun h => by cases h)
  rw [i_nat] at kk
  cases z with
  | false =>
    have hg : (wl X n sh σ)[k]? = some (X.1 + k, .inl (X.2.2.1.1, len, .inl (fun j => Int32.ofInt (σ k j)))) := by rw [wl_get hkn, hk]; rfl
    exact va_alen hexec hb hst.1 hW.2.1 k 0 hg (ty := .int) rfl rfl hdg kk
  | true =>
    have hg : (wl X n sh σ)[k]? = some (X.1 + k, .inl (X.2.2.1.2.1, len, .inl (fun j => Int32.ofInt (σ k j)))) := by rw [wl_get hkn, hk]; rfl
    exact va_alen hexec hb hst.1 hW.2.1 k 1 hg (ty := .boolean) rfl rfl hdg kk
theorem arr_upd {z : Bool} {len : Nat} {i x : Int} {k : Nat} (h0 : 0 ≤ i) : cel X (.inl (z, len)) (st σ k i x k) = .inl (if z then X.2.2.1.2.1 else X.2.2.1.1, len, .inl (upd (fun j : Nat => Int32.ofInt (σ k j)) i.toNat (Int32.ofInt x))) := by
  rw [st_row]
  simp only [cel]
  congr 3
  congr 1
  funext j
  unfold updI upd
  by_cases hj : j = i.toNat
  · subst hj
    simp [Int.toNat_of_nonneg h0]
  · rw [if_neg (by omega), if_neg hj]
theorem my_iast (hexec : p.tables.exec = Jvm.exec) (hb : c.code = cc) (hst : Wst X s) (hW : Whp X n sh σ H) (hS : va_S (Ab X) H0 H locs) {k len : Nat} (hk : sh k = .inl (false, len)) {i x : Int} (hi : InR i) (hx : InR x) (h0 : 0 ≤ i) (h1 : i < len) (hdg : decode cc pc = .ok (.iastore, 1))
    (kk : ∀ (H1 : Heap) (locs1 : List Loc), Whp X n sh (st σ k i x) H1 → va_S (Ab X) H0 H1 locs1 → W p l e R s m args below meth c H1 locs1 cells slots Q (F0 m (pc + 1) ls rest)) : W p l e R s m args below meth c H locs cells slots Q (F0 m pc ls (.int (Int32.ofInt x) :: .int (Int32.ofInt i) :: .ref (X.1 + k) :: rest)) := by
  have hkn : k < n := sh_lt hW (by rw [hk]; exact fun h => by cases h)
  have hg : (wl X n sh σ)[k]? = some (X.1 + k, .inl (X.2.2.1.1, len, .inl (fun j => Int32.ofInt (σ k j)))) := by rw [wl_get hkn, hk]; rfl
  have hin := i_in hi h0 h1
  refine W.iast hexec hb (hW.2.1 k _ hg) ((hst.1.2 0 _ rfl).1 len (fun j => .int (Int32.ofInt (σ k j)))) (fun q => by cases q) (by show ¬ (_ < 0 ∨ (arrV _ _ _).slots.size ≤ _); rw [arrV_size]; exact hin) rfl rfl hdg fun H1 e1 z1 oq => ?_
  refine kk H1 _ (my_set (k := k) (sh' := sh) (σ' := st σ k i x) hW hkn z1 oq ?_ (fun j hj => ⟨rfl, st_off σ i x hj⟩) (st_in hW.2.2.1 hx)) (hS.put z1 oq (Nat.le_add_right _ _))
  rw [hk, arr_upd h0]
  show H1[X.1 + k]? = some (vp_cell _ _)
  rw [e1]
  dsimp only
  rw [vp_cell_i, vp_cell_i, arrV_store, i_clamp hi]
  congr 2
  funext q
  by_cases hq : q = i.toNat
  · subst hq
    simp [updV, upd]
  · simp [updV, upd, hq]
theorem my_zast (hexec : p.tables.exec = Jvm.exec) (hb : c.code = cc) (hst : Wst X s) (hW : Whp X n sh σ H) (hS : va_S (Ab X) H0 H locs) {k len : Nat} (hk : sh k = .inl (true, len)) {i x : Int} (hi : InR i) (hx : x = 0 ∨ x = 1) (h0 : 0 ≤ i) (h1 : i < len) (hdg : decode cc pc = .ok (.bastore, 1))
    (kk : ∀ (H1 : Heap) (locs1 : List Loc), Whp X n sh (st σ k i x) H1 → va_S (Ab X) H0 H1 locs1 → W p l e R s m args below meth c H1 locs1 cells slots Q (F0 m (pc + 1) ls rest)) : W p l e R s m args below meth c H locs cells slots Q (F0 m pc ls (.int (Int32.ofInt x) :: .int (Int32.ofInt i) :: .ref (X.1 + k) :: rest)) := by
  have hkn : k < n := sh_lt hW (by rw [hk]; exact fun h => by cases h)
  have hg : (wl X n sh σ)[k]? = some (X.1 + k, .inl (X.2.2.1.2.1, len, .inl (fun j => Int32.ofInt (σ k j)))) := by rw [wl_get hkn, hk]; rfl
  have hin := i_in hi h0 h1
  refine W.zast hexec hb (hW.2.1 k _ hg) ((hst.1.2 1 _ rfl).1 len (fun j => .int (Int32.ofInt (σ k j)))) (fun q => by cases q) (by show ¬ (_ < 0 ∨ (arrV _ _ _).slots.size ≤ _); rw [arrV_size]; exact hin) rfl rfl hdg fun H1 e1 z1 oq => ?_
  refine kk H1 _ (my_set (k := k) (sh' := sh) (σ' := st σ k i x) hW hkn z1 oq ?_ (fun j hj => ⟨rfl, st_off σ i x hj⟩) (st_in hW.2.2.1 (by unfold InR; omega))) (hS.put z1 oq (Nat.le_add_right _ _))
  rw [hk, arr_upd h0]
  show H1[X.1 + k]? = some (vp_cell _ _)
  rw [e1]
  dsimp only
  rw [vp_cell_i, vp_cell_i, arrV_store, i_clamp hi]
  congr 2
  funext q
  by_cases hq : q = i.toNat
  · subst hq
    rcases hx with rfl | rfl <;> simp [updV, upd] <;> rfl
  · simp [updV, upd, hq]
end ROWS
