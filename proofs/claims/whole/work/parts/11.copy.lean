section CPY
variable {p : Program} {l : Launch} {e : Env} {R : Room} {s : State} {m : MethodId} {args : Array Value} {below : List Frame} {meth : Method} {c : Code} {H : Heap} {locs : List Loc} {cells slots : Nat} {Q : State → Prop}
variable {pc : Nat} {ls : Array Slot} {rest : List Value} {X : Cx} {n : Nat} {sh : Nat → Shp} {σ : Sg} {H0 : Heap}
theorem my_copy {cc : ByteArray} (hexec : p.tables.exec = Jvm.exec) (hb : c.code = cc) (hml : c.maxLocals = ls.size) {own : String} {index : Nat} (hown : s.vm.findClass own = some m.cls) (hlink : (Cond.methodLink own index arraycopyName).before args s = true) (hnat : (Cond.native arraycopyName).before args s = true) (hstat : (Cond.static arraycopyName).before args s = true) (hini : (Cond.initialized "java/lang/System").before args s = true)
    (hst : Wst X s) (hW : Whp X n sh σ H) (hS : va_S (Ab X) H0 H locs) {ks kd l1 l2 : Nat} (hks : sh ks = .inl (false, l1)) (hkd : sh kd = .inl (false, l2)) {sp dp nn : Int} (i1 : InR sp) (i2 : InR dp) (i3 : InR nn) (g1 : 0 ≤ sp) (g2 : 0 ≤ dp) (g3 : 0 ≤ nn) (g4 : sp + nn ≤ l1) (g5 : dp + nn ≤ l2)
    (hframes : 1 ≤ R.frames) (hlocals : (rest.map fun v => v.category).sum + 20 ≤ R.locals) (hdg : decode cc pc = .ok (.invokestatic index, 3))
    (kk : ∀ (H1 : Heap) (locs1 : List Loc), Whp X n sh (cpy σ ks sp kd dp nn) H1 → va_S (Ab X) H0 H1 locs1 → W p l e R s m args below meth c H1 locs1 cells slots Q (F0 m (pc + 3) ls rest)) : W p l e R s m args below meth c H locs cells slots Q (F0 m pc ls (.int (Int32.ofInt nn) :: .int (Int32.ofInt dp) :: .ref (X.1 + kd) :: .int (Int32.ofInt sp) :: .ref (X.1 + ks) :: rest)) := by
  have hsn : ks < n := sh_lt hW (by rw [hks]; exact fun h => by cases h)
  have hdn : kd < n := sh_lt hW (by rw [hkd]; exact fun h => by cases h)
  have hc0 : H[X.1 + ks]? = some (vp_cell X.2.2.1.1 (l1, .inl (fun j => Int32.ofInt (σ ks j)))) := hW.2.1 ks (X.1 + ks, .inl (X.2.2.1.1, l1, .inl (fun j => Int32.ofInt (σ ks j)))) (by rw [wl_get hsn, hks]; rfl)
  have hc1 : H[X.1 + kd]? = some (vp_cell X.2.2.1.1 (l2, .inl (fun j => Int32.ofInt (σ kd j)))) := hW.2.1 kd (X.1 + kd, .inl (X.2.2.1.1, l2, .inl (fun j => Int32.ofInt (σ kd j)))) (by rw [wl_get hdn, hkd]; rfl)
  have nn0 : ∀ z : Int, InR z → 0 ≤ z → ¬ Int32.ofInt z < 0 := fun z h1 h2 q => by
    have := (i_lt h1 in_0).mp q
    omega
  intro T hT X1
  obtain ⟨-, k0, hk0, cm0, hkk0⟩ := (hst.1.2 0 _ rfl).1 l1 (fun j => .int (Int32.ofInt (σ ks j)))
  obtain ⟨-, k1, hk1, cm1, hkk1⟩ := (hst.1.2 0 _ rfl).1 l2 (fun j => .int (Int32.ofInt (σ kd j)))
  obtain ⟨vm', X', step⟩ := X1.arraycopy hexec hown hlink hnat hstat hini (src := X.1 + ks) (dst := X.1 + kd) (cs := vp_cell X.2.2.1.1 (l1, .inl (fun j => Int32.ofInt (σ ks j)))) (cd := vp_cell X.2.2.1.1 (l2, .inl (fun j => Int32.ofInt (σ kd j)))) (srcPos := Int32.ofInt sp) (destPos := Int32.ofInt dp) (n := Int32.ofInt nn) (by rw [hT]; exact hc0) (by rw [hT]; exact hc1)
    (fun _ h => by cases h) (fun _ h => by cases h) (fun h => by cases h) (fun h => by cases h) hk0 hk1 hkk0 hkk1 (by simp [refKind]) (nn0 _ i1 g1) (nn0 _ i2 g2) (nn0 _ i3 g3)
    (by rw [tI i1, tI i3]; show ¬ _ > ((arrV X.2.2.1.1 l1 (fun j => .int (Int32.ofInt (σ ks j)))).slots.size : Int); rw [arrV_size]; omega)
    (by rw [tI i2, tI i3]; show ¬ _ > ((arrV X.2.2.1.1 l2 (fun j => .int (Int32.ofInt (σ kd j)))).slots.size : Int); rw [arrV_size]; omega)
    (fun vm₁ _ i hi => by
      rw [i_clamp i3] at hi
      have e : (vp_cell X.2.2.1.1 (l1, .inl (fun j => Int32.ofInt (σ ks j)))).slots.getD ((Int32.ofInt sp).toNatClampNeg + i) .null = .int (Int32.ofInt (σ ks ((Int32.ofInt sp).toNatClampNeg + i : Nat))) := by
        show (arrV X.2.2.1.1 l1 (fun j => .int (Int32.ofInt (σ ks j)))).slots.getD _ _ = _
        rw [Array.getD_eq_getD_getElem?, arrV_read _ _ (by rw [i_clamp i1]; omega)]
        rfl
      refine ⟨?_, ?_⟩
      · rw [e]
        rfl
      · rw [e]
        exact trivial)
    (g := F0 m pc ls (.int (Int32.ofInt nn) :: .int (Int32.ofInt dp) :: .ref (X.1 + kd) :: .int (Int32.ofInt sp) :: .ref (X.1 + ks) :: rest)) rfl (by rw [hml]) (rest := rest) rfl (by rw [hb]; exact hdg) hframes (by show 2 * 0 + _ + (5 + 2 + 11) ≤ _; omega)
  have e1 : copied (vp_cell X.2.2.1.1 (l1, .inl (fun j => Int32.ofInt (σ ks j)))) (vp_cell X.2.2.1.1 (l2, .inl (fun j => Int32.ofInt (σ kd j)))) (Int32.ofInt sp) (Int32.ofInt dp) (Int32.ofInt nn) = vp_cell X.2.2.1.1 (l2, .inl (va_cpy (fun j => Int32.ofInt (σ ks j)) (fun j => Int32.ofInt (σ kd j)) (Int32.ofInt sp).toNatClampNeg (Int32.ofInt dp).toNatClampNeg (Int32.ofInt nn).toNatClampNeg)) :=
    va_copied (fun z : Int32 => Value.int z) X.2.2.1.1 X.2.2.1.1 (n0 := l1) (n1 := l2) (sp := (Int32.ofInt sp).toNatClampNeg) (dp := (Int32.ofInt dp).toNatClampNeg) (n := (Int32.ofInt nn).toNatClampNeg) (fun j : Nat => Int32.ofInt (σ ks j)) (fun j : Nat => Int32.ofInt (σ kd j)) (by rw [i_clamp i1, i_clamp i3]; omega)
  rw [e1, i_clamp i1, i_clamp i2, i_clamp i3] at X' step
  have hl : X.1 + kd < H.size := (Array.getElem?_eq_some_iff.mp hc1).1
  have ecell : vp_cell X.2.2.1.1 (l2, .inl (va_cpy (fun j => Int32.ofInt (σ ks j)) (fun j => Int32.ofInt (σ kd j)) sp.toNat dp.toNat nn.toNat)) = vp_cell X.2.2.1.1 (l2, .inl (fun j : Nat => Int32.ofInt (cpy σ ks sp kd dp nn kd j))) := by
    congr 3
    funext j
    unfold va_cpy cpy
    by_cases hj : dp.toNat ≤ j ∧ j < dp.toNat + nn.toNat
    · rw [if_pos hj, if_pos (by omega)]
      show Int32.ofInt (σ ks ((sp.toNat + (j - dp.toNat) : Nat) : Int)) = _
      rw [show ((sp.toNat + (j - dp.toNat) : Nat) : Int) = sp + ((j : Int) - dp) by omega]
    · rw [if_neg hj, if_neg (by omega)]
  rw [ecell] at X' step
  generalize hC : vp_cell X.2.2.1.1 (l2, .inl (fun j : Nat => Int32.ofInt (cpy σ ks sp kd dp nn kd j))) = C1 at X' step
  have hheap : ((T.setVm vm').setCell (X.1 + kd) C1).heap = H.setIfInBounds (X.1 + kd) C1 := by rw [← hT]; rfl
  have oq : ∀ q : Nat, q ≠ X.1 + kd → (H.setIfInBounds (X.1 + kd) C1)[q]? = H[q]? := fun q hq => by simp [Array.getElem?_setIfInBounds, Ne.symm hq]
  have hz : (H.setIfInBounds (X.1 + kd) C1).size = H.size := by simp
  obtain ⟨t, a1, b1⟩ := kk _ _ (my_set (k := kd) (sh' := sh) (σ' := cpy σ ks sp kd dp nn) hW hdn hz oq (by
      rw [hkd]
      show (H.setIfInBounds (X.1 + kd) C1)[X.1 + kd]? = some (vp_cell X.2.2.1.1 (l2, .inl (fun j : Nat => Int32.ofInt (cpy σ ks sp kd dp nn kd j))))
      rw [hC]
      simp [Array.getElem?_setIfInBounds, hl]) (fun j hj => ⟨rfl, by funext i; unfold cpy; rw [if_neg (fun h => hj h.1)]⟩) (fun k j => by
      unfold cpy
      split
      · exact hW.2.2.1 _ _
      · exact hW.2.2.1 _ _)) ⟨by rw [hz]; exact hS.1, fun q g1 g2 => by
      rw [oq q (fun e => g2 (by rw [e]; exact Nat.le_add_right _ _))]
      exact hS.2.1 q g1 g2, fun q hq => by
      rcases List.mem_append.mp hq with h | h
      · exact hS.2.2 q h
      · obtain ⟨z, -, hz⟩ := List.mem_map.mp h
        rw [← hz]
        exact Nat.le_add_right _ _⟩ _ hheap X'
  exact ⟨t, step t a1, b1⟩
end CPY
