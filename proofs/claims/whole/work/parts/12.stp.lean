section STP
variable {X : Cx} {md : MD} {Z : FC} {pc nx : Nat} {L St : List AV} {n : Nat} {sh : Nat → Shp} {σ : Sg} {ce sl : Nat} {R : Option AV → Sg → Prop} {CK : Nat → List AV → Nat → List AV → List AV → Sg → Prop} {rb : Bool} {K : List AV → List AV → Sg → Prop} {J : Nat → List AV → List AV → Sg → Prop}
theorem s_push {z : Int} (hI : InR z) (k : SW X md.2.2.1 Z nx L (vi z :: St) n sh σ ce sl) (hr : ∀ (H : Heap) (locs : List Loc) (ls : Array Slot), W Z.1 Z.2.1 Z.2.2.1 Z.2.2.2.1 Z.2.2.2.2.1 Z.2.2.2.2.2.1 Z.2.2.2.2.2.2.1 Z.2.2.2.2.2.2.2.1 Z.2.2.2.2.2.2.2.2.1 Z.2.2.2.2.2.2.2.2.2.1 H locs ce sl Z.2.2.2.2.2.2.2.2.2.2 (F0 Z.2.2.2.2.2.1 nx ls (.int (Int32.ofInt z) :: St.map (cv X))) → W Z.1 Z.2.1 Z.2.2.1 Z.2.2.2.1 Z.2.2.2.2.1 Z.2.2.2.2.2.1 Z.2.2.2.2.2.2.1 Z.2.2.2.2.2.2.2.1 Z.2.2.2.2.2.2.2.2.1 Z.2.2.2.2.2.2.2.2.2.1 H locs ce sl Z.2.2.2.2.2.2.2.2.2.2 (F0 Z.2.2.2.2.2.1 pc ls (St.map (cv X)))) : SW X md.2.2.1 Z pc L St n sh σ ce sl :=
  fun hL hS H locs ls hl hW hv => hr H locs ls (k hL (fc hI hS) H locs ls hl hW hv)
theorem inRb_ok {z : Int} (h : inRb z = true) : InR z := by
  simp only [inRb, Bool.and_eq_true, decide_eq_true_eq] at h
  exact h
theorem c_con {w : Cond} {x : Nat} (h : lw_tbl[x]? = some w) (hg : goodWord w = true) (hts : ∀ w ∈ gtbl, w.before Z.2.2.2.2.2.2.1 Z.2.2.2.2.1 = true) : w.before Z.2.2.2.2.2.2.1 Z.2.2.2.2.1 = true := hts w (g_mem x h hg)
theorem s_load (hB : Bd X md Z) {x : Int} {a : Nat} (hn : nth L a = vi x) (k : SW X md.2.2.1 Z nx L (vi x :: St) n sh σ ce sl) (hd : (∃ f : Fin 4, f.val = a ∧ nx = pc + 1 ∧ decode md.2.1 pc = .ok (.iload_n f, 1)) ∨ (nx = pc + 2 ∧ decode md.2.1 pc = .ok (.iload a, 2))) : SW X md.2.2.1 Z pc L St n sh σ ce sl := by
  obtain ⟨hx, hb, -⟩ := hB
  intro hL hS H locs ls hl hW hv
  have hg := nth_some L a _ hn rfl
  have hv1 := hl.2.2.2 a (vi x) hg rfl
  have k2 := k hL (fc (hL _ (List.mem_of_getElem? hg)) hS) H locs ls hl hW hv
  rcases hd with ⟨f, h1, rfl, h3⟩ | ⟨rfl, h3⟩
  · exact lv_iload_n hx hb h3 h1 hv1 k2
  · exact lv_iload hx hb h3 hv1 k2
theorem s_loadr (hB : Bd X md Z) {v : Nat ⊕ Nat} {a : Nat} (hn : nth L a = .inr v) (hk : kn (.inr v) = true) (k : SW X md.2.2.1 Z nx L (.inr v :: St) n sh σ ce sl) (hd : (∃ f : Fin 4, f.val = a ∧ nx = pc + 1 ∧ decode md.2.1 pc = .ok (.aload_n f, 1)) ∨ (nx = pc + 2 ∧ decode md.2.1 pc = .ok (.aload a, 2))) : SW X md.2.2.1 Z pc L St n sh σ ce sl := by
  obtain ⟨hx, hb, -⟩ := hB
  intro hL hS H locs ls hl hW hv
  have hg := nth_some L a _ hn hk
  have hv1 := hl.2.2.2 a (.inr v) hg hk
  have k2 := k hL (fc (v := .inr v) trivial hS) H locs ls hl hW hv
  rcases v with v | v
  · rcases hd with ⟨f, h1, rfl, h3⟩ | ⟨rfl, h3⟩
    · exact lv_aload_n hx hb h3 h1 hv1 k2
    · exact lv_aload hx hb h3 hv1 k2
  · rcases hd with ⟨f, h1, rfl, h3⟩ | ⟨rfl, h3⟩
    · exact lv_aload_n hx hb h3 h1 hv1 k2
    · exact lv_aload hx hb h3 hv1 k2
theorem s_store (hB : Bd X md Z) {x : Int} {a : Nat} (ha : a < md.2.2.1) (k : SW X md.2.2.1 Z nx (sn L a (vi x)) St n sh σ ce sl) (hd : (∃ f : Fin 4, f.val = a ∧ nx = pc + 1 ∧ decode md.2.1 pc = .ok (.istore_n f, 1)) ∨ (nx = pc + 2 ∧ decode md.2.1 pc = .ok (.istore a, 2))) : SW X md.2.2.1 Z pc L (vi x :: St) n sh σ ce sl := by
  obtain ⟨hx, hb, -⟩ := hB
  intro hL hS H locs ls hl hW hv
  have hS1 := List.forall_mem_cons.mp hS
  rw [sn_set] at k
  have k2 : ∀ ls' : Array Slot, lv_has ls' md.2.2.1 ((a, cv X (vi x)) :: (prs X L).filter (fun q => !(q.1 == a) && !(q.1 + 1 == a && q.2.category == 2))) → _ := fun ls' h' => k (ok_set hL hS1.1) hS1.2 H locs ls' (lr_set hl ha h') hW hv
  rcases hd with ⟨f, h1, rfl, h3⟩ | ⟨rfl, h3⟩
  · exact lv_istore_n hx hb h3 h1 (lr_has hl) ha rfl k2
  · exact lv_istore hx hb h3 (lr_has hl) ha rfl k2
theorem s_storer (hB : Bd X md Z) {v : Nat ⊕ Nat} {a : Nat} (ha : a < md.2.2.1) (k : SW X md.2.2.1 Z nx (sn L a (.inr v)) St n sh σ ce sl) (hd : (∃ f : Fin 4, f.val = a ∧ nx = pc + 1 ∧ decode md.2.1 pc = .ok (.astore_n f, 1)) ∨ (nx = pc + 2 ∧ decode md.2.1 pc = .ok (.astore a, 2))) : SW X md.2.2.1 Z pc L (.inr v :: St) n sh σ ce sl := by
  obtain ⟨hx, hb, -⟩ := hB
  intro hL hS H locs ls hl hW hv
  have hS1 := List.forall_mem_cons.mp hS
  rw [sn_set] at k
  have k2 : ∀ ls' : Array Slot, lv_has ls' md.2.2.1 ((a, cv X (.inr v)) :: (prs X L).filter (fun q => !(q.1 == a) && !(q.1 + 1 == a && q.2.category == 2))) → _ := fun ls' h' => k (ok_set hL hS1.1) hS1.2 H locs ls' (lr_set hl ha h') hW hv
  rcases v with v | v
  · rcases hd with ⟨f, h1, rfl, h3⟩ | ⟨rfl, h3⟩
    · exact lv_astore_n hx hb h3 h1 (lr_has hl) ha rfl k2
    · exact lv_astore hx hb h3 (lr_has hl) ha rfl k2
  · rcases hd with ⟨f, h1, rfl, h3⟩ | ⟨rfl, h3⟩
    · exact lv_astore_n hx hb h3 h1 (lr_has hl) ha rfl k2
    · exact lv_astore hx hb h3 (lr_has hl) ha rfl k2
theorem s_iinc (hB : Bd X md Z) {x z : Int} {a : Nat} (ha : a < md.2.2.1) (hn : nth L a = vi x) (hr : InR (x + z)) (k : SW X md.2.2.1 Z (pc + 3) (sn L a (vi (x + z))) St n sh σ ce sl) (hd : decode md.2.1 pc = .ok (.iinc a z, 3)) : SW X md.2.2.1 Z pc L St n sh σ ce sl := by
  obtain ⟨hx, hb, -⟩ := hB
  intro hL hS H locs ls hl hW hv
  have hg := nth_some L a _ hn rfl
  rw [sn_set] at k
  obtain ⟨i, hi⟩ := List.getElem?_of_mem (lr_in (X := X) hg rfl)
  exact lv_iinc (v := Int32.ofInt (x + z)) hx hb hd (lr_has hl) (k := i) hi (o_add x z) ha rfl (fun ls' h' => k (ok_set hL hr) hS H locs ls' (lr_set hl ha h') hW hv)
theorem s_bop (hB : Bd X md Z) {x y : Int} {a : Nat} (h : bop a x y (fun w => SW X md.2.2.1 Z (pc + 1) L (vi w :: St) n sh σ ce sl)) (hd : ∃ op, decode md.2.1 pc = .ok (op, 1) ∧ ((a = 0 ∧ op = .iadd) ∨ (a = 1 ∧ op = .isub) ∨ (a = 2 ∧ op = .imul) ∨ (a = 3 ∧ op = .idiv) ∨ (a = 4 ∧ op = .irem) ∨ (a = 5 ∧ op = .ishl) ∨ (a = 6 ∧ op = .ishr) ∨ (a = 7 ∧ op = .iushr) ∨ (a = 8 ∧ op = .iand) ∨ (a = 9 ∧ op = .ior) ∨ (a = 10 ∧ op = .ixor))) : SW X md.2.2.1 Z pc L (vi y :: vi x :: St) n sh σ ce sl := by
  obtain ⟨hx, hb, -⟩ := hB
  intro hL hS H locs ls hl hW hv
  have hS1 := List.forall_mem_cons.mp hS
  have hS2 := List.forall_mem_cons.mp hS1.2
  have iy : InR y := hS1.1
  have ix : InR x := hS2.1
  obtain ⟨op, hdg, hc⟩ := hd
  rcases hc with ⟨rfl, rfl⟩ | ⟨rfl, rfl⟩ | ⟨rfl, rfl⟩ | ⟨rfl, rfl⟩ | ⟨rfl, rfl⟩ | ⟨rfl, rfl⟩ | ⟨rfl, rfl⟩ | ⟨rfl, rfl⟩ | ⟨rfl, rfl⟩ | ⟨rfl, rfl⟩ | ⟨rfl, rfl⟩
  · have k := h.2 hL (fc h.1 hS2.2) H locs ls hl hW hv
    refine lv_iadd hx hb hdg ?_
    rw [o_add]
    exact k
  · have k := h.2 hL (fc h.1 hS2.2) H locs ls hl hW hv
    refine lv_isub hx hb hdg ?_
    rw [o_sub]
    exact k
  · have k := h.2 hL (fc h.1 hS2.2) H locs ls hl hW hv
    refine lv_imul hx hb hdg ?_
    rw [o_mul]
    exact k
  · have k := h.2 hL (fc (v := vi (x / y)) (div_in ix h.1.1 h.1.2) hS2.2) H locs ls hl hW hv
    refine lv_idiv hx hb hdg (o_ne0 iy h.1.2) ?_
    rw [o_div ix iy h.1.1 h.1.2]
    exact k
  · have k := h.2 hL (fc (v := vi (x % y)) (rem_in iy h.1.2) hS2.2) H locs ls hl hW hv
    refine lv_irem hx hb hdg (o_ne0 iy h.1.2) ?_
    rw [o_rem ix iy h.1.1 h.1.2]
    exact k
  · have k := h hL (fc (v := vi (bshl x y)) (inr_toInt _) hS2.2) H locs ls hl hW hv
    refine lv_ishl hx hb hdg ?_
    rw [← oI (Int32.ofInt x <<< (Int32.ofInt y &&& 31))]
    exact k
  · have k := h hL (fc (v := vi (bshr x y)) (inr_toInt _) hS2.2) H locs ls hl hW hv
    refine lv_ishr hx hb hdg ?_
    rw [← oI (Int32.ofInt x >>> (Int32.ofInt y &&& 31))]
    exact k
  · have k := h hL (fc (v := vi (bushr x y)) (inr_toInt _) hS2.2) H locs ls hl hW hv
    exact lv_iushr hx hb hdg (oI _).symm k
  · have k := h hL (fc (v := vi (band x y)) (inr_toInt _) hS2.2) H locs ls hl hW hv
    refine lv_iand hx hb hdg ?_
    rw [← oI (Int32.ofInt x &&& Int32.ofInt y)]
    exact k
  · have k := h hL (fc (v := vi (bor x y)) (inr_toInt _) hS2.2) H locs ls hl hW hv
    refine lv_ior hx hb hdg ?_
    rw [← oI (Int32.ofInt x ||| Int32.ofInt y)]
    exact k
  · have k := h hL (fc (v := vi (bxor x y)) (inr_toInt _) hS2.2) H locs ls hl hW hv
    refine lv_ixor hx hb hdg ?_
    rw [← oI (Int32.ofInt x ^^^ Int32.ofInt y)]
    exact k
theorem s_ifz (hB : Bd X md Z) {x : Int} {cd : Jvm.ClassFile.Cond} {off : Int} {b : Nat} (ht : (pc : Int) + off = (b : Int)) (h1 : cnd (cno cd) x 0 → SW X md.2.2.1 Z b L St n sh σ ce sl) (h2 : ¬ cnd (cno cd) x 0 → SW X md.2.2.1 Z (pc + 3) L St n sh σ ce sl) (hd : decode md.2.1 pc = .ok (.ifCond cd off, 3)) : SW X md.2.2.1 Z pc L (vi x :: St) n sh σ ce sl := by
  obtain ⟨hx, hb, -⟩ := hB
  intro hL hS H locs ls hl hW hv
  have hS1 := List.forall_mem_cons.mp hS
  have ix : InR x := hS1.1
  have a1 := fun q => h1 q hL hS1.2 H locs ls hl hW hv
  have a2 := fun q => h2 q hL hS1.2 H locs ls hl hW hv
  cases cd with
  | eq => exact lv_if_eq hx hb hd ht (fun q => a1 ((i_eq ix in_0).mp q)) (fun q => a2 (fun w => q ((i_eq ix in_0).mpr w)))
  | ne => exact lv_if_ne hx hb hd ht (fun q => a1 (fun w => q ((i_eq ix in_0).mpr w))) (fun q => a2 (fun w => w ((i_eq ix in_0).mp q)))
  | lt => exact lv_if_lt hx hb hd ht (fun q => a1 ((i_lt ix in_0).mp q)) (fun q => a2 (fun w => q ((i_lt ix in_0).mpr w)))
  | ge => exact lv_if_ge hx hb hd ht (fun q => a1 ((i_le in_0 ix).mp q)) (fun q => a2 (fun w => q ((i_le in_0 ix).mpr w)))
  | gt => exact lv_if_gt hx hb hd ht (fun q => a1 ((i_lt in_0 ix).mp q)) (fun q => a2 (fun w => q ((i_lt in_0 ix).mpr w)))
  | le => exact lv_if_le hx hb hd ht (fun q => a1 ((i_le ix in_0).mp q)) (fun q => a2 (fun w => q ((i_le ix in_0).mpr w)))
theorem s_icmp (hB : Bd X md Z) {x y : Int} {cd : Jvm.ClassFile.Cond} {off : Int} {b : Nat} (ht : (pc : Int) + off = (b : Int)) (h1 : cnd (cno cd) x y → SW X md.2.2.1 Z b L St n sh σ ce sl) (h2 : ¬ cnd (cno cd) x y → SW X md.2.2.1 Z (pc + 3) L St n sh σ ce sl) (hd : decode md.2.1 pc = .ok (.if_icmp cd off, 3)) : SW X md.2.2.1 Z pc L (vi y :: vi x :: St) n sh σ ce sl := by
  obtain ⟨hx, hb, -⟩ := hB
  intro hL hS H locs ls hl hW hv
  have hS1 := List.forall_mem_cons.mp hS
  have hS2 := List.forall_mem_cons.mp hS1.2
  have iy : InR y := hS1.1
  have ix : InR x := hS2.1
  have a1 := fun q => h1 q hL hS2.2 H locs ls hl hW hv
  have a2 := fun q => h2 q hL hS2.2 H locs ls hl hW hv
  cases cd with
  | eq => exact lv_icmp_eq hx hb hd ht (fun q => a1 ((i_eq ix iy).mp q)) (fun q => a2 (fun w => q ((i_eq ix iy).mpr w)))
  | ne => exact lv_icmp_ne hx hb hd ht (fun q => a1 (fun w => q ((i_eq ix iy).mpr w))) (fun q => a2 (fun w => w ((i_eq ix iy).mp q)))
  | lt => exact lv_icmp_lt hx hb hd ht (fun q => a1 ((i_lt ix iy).mp q)) (fun q => a2 (fun w => q ((i_lt ix iy).mpr w)))
  | ge => exact lv_icmp_ge hx hb hd ht (fun q => a1 ((i_le iy ix).mp q)) (fun q => a2 (fun w => q ((i_le iy ix).mpr w)))
  | gt => exact lv_icmp_gt hx hb hd ht (fun q => a1 ((i_lt iy ix).mp q)) (fun q => a2 (fun w => q ((i_lt iy ix).mpr w)))
  | le => exact lv_icmp_le hx hb hd ht (fun q => a1 ((i_le ix iy).mp q)) (fun q => a2 (fun w => q ((i_le ix iy).mpr w)))
theorem s_goto (hB : Bd X md Z) {off : Int} {b : Nat} (ht : (pc : Int) + off = (b : Int)) (k : SW X md.2.2.1 Z b L St n sh σ ce sl) (hd : decode md.2.1 pc = .ok (.goto off, 3)) : SW X md.2.2.1 Z pc L St n sh σ ce sl := by
  obtain ⟨hx, hb, -⟩ := hB
  intro hL hS H locs ls hl hW hv
  exact lv_goto hx hb hd ht (k hL hS H locs ls hl hW hv)
end STP
