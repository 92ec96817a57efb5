section STQ
variable {X : Cx} {md : MD} {Z : FC} {pc nx : Nat} {L St : List AV} {n : Nat} {sh : Nat → Shp} {σ : Sg} {ce sl : Nat} {R : Option AV → Sg → Prop} {CK : Nat → List AV → Nat → List AV → List AV → Sg → Prop} {rb : Bool} {K : List AV → List AV → Sg → Prop} {J : Nat → List AV → List AV → Sg → Prop}
theorem nat_w : (Cond.native arraycopyName) ∈ gtbl ∧ (Cond.static arraycopyName) ∈ gtbl ∧ (Cond.initialized "java/lang/System") ∈ gtbl := by decide +kernel
theorem swp_ok (x : Int) (J : Nat → Prop) : ∀ (ts : List Nat) (lo : Int) (d : Nat), swp x lo (ts ++ [d]) J → ((x < lo ∨ lo + ts.length ≤ x) → J d) ∧ ∀ i, i < ts.length → x = lo + i → ∃ t, ts[i]? = some t ∧ J t
  | [], lo, d, h => ⟨fun _ => h, fun i hi => by simp at hi⟩
  | t :: ts, lo, d, h => by
    have h' : (x = lo → J t) ∧ (¬ x = lo → swp x (lo + 1) (ts ++ [d]) J) := by
      cases ts with
      | nil => exact h
      | cons t2 ts2 => exact h
    by_cases hx : x = lo
    · refine ⟨fun q => ?_, fun i hi he => ⟨t, ?_, h'.1 hx⟩⟩
      · simp only [List.length_cons] at q
        omega
      · have : i = 0 := by omega
        subst this
        rfl
    · obtain ⟨g1, g2⟩ := swp_ok x J ts (lo + 1) d (h'.2 hx)
      refine ⟨fun q => g1 ?_, fun i hi he => ?_⟩
      · simp only [List.length_cons] at q
        omega
      · cases i with
        | zero => exact absurd (by omega) hx
        | succ i =>
          simp only [List.length_cons] at hi
          obtain ⟨t', h1, h2⟩ := g2 i (by omega) (by omega)
          exact ⟨t', h1, h2⟩
theorem spl_ok {b : Nat} {F : List AV → List AV → Prop} (h : spl b St F) : ∃ As rest, St = As.reverse ++ rest ∧ As.length = b ∧ F As rest := by
  unfold spl at h
  split at h
  · exact ⟨[], _, rfl, rfl, h⟩
  · exact ⟨_, _, rfl, rfl, h⟩
  · exact ⟨_, _, rfl, rfl, h⟩
  · exact ⟨_, _, rfl, rfl, h⟩
  · exact ⟨_, _, rfl, rfl, h⟩
  · exact ⟨_, _, rfl, rfl, h⟩
  · exact ⟨_, _, rfl, rfl, h⟩
  · exact h.elim
set_option maxHeartbeats 4000000 in
theorem stp_sound {c : Nat} {z : Int} {a b x len : Nat} {op : Jvm.ClassFile.Instr} (hB : Bd X md Z) (hMT : ∀ i q, 0 < i → MTL[i]? = some q → OKM q) (hd : decode md.2.1 pc = .ok (op, len)) (hok : okO md nx pc len op c z a b x = true)
    (hK : ∀ L St σ, K L St σ → SW X md.2.2.1 Z nx L St n sh σ ce sl) (hJ : ∀ t L St σ, J t L St σ → SW X md.2.2.1 Z t L St n sh σ ce sl) (hR : RetOK X md Z n sh ce sl rb R) (hC : ∀ mid args nx L rest σ, CK mid args nx L rest σ → CKs X md Z n sh ce sl mid args nx L rest σ)
    (h : stp X sh R CK rb nx K J c z a b L St σ) : SW X md.2.2.1 Z pc L St n sh σ ce sl := by
  obtain ⟨hx, hb, hml, hown, hnm, hts, hst, hbs, hfr, hlo⟩ := id hB
  cases op with
  | iconst m0 =>
    simp only [okO, Bool.and_eq_true, decide_eq_true_eq] at hok
    obtain ⟨⟨rfl, h1, rfl, rfl⟩, h2⟩ := hok
    exact s_push (inRb_ok h2) (hK _ _ _ h) (fun H locs ls k => lv_iconst hx hb hd h1 k)
  | bipush m0 =>
    simp only [okO, Bool.and_eq_true, decide_eq_true_eq] at hok
    obtain ⟨⟨rfl, h1, rfl, rfl⟩, h2⟩ := hok
    exact s_push (inRb_ok h2) (hK _ _ _ h) (fun H locs ls k => lv_bipush hx hb hd h1 k)
  | sipush m0 =>
    simp only [okO, Bool.and_eq_true, decide_eq_true_eq] at hok
    obtain ⟨⟨rfl, h1, rfl, rfl⟩, h2⟩ := hok
    exact s_push (inRb_ok h2) (hK _ _ _ h) (fun H locs ls k => lv_sipush hx hb hd h1 k)
  | ldc i =>
    simp only [okO, Bool.and_eq_true, decide_eq_true_eq] at hok
    obtain ⟨⟨rfl, h1, rfl, rfl⟩, h2⟩ := hok
    exact s_push (inRb_ok h2) (hK _ _ _ h) (fun H locs ls k => lv_ldc hx hb hown (hts _ (g_mem x h1 rfl)) hd k)
  | ldc_w i =>
    simp only [okO, Bool.and_eq_true, decide_eq_true_eq] at hok
    obtain ⟨⟨rfl, h1, rfl, rfl⟩, h2⟩ := hok
    exact s_push (inRb_ok h2) (hK _ _ _ h) (fun H locs ls k => lv_ldcw hx hb hown (hts _ (g_mem x h1 rfl)) hd k)
  | iload_n f =>
    simp only [okO, decide_eq_true_eq] at hok
    obtain ⟨rfl, h1, rfl, h3⟩ := hok
    simp only [stp] at h
    cases hn : nth L a with
    | inr v => rw [hn] at h; exact h.elim
    | inl v => rw [hn] at h; exact s_load hB hn (hK _ _ _ h) (Or.inl ⟨f, h1, h3, hd⟩)
  | iload i =>
    simp only [okO, decide_eq_true_eq] at hok
    obtain ⟨rfl, rfl, rfl, h3⟩ := hok
    simp only [stp] at h
    cases hn : nth L i with
    | inr v => rw [hn] at h; exact h.elim
    | inl v => rw [hn] at h; exact s_load hB hn (hK _ _ _ h) (Or.inr ⟨h3, hd⟩)
  | aload_n f =>
    simp only [okO, decide_eq_true_eq] at hok
    obtain ⟨rfl, h1, rfl, h3⟩ := hok
    simp only [stp] at h
    cases hn : nth L a with
    | inl v => rw [hn] at h; exact h.elim
    | inr v =>
      rw [hn] at h
      rcases v with v | v
      · exact s_loadr hB hn rfl (hK _ _ _ h) (Or.inl ⟨f, h1, h3, hd⟩)
      · exact s_loadr hB hn (by simpa [kn] using h.1) (hK _ _ _ h.2) (Or.inl ⟨f, h1, h3, hd⟩)
  | aload i =>
    simp only [okO, decide_eq_true_eq] at hok
    obtain ⟨rfl, rfl, rfl, h3⟩ := hok
    simp only [stp] at h
    cases hn : nth L i with
    | inl v => rw [hn] at h; exact h.elim
    | inr v =>
      rw [hn] at h
      rcases v with v | v
      · exact s_loadr hB hn rfl (hK _ _ _ h) (Or.inr ⟨h3, hd⟩)
      · exact s_loadr hB hn (by simpa [kn] using h.1) (hK _ _ _ h.2) (Or.inr ⟨h3, hd⟩)
  | istore_n f =>
    simp only [okO, decide_eq_true_eq] at hok
    obtain ⟨rfl, h1, h2, rfl, h3⟩ := hok
    rcases St with _ | ⟨v | v, St⟩
    · exact h.elim
    · exact s_store hB h2 (hK _ _ _ h) (Or.inl ⟨f, h1, h3, hd⟩)
    · exact h.elim
  | istore i =>
    simp only [okO, decide_eq_true_eq] at hok
    obtain ⟨rfl, rfl, h2, rfl, h3⟩ := hok
    rcases St with _ | ⟨v | v, St⟩
    · exact h.elim
    · exact s_store hB h2 (hK _ _ _ h) (Or.inr ⟨h3, hd⟩)
    · exact h.elim
  | astore_n f =>
    simp only [okO, decide_eq_true_eq] at hok
    obtain ⟨rfl, h1, h2, rfl, h3⟩ := hok
    rcases St with _ | ⟨v | v, St⟩
    · exact h.elim
    · exact h.elim
    · exact s_storer hB h2 (hK _ _ _ h) (Or.inl ⟨f, h1, h3, hd⟩)
  | astore i =>
    simp only [okO, decide_eq_true_eq] at hok
    obtain ⟨rfl, rfl, h2, rfl, h3⟩ := hok
    rcases St with _ | ⟨v | v, St⟩
    · exact h.elim
    · exact h.elim
    · exact s_storer hB h2 (hK _ _ _ h) (Or.inr ⟨h3, hd⟩)
  | iinc i m0 =>
    simp only [okO, decide_eq_true_eq] at hok
    obtain ⟨rfl, rfl, h2, rfl, rfl, rfl⟩ := hok
    simp only [stp] at h
    cases hn : nth L i with
    | inr v => rw [hn] at h; exact h.elim
    | inl v => rw [hn] at h; exact s_iinc hB h2 hn h.1 (hK _ _ _ h.2) hd
  | iadd =>
    simp only [okO, decide_eq_true_eq] at hok
    obtain ⟨rfl, rfl, rfl, rfl⟩ := hok
    rcases St with _ | ⟨y | y, _ | ⟨v | v, St⟩⟩ <;> first | exact h.elim | exact s_bop hB (a := 0) ⟨h.1, hK _ _ _ h.2⟩ ⟨_, hd, by simp⟩
  | isub =>
    simp only [okO, decide_eq_true_eq] at hok
    obtain ⟨rfl, rfl, rfl, rfl⟩ := hok
    rcases St with _ | ⟨y | y, _ | ⟨v | v, St⟩⟩ <;> first | exact h.elim | exact s_bop hB (a := 1) ⟨h.1, hK _ _ _ h.2⟩ ⟨_, hd, by simp⟩
  | imul =>
    simp only [okO, decide_eq_true_eq] at hok
    obtain ⟨rfl, rfl, rfl, rfl⟩ := hok
    rcases St with _ | ⟨y | y, _ | ⟨v | v, St⟩⟩ <;> first | exact h.elim | exact s_bop hB (a := 2) ⟨h.1, hK _ _ _ h.2⟩ ⟨_, hd, by simp⟩
  | idiv =>
    simp only [okO, decide_eq_true_eq] at hok
    obtain ⟨rfl, rfl, rfl, rfl⟩ := hok
    rcases St with _ | ⟨y | y, _ | ⟨v | v, St⟩⟩ <;> first | exact h.elim | exact s_bop hB (a := 3) ⟨h.1, hK _ _ _ h.2⟩ ⟨_, hd, by simp⟩
  | irem =>
    simp only [okO, decide_eq_true_eq] at hok
    obtain ⟨rfl, rfl, rfl, rfl⟩ := hok
    rcases St with _ | ⟨y | y, _ | ⟨v | v, St⟩⟩ <;> first | exact h.elim | exact s_bop hB (a := 4) ⟨h.1, hK _ _ _ h.2⟩ ⟨_, hd, by simp⟩
  | ishl =>
    simp only [okO, decide_eq_true_eq] at hok
    obtain ⟨rfl, rfl, rfl, rfl⟩ := hok
    rcases St with _ | ⟨y | y, _ | ⟨v | v, St⟩⟩ <;> first | exact h.elim | exact s_bop hB (a := 5) (hK _ _ _ h) ⟨_, hd, by simp⟩
  | ishr =>
    simp only [okO, decide_eq_true_eq] at hok
    obtain ⟨rfl, rfl, rfl, rfl⟩ := hok
    rcases St with _ | ⟨y | y, _ | ⟨v | v, St⟩⟩ <;> first | exact h.elim | exact s_bop hB (a := 6) (hK _ _ _ h) ⟨_, hd, by simp⟩
  | iushr =>
    simp only [okO, decide_eq_true_eq] at hok
    obtain ⟨rfl, rfl, rfl, rfl⟩ := hok
    rcases St with _ | ⟨y | y, _ | ⟨v | v, St⟩⟩ <;> first | exact h.elim | exact s_bop hB (a := 7) (hK _ _ _ h) ⟨_, hd, by simp⟩
  | iand =>
    simp only [okO, decide_eq_true_eq] at hok
    obtain ⟨rfl, rfl, rfl, rfl⟩ := hok
    rcases St with _ | ⟨y | y, _ | ⟨v | v, St⟩⟩ <;> first | exact h.elim | exact s_bop hB (a := 8) (hK _ _ _ h) ⟨_, hd, by simp⟩
  | ior =>
    simp only [okO, decide_eq_true_eq] at hok
    obtain ⟨rfl, rfl, rfl, rfl⟩ := hok
    rcases St with _ | ⟨y | y, _ | ⟨v | v, St⟩⟩ <;> first | exact h.elim | exact s_bop hB (a := 9) (hK _ _ _ h) ⟨_, hd, by simp⟩
  | ixor =>
    simp only [okO, decide_eq_true_eq] at hok
    obtain ⟨rfl, rfl, rfl, rfl⟩ := hok
    rcases St with _ | ⟨y | y, _ | ⟨v | v, St⟩⟩ <;> first | exact h.elim | exact s_bop hB (a := 10) (hK _ _ _ h) ⟨_, hd, by simp⟩
  | ifCond cd off =>
    simp only [okO, decide_eq_true_eq] at hok
    obtain ⟨rfl, rfl, h2, rfl, rfl⟩ := hok
    rcases St with _ | ⟨y | y, St⟩
    · exact h.elim
    · exact s_ifz hB h2 (fun q => hJ _ _ _ _ (h.1 q)) (fun q => hK _ _ _ (h.2 q)) hd
    · exact h.elim
  | if_icmp cd off =>
    simp only [okO, decide_eq_true_eq] at hok
    obtain ⟨rfl, rfl, h2, rfl, rfl⟩ := hok
    rcases St with _ | ⟨y | y, _ | ⟨v | v, St⟩⟩ <;> first | exact h.elim | exact s_icmp hB h2 (fun q => hJ _ _ _ _ (h.1 q)) (fun q => hK _ _ _ (h.2 q)) hd
  | goto off =>
    simp only [okO, decide_eq_true_eq] at hok
    obtain ⟨rfl, h2, rfl⟩ := hok
    exact s_goto hB h2 (hJ _ _ _ _ h) hd
  | getfield i =>
    simp only [okO] at hok
    split at hok
    · next q hq =>
      simp only [decide_eq_true_eq] at hok
      obtain ⟨rfl, h1, h2, rfl, rfl⟩ := hok
      rcases St with _ | ⟨y | k | k, St⟩
      · exact h.elim
      · exact h.elim
      · simp only [stp] at h
        intro hL hS H locs ls hl hW hv
        have hS1 := List.forall_mem_cons.mp hS
        unfold gfl at h
        split at h
        · next cc rl hk =>
          obtain ⟨rfl, h⟩ := h
          split at h
          · next ho =>
            exact my_get hx hb hts hown hst hW hk hq h1 (g_mem x h2 rfl) ho hd (hK _ _ _ h hL (fc (v := vi (σ k b)) (hW.2.2.1 k b) hS1.2) H locs ls hl hW hv)
          · next r ho =>
            exact my_get hx hb hts hown hst hW hk hq h1 (g_mem x h2 rfl) ho hd (hK _ _ _ h hL (fc (v := vr r) trivial hS1.2) H locs ls hl hW hv)
          · exact h.elim
        · exact h.elim
      · exact h.elim
    · cases hok
  | putfield i =>
    simp only [okO] at hok
    split at hok
    · next q hq =>
      simp only [decide_eq_true_eq] at hok
      obtain ⟨h0, h1, h2, rfl, rfl⟩ := hok
      rcases h0 with ⟨rfl, f1, f2⟩ | ⟨rfl, f1, f2⟩ | ⟨rfl, _⟩
      · rcases St with _ | ⟨v | y, _ | ⟨y | k | k, St⟩⟩ <;> try exact h.elim
        · simp only [stp] at h
          intro hL hS H locs ls hl hW hv
          have hS1 := List.forall_mem_cons.mp hS
          have hS2 := List.forall_mem_cons.mp hS1.2
          unfold pfl at h
          split at h
          · next cc rl hk =>
            obtain ⟨rfl, h3, h⟩ := h
            exact my_put hx hb hts hown hst hW hv hk hq h1 (g_mem x h2 rfl) h3 f1 hS1.1 f2 rfl rfl hd (fun H1 locs1 w1 w2 => hK _ _ _ h hL hS2.2 H1 locs1 ls hl w1 w2)
          · exact h.elim
      · rcases St with _ | ⟨v | y, _ | ⟨y | k | k, St⟩⟩ <;> try exact h.elim
        · simp only [stp] at h
          obtain ⟨h01, h⟩ := h
          intro hL hS H locs ls hl hW hv
          have hS1 := List.forall_mem_cons.mp hS
          have hS2 := List.forall_mem_cons.mp hS1.2
          unfold pfl at h
          split at h
          · next cc rl hk =>
            obtain ⟨rfl, h3, h⟩ := h
            exact my_put hx hb hts hown hst hW hv hk hq h1 (g_mem x h2 rfl) h3 f1 hS1.1 f2 (by rcases h01 with rfl | rfl <;> rfl) (by rcases h01 with rfl | rfl <;> rfl) hd (fun H1 locs1 w1 w2 => hK _ _ _ h hL hS2.2 H1 locs1 ls hl w1 w2)
          · exact h.elim
      · exact h.elim
    · cases hok
  | getstatic i =>
    simp only [okO, decide_eq_true_eq] at hok
    obtain ⟨rfl, h1, h2, h3, rfl, rfl⟩ := hok
    simp only [stp] at h
    intro hL hS H locs ls hl hW hv
    have k := hK _ _ _ h.2 hL (fc (v := vx a) trivial hS) H locs ls hl hW hv
    rcases h3 with ⟨rfl, h4⟩ | ⟨rfl, h4, h5⟩
    · exact va_gets hx hb (hst.2.2.2.2.2.1 a h1 h2) hv hown (hts _ (g_mem x h4 rfl)) (fun _ q => q) hd k
    · rw [h4] at hown
      rcases h5 with ⟨rfl, rfl⟩ | ⟨rfl, rfl⟩
      · exact va_getsN hx hb (hst.2.2.2.2.2.1 2 h1 h2) hv hown (va_Nw.use rfl hst.2.2.1) (fun _ q => q) hd k
      · exact va_getsN hx hb (hst.2.2.2.2.2.1 3 h1 h2) hv hown (va_Nw.use rfl hst.2.2.2.1) (fun _ q => q) hd k
  | iaload =>
    simp only [okO, decide_eq_true_eq] at hok
    obtain ⟨rfl, rfl, rfl⟩ := hok
    rcases St with _ | ⟨i | y, _ | ⟨y | k | k, St⟩⟩ <;> try exact h.elim
    · simp only [stp] at h
      intro hL hS H locs ls hl hW hv
      have hS1 := List.forall_mem_cons.mp hS
      have hS2 := List.forall_mem_cons.mp hS1.2
      unfold arr at h
      split at h
      · next z' len hk =>
        obtain ⟨rfl, ⟨h1, h2⟩, h⟩ := h
        exact my_iald hx hb hst hW hk hS1.1 h1 h2 hd (hK _ _ _ h hL (fc (v := vi (σ k i)) (hW.2.2.1 k i) hS2.2) H locs ls hl hW hv)
      · exact h.elim
    · simp only [stp] at h
      obtain ⟨h0, ⟨h1, h2⟩, h⟩ := h
      intro hL hS H locs ls hl hW hv
      have hS1 := List.forall_mem_cons.mp hS
      have hS2 := List.forall_mem_cons.mp hS1.2
      exact my_xald hx hb hst hv h0 hS1.1 h1 h2 hd (hK _ _ _ h hL (fc (v := vi (xf X k i)) (xf_in X k i) hS2.2) H locs ls hl hW hv)
  | baload =>
    simp only [okO, decide_eq_true_eq] at hok
    obtain ⟨rfl, rfl, rfl⟩ := hok
    rcases St with _ | ⟨i | y, _ | ⟨y | k | k, St⟩⟩ <;> try exact h.elim
    · simp only [stp] at h
      intro hL hS H locs ls hl hW hv
      have hS1 := List.forall_mem_cons.mp hS
      have hS2 := List.forall_mem_cons.mp hS1.2
      unfold arr at h
      split at h
      · next z' len hk =>
        obtain ⟨rfl, ⟨h1, h2⟩, h⟩ := h
        exact my_zald hx hb hst hW hk hS1.1 h1 h2 hd (hK _ _ _ h hL (fc (v := vi (σ k i)) (hW.2.2.1 k i) hS2.2) H locs ls hl hW hv)
      · exact h.elim
  | iastore =>
    simp only [okO, decide_eq_true_eq] at hok
    obtain ⟨rfl, rfl, rfl⟩ := hok
    rcases St with _ | ⟨v | y, _ | ⟨i | y, _ | ⟨y | k | k, St⟩⟩⟩ <;> try exact h.elim
    simp only [stp] at h
    intro hL hS H locs ls hl hW hv
    have hS1 := List.forall_mem_cons.mp hS
    have hS2 := List.forall_mem_cons.mp hS1.2
    have hS3 := List.forall_mem_cons.mp hS2.2
    unfold arr at h
    split at h
    · next z' len hk =>
      obtain ⟨rfl, ⟨h1, h2⟩, h⟩ := h
      exact my_iast hx hb hst hW hv hk hS2.1 hS1.1 h1 h2 hd (fun H1 locs1 w1 w2 => hK _ _ _ h hL hS3.2 H1 locs1 ls hl w1 w2)
    · exact h.elim
  | bastore =>
    simp only [okO, decide_eq_true_eq] at hok
    obtain ⟨rfl, rfl, rfl⟩ := hok
    rcases St with _ | ⟨v | y, _ | ⟨i | y, _ | ⟨y | k | k, St⟩⟩⟩ <;> try exact h.elim
    simp only [stp] at h
    obtain ⟨h01, h⟩ := h
    intro hL hS H locs ls hl hW hv
    have hS1 := List.forall_mem_cons.mp hS
    have hS2 := List.forall_mem_cons.mp hS1.2
    have hS3 := List.forall_mem_cons.mp hS2.2
    unfold arr at h
    split at h
    · next z' len hk =>
      obtain ⟨rfl, ⟨h1, h2⟩, h⟩ := h
      exact my_zast hx hb hst hW hv hk hS2.1 h01 h1 h2 hd (fun H1 locs1 w1 w2 => hK _ _ _ h hL hS3.2 H1 locs1 ls hl w1 w2)
    · exact h.elim
  | aaload =>
    simp only [okO, decide_eq_true_eq] at hok
    obtain ⟨rfl, rfl, rfl⟩ := hok
    rcases St with _ | ⟨i | y, _ | ⟨y | k | k, St⟩⟩ <;> try exact h.elim
    simp only [stp] at h
    intro hL hS H locs ls hl hW hv
    have hS1 := List.forall_mem_cons.mp hS
    have hS2 := List.forall_mem_cons.mp hS1.2
    unfold arq at h
    split at h
    · next len g hk =>
      obtain ⟨⟨h1, h2⟩, h⟩ := h
      split at h
      · next r hg =>
        exact my_aald hx hb hst hW hk hS1.1 h1 h2 hg hd (hK _ _ _ h hL (fc (v := vr r) trivial hS2.2) H locs ls hl hW hv)
      · exact h.elim
    · exact h.elim
  | arraylength =>
    simp only [okO, decide_eq_true_eq] at hok
    obtain ⟨rfl, rfl, rfl⟩ := hok
    rcases St with _ | ⟨y | k | k, St⟩ <;> try exact h.elim
    · simp only [stp] at h
      intro hL hS H locs ls hl hW hv
      have hS1 := List.forall_mem_cons.mp hS
      unfold aln at h
      split at h
      · next z' len hk =>
        exact my_alen hx hb hst hW hk hd (hK _ _ _ h.2 hL (fc (v := vi len) h.1 hS1.2) H locs ls hl hW hv)
      · exact h.elim
    · simp only [stp] at h
      obtain ⟨h0, h⟩ := h
      intro hL hS H locs ls hl hW hv
      have hS1 := List.forall_mem_cons.mp hS
      exact my_xlen hx hb hst hv h0 hd (hK _ _ _ h.2 hL (fc (v := vi (xl X k)) h.1 hS1.2) H locs ls hl hW hv)
  | dup =>
    simp only [okO, decide_eq_true_eq] at hok
    obtain ⟨rfl, rfl, rfl⟩ := hok
    rcases St with _ | ⟨v, St⟩
    · exact h.elim
    · intro hL hS H locs ls hl hW hv
      have hS1 := List.forall_mem_cons.mp hS
      exact lv_dup hx hb hd (cv_cat X v) (hK _ _ _ h hL (fc hS1.1 hS) H locs ls hl hW hv)
  | dup2 =>
    simp only [okO, decide_eq_true_eq] at hok
    obtain ⟨rfl, rfl, rfl⟩ := hok
    rcases St with _ | ⟨v, _ | ⟨w, St⟩⟩
    · exact h.elim
    · exact h.elim
    · intro hL hS H locs ls hl hW hv
      have hS1 := List.forall_mem_cons.mp hS
      have hS2 := List.forall_mem_cons.mp hS1.2
      exact lv_dup2_11 hx hb hd (cv_cat X v) (cv_cat X w) (hK _ _ _ h hL (fc hS1.1 (fc hS2.1 hS)) H locs ls hl hW hv)
  | i2b =>
    simp only [okO, decide_eq_true_eq] at hok
    obtain ⟨rfl, rfl, rfl⟩ := hok
    rcases St with _ | ⟨v | v, St⟩ <;> try exact h.elim
    intro hL hS H locs ls hl hW hv
    have hS1 := List.forall_mem_cons.mp hS
    exact lv_i2b hx hb hd (oI _).symm (hK _ _ _ h hL (fc (v := vi (b2b v)) (inr_toInt _) hS1.2) H locs ls hl hW hv)
  | i2s =>
    simp only [okO, decide_eq_true_eq] at hok
    obtain ⟨rfl, rfl, rfl⟩ := hok
    rcases St with _ | ⟨v | v, St⟩ <;> try exact h.elim
    intro hL hS H locs ls hl hW hv
    have hS1 := List.forall_mem_cons.mp hS
    exact lv_i2s hx hb hd (oI _).symm (hK _ _ _ h hL (fc (v := vi (b2s v)) (inr_toInt _) hS1.2) H locs ls hl hW hv)
  | ireturn =>
    simp only [okO, decide_eq_true_eq] at hok
    obtain ⟨rfl, rfl⟩ := hok
    rcases St with _ | ⟨v | v, _ | ⟨w, St⟩⟩ <;> try exact h.elim
    exact hR.1 pc v L σ hd h.1 h.2
  | return_ =>
    simp only [okO, decide_eq_true_eq] at hok
    obtain ⟨rfl, rfl⟩ := hok
    rcases St with _ | ⟨v, St⟩ <;> try exact h.elim
    exact hR.2 pc L σ hd h
  | tableswitch dflt lo hi offs =>
    simp only [okO, decide_eq_true_eq] at hok
    obtain ⟨rfl, rfl, h1, h2⟩ := hok
    rcases St with _ | ⟨v | v, St⟩ <;> try exact h.elim
    simp only [stp] at h
    generalize SWT.getD b [] = ts at h h2
    intro hL hS H locs ls hl hW hv
    have hS1 := List.forall_mem_cons.mp hS
    have iv : InR v := hS1.1
    rcases List.eq_nil_or_concat ts with rfl | ⟨t0, d, rfl⟩
    · exact h.elim
    · rw [List.concat_eq_append] at h h2
      rw [List.map_append] at h2
      have hl2 : (offs.toList.map (fun o => (pc : Int) + o)).length = (t0.map (fun t : Nat => (t : Int))).length := by
        have := congrArg List.length h2
        simp only [List.length_append, List.length_map, List.length_cons, List.length_nil] at this ⊢
        omega
      obtain ⟨e1, e2⟩ := List.append_inj h2 hl2
      have e3 : (pc : Int) + dflt = (d : Int) := by simpa using e2
      obtain ⟨g1, g2⟩ := swp_ok v _ t0 lo d h
      have hlen : t0.length = offs.size := by
        simp only [List.length_map, Array.length_toList] at hl2
        omega
      by_cases hin : v < lo ∨ hi < v
      · exact lv_tableOut hx hb hd (by rw [tI iv]; exact hin) e3 (hJ _ _ _ _ (g1 (by omega)) hL hS1.2 H locs ls hl hW hv)
      · have hi0 : (v - lo).toNat < t0.length := by omega
        obtain ⟨t, h3, h4⟩ := g2 (v - lo).toNat hi0 (by omega)
        have h5 : (offs.toList.map (fun o => (pc : Int) + o))[(v - lo).toNat]? = some (t : Int) := by
          rw [e1, List.getElem?_map, h3]
          rfl
        rw [List.getElem?_map] at h5
        cases ho : offs.toList[(v - lo).toNat]? with
        | none => rw [ho] at h5; cases h5
        | some off =>
          rw [ho] at h5
          have h6 : (pc : Int) + off = (t : Int) := Option.some.inj h5
          exact lv_tableIn hx hb hd (by rw [tI iv]; omega) (by rw [tI iv]; omega) (off := off) (by rw [tI iv, ← Array.getElem?_toList]; exact ho) h6 (hJ _ _ _ _ h4 hL hS1.2 H locs ls hl hW hv)
  | invokestatic i =>
    simp only [okO] at hok
    split at hok
    · next q hq =>
      simp only [Bool.or_eq_true, Bool.and_eq_true, decide_eq_true_eq] at hok
      rcases hok with ⟨⟨rfl, ha⟩, hs, h1 | h1⟩ | ⟨rfl, h1, rfl, rfl⟩
      · obtain ⟨h2, h3, h4, rfl, rfl⟩ := h1
        simp only [stp] at h
        obtain ⟨As, rest, rfl, h5, h6⟩ := spl_ok h
        exact r_callS hB hq (hMT a q ha hq) hs (by rw [h5, h2]) (g_mem x h4 rfl) hd (hC _ _ _ _ _ _ h6)
      · obtain ⟨h2, h3, h4, rfl, h7, rfl, rfl⟩ := h1
        simp only [stp] at h
        obtain ⟨As, rest, rfl, h5, h6⟩ := spl_ok h
        exact r_callN hB hq (hMT a q ha hq) hs (by rw [h5, h2]) h4 h7 hd (hC _ _ _ _ _ _ h6)
      · rcases St with _ | ⟨nn | y, _ | ⟨dp | y, _ | ⟨y | kd | y, _ | ⟨sp | y, _ | ⟨y | ks | y, St⟩⟩⟩⟩⟩ <;> try exact h.elim
        simp only [stp] at h
        obtain ⟨g0, ⟨g3, g2, g1⟩, a1, a2, ⟨k1, k2⟩, h⟩ := h
        intro hL hS H locs ls hl hW hv
        have hS1 := List.forall_mem_cons.mp hS
        have hS2 := List.forall_mem_cons.mp hS1.2
        have hS3 := List.forall_mem_cons.mp hS2.2
        have hS4 := List.forall_mem_cons.mp hS3.2
        have hS5 := List.forall_mem_cons.mp hS4.2
        rw [k1] at a1
        rw [k2] at a2
        exact my_copy hx hb (by rw [hml]; exact hl.1.symm) hown (hts _ (g_mem x h1 rfl)) (hts _ nat_w.1) (hts _ nat_w.2.1) (hts _ nat_w.2.2) hst hW hv k1 k2 hS4.1 hS2.1 hS1.1 g1 g2 g3 a1 a2 hfr (by rw [nsum]; omega) hd (fun H1 locs1 w1 w2 => hK _ _ _ h hL hS5.2 H1 locs1 ls hl w1 w2)
    · cases hok
  | invokevirtual i =>
    simp only [okO] at hok
    split at hok
    · next q r hq hr =>
      simp only [decide_eq_true_eq] at hok
      obtain ⟨rfl, ha, hz, h1, h2, h3, h4, h5, h6, rfl, rfl⟩ := hok
      simp only [stp] at h
      obtain ⟨As, rest, rfl, h7, h8, h9⟩ := spl_ok h
      rcases As with _ | ⟨y | k | y, As⟩
      · exact h8.elim
      · exact h8.elim
      · dsimp only at h8
        unfold isC at h8
        split at h8
        · next cc rl hk =>
          have hzc : z.toNat = cc := by omega
          rw [hzc] at hr
          rw [List.reverse_cons, List.append_assoc]
          exact r_callV hB hq (hMT a q ha hq) hk hr h1 h2 h3 (by simp only [List.length_cons] at h7; omega) (g_mem x h6 rfl) hd (hC _ _ _ _ _ _ h9)
        · exact h8.elim
      · exact h8.elim
    · cases hok
  | invokespecial i =>
    simp only [okO] at hok
    split at hok
    · next q hq =>
      simp only [Bool.or_eq_true, decide_eq_true_eq] at hok
      rcases hok with ⟨rfl, h1⟩ | h1
      · exact h.elim
      · obtain ⟨rfl, ha, h2, h3, h4, h5, h5', h6, rfl, rfl⟩ := h1
        simp only [stp] at h
        obtain ⟨As, rest, rfl, h7, h8, h9⟩ := spl_ok h
        rcases As with _ | ⟨y | k | y, As⟩
        · exact h8.elim
        · exact h8.elim
        · rw [List.reverse_cons, List.append_assoc]
          exact r_callI hB hq (hMT a q ha hq) h2 h3 h4 (by simp only [List.length_cons] at h7; omega) (g_mem x h6 rfl) hd (hC _ _ _ _ _ _ h9)
        · exact h8.elim
    · cases hok
  | aastore =>
    simp only [okO, decide_eq_true_eq] at hok
    obtain ⟨rfl, _⟩ := hok
    exact h.elim
  | newarray t =>
    simp only [okO, decide_eq_true_eq] at hok
    obtain ⟨rfl, _⟩ := hok
    exact h.elim
  | anewarray t =>
    simp only [okO, decide_eq_true_eq] at hok
    obtain ⟨rfl, _⟩ := hok
    exact h.elim
  | new t =>
    simp only [okO] at hok
    split at hok
    · simp only [decide_eq_true_eq] at hok
      obtain ⟨rfl, _⟩ := hok
      exact h.elim
    · cases hok
  | _ => exact absurd hok (by simp [okO])
end STQ
