-- THE LAW'S BEGINNING: its two objects
theorem wf00 : wfM M00 := by
  refine ⟨⟨by decide, by decide⟩, ⟨by decide, by decide⟩, ⟨by decide, by decide⟩, fun f a b => ?_, fun l a b => ?_, ?_⟩
  · rw [m0_k a b, m0_z (j := 85 + f) (by omega), m0_z (j := 166 + f) (by omega)]
    refine ⟨by omega, ?_, by omega, fun c => by omega, fun _ => rfl⟩
    unfold isOf isMir
    omega
  · have e : M00 2 = 0 := rfl
    omega
  · have : ctk M00 4 = 0 := by
      unfold ctk
      rw [cP_eq]
      exact cP_0 _ 81 0 (fun j a b c => by rw [m0_k a (by omega)] at c; omega)
    omega
theorem wn00 : WN A00 0 := ⟨⟨wf00, fun i a b => absurd (show i < 0 from b) (by omega), ⟨Int.le_refl 0, by show (0 : Int) ≤ 20; omega⟩, ⟨Int.le_refl 0, by show (0 : Int) ≤ 1000; omega⟩, fun s a b => ⟨Or.inl rfl, Int.le_refl 0, by show (0 : Int) ≤ 30; omega⟩⟩, Int.le_refl 0⟩
theorem CV.lo {σ σ' : Sg} {A : AT} {B : Int} (h : CV σ A B) (hf : ∀ j, j < 212 → σ' j = σ j) : CV σ' A B :=
  h.te (fun j hj => hf j (by omega)) (h.2.2.2.2.1.cg (fun j a b => hf j (by omega)) (Int.le_refl _)) (h.2.2.2.2.2.1.cg (fun j a b => hf j (by omega)) (Int.le_refl _)) (h.2.2.2.2.2.2.1.cg (fun j a b => hf j (by omega)) (Int.le_refl _)) (h.2.2.2.2.2.2.2.cg (fun j a b => hf j (by omega)) (Int.le_refl _))
section BEG
variable {X : Cx} {Z : FC} {L St : List AV} {n : Nat} {sh : Nat → Shp} {σ : Sg} {ce sl : Nat}
theorem SW.run0 (hB : Bd X md0 Z) (f pc : Nat) (h : wq X sh (fun pc L St σ => SW X 4 Z pc L St n sh σ ce sl) (fun _ _ => False) (CKs X md0 Z n sh ce sl) true pp0 f (seek pp0 pc) L St σ) : SW X 4 Z pc L St n sh σ ce sl := by
  have hok : okP md0 pp0 = true := okp_all (i := 0) (q := md0) rfl
  have h3 := wq_sound (Z := Z) (md := md0) (n := n) (sh := sh) (ce := ce) (sl := sl) hB hok (fun t L St σ hS => hS) ⟨fun pc x L σ a b c => c.elim, fun pc L σ a c => c.elim⟩ (fun mid args nx L rest σ hC => hC) f (seek pp0 pc) L St σ (seek_ok pp0 pc hok) h
  cases hsk : seek pp0 pc with
  | nil =>
    rw [hsk] at h
    cases f <;> exact h.elim
  | cons q F =>
    rw [hsk] at h3
    have e1 : hd (q :: F) = pc := seek_hd pp0 pc hsk
    rw [e1] at h3
    exact h3
theorem SW.new0 (hB : Bd X md0 Z) {pc a b x : Nat} {fl : Bool} {z : Int} {E : List EN} (hs : seek pp0 pc = (pc, fl, 21, z, a, b, x) :: E) {q : vw_C} (hq : vwCl[a]? = some q) (h1 : ce + 1 ≤ Z.2.2.2.1.cells) (h2 : sl + q.2.2 ≤ Z.2.2.2.1.slots)
    (k : ∀ (sh2 : Nat → Shp) (σ2 : Sg), sh2 n = .inr (.inr (a, rl0 a)) → (∀ j, j ≠ n → sh2 j = sh j) → σ2 n = (fun _ => 0) → (∀ j, j ≠ n → σ2 j = σ j) → SW X 4 Z (hd E) L (vr n :: St) (n + 1) sh2 σ2 (ce + 1) (sl + q.2.2)) : SW X 4 Z pc L St n sh σ ce sl := by
  obtain ⟨op, len, hdc, hok⟩ := ent_ok (mid := 0) (md := md0) (P := pp0) rfl rfl hs
  obtain ⟨i, q', rfl, hq', hw, rfl, hnx⟩ := ok_new hok
  cases hq.symm.trans hq'
  have k2 := k (fun j => if j = n then .inr (.inr (a, rl0 a)) else sh j) (zrow σ n) (if_pos rfl) (fun j hj => if_neg hj) (by funext i; simp [zrow]) (fun j hj => by funext i; simp [zrow, hj])
  rw [hnx] at k2
  obtain ⟨hx, hb, hml, hown, hnm, hts, hst, hbs, hfr, hlo⟩ := hB
  intro hL hS H locs ls hl hW hv
  refine my_new hx hb hts hown hq (hts _ (g_mem x hw rfl)) (hts _ (inst_ok a q hq).1) (hts _ (inst_ok a q hq).2) hst hW hv (rl := rl0 a) (rl0_ok a q hq) h1 h2 hdc fun H1 w1 w2 => ?_
  exact k2 hL (fc (v := vr n) trivial hS) H1 locs ls hl w1 w2
theorem SW.dsh {pc : Nat} (h : (∀ k, n ≤ k → sh k = dSh) → SW X 4 Z pc L St n sh σ ce sl) : SW X 4 Z pc L St n sh σ ce sl :=
  fun hL hS H locs ls hl hW hv => h hW.2.2.2 hL hS H locs ls hl hW hv
theorem l_start (hZ : LZ X Z) : SW X 4 Z 0 [vx 0, vx 9, vx 9, vx 9] [] 0 (fun _ => dSh) (fun _ _ => 0) 0 0 := by
  have e := hZ.2.1
  refine SW.new0 hZ.1 (pc := 0) (q := (RX10, TX10, 12)) rfl rfl (by rw [e]; show 0 + 1 ≤ 600000; omega) (by rw [e]; show 0 + 12 ≤ 7302249; omega) (fun sh1 σ1 e1 e2 e3 e4 => ?_)
  show SW X 4 Z 3 [vx 0, vx 9, vx 9, vx 9] [vr 0] 1 sh1 σ1 1 12
  refine SW.run0 hZ.1 2 3 ?_
  show isC (sh1 0) 10 ∧ CKs X md0 Z 1 sh1 1 12 1 [vr 0] 7 [vx 0, vx 9, vx 9, vx 9] [vr 0] σ1
  refine ⟨by rw [e1]; rfl, 4, 211, 12107, iPost 0 212 sh1 σ1 (fun σ' => CV σ' A00 0), by rw [e]; show 4 + 1 ≤ 2048; omega, by rw [e]; show 64 * 4 + 64 ≤ 84000; omega, by rw [e]; show 1 + 211 ≤ 600000; omega, by rw [e]; show 12 + 12107 ≤ 7302249; omega, Nat.le_of_ble_eq_true rfl, i_X10 sh1 σ1 e1 e3, fun r n' sh' σ' hi hv hq => ?_⟩
  obtain ⟨rfl, rfl, -, g3, -, g5⟩ := hq
  show SW X 4 Z 7 [vx 0, vx 9, vx 9, vx 9] [vr 0] 212 sh' σ' 212 12119
  refine SW.run0 hZ.1 1 7 ?_
  show SW X 4 Z 8 [vx 0, vr 0, vx 9, vx 9] [] 212 sh' σ' 212 12119
  refine SW.new0 hZ.1 (pc := 8) (q := (RX11, TX11, 24)) rfl rfl (by rw [e]; show 212 + 1 ≤ 600000; omega) (by rw [e]; show 12119 + 24 ≤ 7302249; omega) (fun sh2 σ2 f1 f2 f3 f4 => ?_)
  show SW X 4 Z 11 [vx 0, vr 0, vx 9, vx 9] [vr 212] 213 sh2 σ2 213 12143
  refine SW.run0 hZ.1 2 11 ?_
  show isC (sh2 212) 11 ∧ CKs X md0 Z 213 sh2 213 12143 46 [vr 212] 15 [vx 0, vr 0, vx 9, vx 9] [vr 212] σ2
  refine ⟨by rw [f1]; rfl, 1, 18, 8396, iPost 212 19 sh2 σ2 (fun σ' => MV σ' A00), by rw [e]; show 1 + 1 ≤ 2048; omega, by rw [e]; show 64 * 1 + 64 ≤ 84000; omega, by rw [e]; show 213 + 18 ≤ 600000; omega, by rw [e]; show 12143 + 8396 ≤ 7302249; omega, Nat.le_of_ble_eq_true rfl, i_X11 sh2 σ2 f1 f3, fun r n' sh3 σ3 hi2 hv2 hq => ?_⟩
  obtain ⟨rfl, rfl, u2, u3, u4, u5⟩ := hq
  show SW X 4 Z 15 [vx 0, vr 0, vx 9, vx 9] [vr 212] 231 sh3 σ3 231 20539
  refine SW.run0 hZ.1 3 15 ?_
  show SW X 4 Z 18 [vx 0, vr 0, vr 212, vi 0] [] 231 sh3 σ3 231 20539
  refine SW.dsh (fun hd => ?_)
  have eS : sh3 = SH := by
    funext j
    by_cases c1 : j < 212
    · rw [u2 j c1, f2 j (by omega)]
      exact g3 j (by omega) (by omega)
    · by_cases c2 : j < 231
      · exact u3 j (by omega) (by omega)
      · rw [hd j (by omega)]
        unfold SH
        rw [List.getD_eq_getElem?_getD, List.getElem?_eq_none (by show 231 ≤ j; omega)]
        rfl
  subst eS
  exact l_loop hZ 66 0 σ3 A00 rfl (g5.lo (fun j hj => by rw [u4 j hj, f4 j (by omega)])) u5 wn00
end BEG
