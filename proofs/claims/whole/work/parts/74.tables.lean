-- TURNS: tables, and rays where tables are walls
theorem cn_add (P : Int → Prop) [DecidablePred P] (m : Nat) (i : Int) (n : Nat) : cn P i (m + n) = cn P i m + cn P (i + m) n := by
  rw [cP_eq, cP_eq, cP_eq]
  exact cP_add P m i n
/-- the number of a table -/
def rk (M : Int → Int) (f : Int) : Int := cn (fun g => M (4 + g) = 4) 0 f.toNat
theorem rk_s (M : Int → Int) {f : Int} (h0 : 0 ≤ f) : rk M (f + 1) = rk M f + (if M (4 + f) = 4 then 1 else 0) := by
  unfold rk
  rw [show (f + 1).toNat = f.toNat + 1 from by omega, cn_add, show (0 : Int) + (f.toNat : Int) = f from by omega]
  show _ + ((if M (4 + f) = 4 then 1 else 0) + 0) = _
  omega
theorem rk_add (M : Int → Int) {f g : Int} (h0 : 0 ≤ f) (h1 : f ≤ g) : rk M g = rk M f + cn (fun h => M (4 + h) = 4) f (g - f).toNat := by
  unfold rk
  rw [show g.toNat = f.toNat + (g - f).toNat from by omega, cn_add, show (0 : Int) + (f.toNat : Int) = f from by omega]
theorem rk_mono (M : Int → Int) {f g : Int} (h0 : 0 ≤ f) (h1 : f ≤ g) : rk M f ≤ rk M g := by
  rw [rk_add M h0 h1]
  have := cn_bd (fun h => M (4 + h) = 4) f (g - f).toNat
  omega
theorem rk_inj (M : Int → Int) {f g : Int} (f0 : 0 ≤ f) (g0 : 0 ≤ g) (hf : M (4 + f) = 4) (hg : M (4 + g) = 4) (h : rk M f = rk M g) : f = g := by
  have ef := rk_s M f0
  have eg := rk_s M g0
  rw [if_pos hf] at ef
  rw [if_pos hg] at eg
  refine Classical.byContradiction (fun q => ?_)
  by_cases c : f < g
  · have := rk_mono M (f := f + 1) (g := g) (by omega) (by omega)
    omega
  · have := rk_mono M (f := g + 1) (g := f) (by omega) (by omega)
    omega
theorem rk_bd (M : Int → Int) {f : Int} (f0 : 0 ≤ f) (f1 : f < 81) (hf : M (4 + f) = 4) : 0 ≤ rk M f ∧ rk M f < ctk M 4 := by
  have ef := rk_s M f0
  rw [if_pos hf] at ef
  have h1 := rk_mono M (f := f + 1) (g := 81) (by omega) (by omega)
  have h2 : rk M 81 = ctk M 4 := rfl
  have h3 := cn_bd (fun g => M (4 + g) = 4) 0 f.toNat
  have h3 : 0 ≤ rk M f := h3.1
  omega
theorem tts_off (s : Int) : ∀ (n : Nat) (M : Int → Int) (f num : Int) {j : Int}, 0 ≤ f → f + n ≤ 81 → (j < 85 ∨ 166 ≤ j) → tts M s f num n j = M j := by
  intro n
  induction n with
  | zero => intro M f num j _ _ _; rfl
  | succ n ih =>
    intro M f num j h0 h1 hj
    unfold tts
    split
    · rw [ih _ (f + 1) (num + 1) (by omega) (by omega) hj]
      split
      · exact flip_off M f (by omega)
      · rfl
    · exact ih M (f + 1) num (by omega) (by omega) hj
theorem tts_at (s : Int) : ∀ (n : Nat) (M : Int → Int) (f num : Int) {g : Int}, 0 ≤ f → f + n ≤ 81 → 0 ≤ g → g < 81 → tts M s f num n (85 + g) = if f ≤ g ∧ g < f + n ∧ M (4 + g) = 4 ∧ bt s (num + cn (fun h => M (4 + h) = 4) f (g - f).toNat) = 1 then 1 - M (85 + g) else M (85 + g) := by
  intro n
  induction n with
  | zero =>
    intro M f num g h0 h1 g0 g1
    rw [if_neg (fun c => by omega)]
    rfl
  | succ n ih =>
    intro M f num g h0 h1 g0 g1
    have cs : f < g → cn (fun h => M (4 + h) = 4) f (g - f).toNat = (if M (4 + f) = 4 then 1 else 0) + cn (fun h => M (4 + h) = 4) (f + 1) (g - (f + 1)).toNat := fun c => by
      rw [show (g - f).toNat = (g - (f + 1)).toNat + 1 from by omega]
      rfl
    have c0 : cn (fun h => M (4 + h) = 4) f (f - f).toNat = 0 := by
      rw [show (f - f).toNat = 0 from by omega]
      rfl
    unfold tts
    by_cases hk : M (4 + f) = 4
    · rw [if_pos hk, ih _ (f + 1) (num + 1) (by omega) (by omega) g0 g1]
      have k1 : ∀ h, h < 81 → (if s / 2 ^ num.toNat % 2 = 1 then flip M f else M) (4 + h) = M (4 + h) := fun h hh => by
        split
        · exact flip_off M f (by omega)
        · rfl
      rw [cn_congr (fun h => (if s / 2 ^ num.toNat % 2 = 1 then flip M f else M) (4 + h) = 4) (fun h => M (4 + h) = 4) (f + 1) (g - (f + 1)).toNat (fun j a b => by rw [k1 j (by omega)]), k1 g g1]
      by_cases e : g = f
      · subst e
        rw [if_neg (fun c => by omega), c0, Int.add_zero]
        by_cases hb : s / 2 ^ num.toNat % 2 = 1
        · rw [if_pos hb, if_pos ⟨by omega, by omega, hk, hb⟩]
          exact if_pos rfl
        · rw [if_neg hb, if_neg (fun c => hb c.2.2.2)]
      · have k2 : (if s / 2 ^ num.toNat % 2 = 1 then flip M f else M) (85 + g) = M (85 + g) := by
          split
          · exact flip_off M f (by omega)
          · rfl
        rw [k2]
        by_cases c : f < g
        · rw [cs c, if_pos hk, show num + 1 + cn (fun h => M (4 + h) = 4) (f + 1) (g - (f + 1)).toNat = num + (1 + cn (fun h => M (4 + h) = 4) (f + 1) (g - (f + 1)).toNat) from by omega]
          by_cases p : g < f + 1 + n ∧ M (4 + g) = 4 ∧ bt s (num + (1 + cn (fun h => M (4 + h) = 4) (f + 1) (g - (f + 1)).toNat)) = 1
          · rw [if_pos ⟨by omega, p⟩, if_pos ⟨by omega, by omega, p.2⟩]
          · rw [if_neg (fun d => p d.2), if_neg (fun d => p ⟨by omega, d.2.2⟩)]
        · rw [if_neg (fun d => by omega), if_neg (fun d => by omega)]
    · rw [if_neg hk, ih M (f + 1) num (by omega) (by omega) g0 g1]
      by_cases e : g = f
      · subst e
        rw [if_neg (fun c => by omega), if_neg (fun c => hk c.2.2.1)]
      · by_cases c : f < g
        · rw [cs c, if_neg hk, Int.zero_add]
          by_cases p : g < f + 1 + n ∧ M (4 + g) = 4 ∧ bt s (num + cn (fun h => M (4 + h) = 4) (f + 1) (g - (f + 1)).toNat) = 1
          · rw [if_pos ⟨by omega, p⟩, if_pos ⟨by omega, by omega, p.2⟩]
          · rw [if_neg (fun d => p d.2), if_neg (fun d => p ⟨by omega, d.2.2⟩)]
        · rw [if_neg (fun d => by omega), if_neg (fun d => by omega)]
theorem tm_off (M : Int → Int) (s : Int) {j : Int} (h : j < 85 ∨ 166 ≤ j) : turnM M s j = M j := tts_off s 81 M 0 0 (by omega) (by omega) h
theorem tm_at (M : Int → Int) (s : Int) {g : Int} (g0 : 0 ≤ g) (g1 : g < 81) : turnM M s (85 + g) = if M (4 + g) = 4 ∧ bt s (rk M g) = 1 then 1 - M (85 + g) else M (85 + g) := by
  unfold turnM
  rw [tts_at s 81 M 0 0 (by omega) (by omega) g0 g1, show (0 : Int) + cn (fun h => M (4 + h) = 4) 0 (g - 0).toNat = rk M g from by unfold rk; rw [Int.sub_zero, Int.zero_add]]
  by_cases p : M (4 + g) = 4 ∧ bt s (rk M g) = 1
  · rw [if_pos ⟨g0, by omega, p⟩, if_pos p]
  · rw [if_neg (fun d => p d.2.2), if_neg p]
theorem fun_ext {M N : Int → Int} (h1 : ∀ j, (j < 85 ∨ 166 ≤ j) → M j = N j) (h2 : ∀ g, 0 ≤ g → g < 81 → M (85 + g) = N (85 + g)) : M = N := by
  funext j
  by_cases q : j < 85 ∨ 166 ≤ j
  · exact h1 j q
  · have := h2 (j - 85) (by omega) (by omega)
    rw [show 85 + (j - 85) = j from by omega] at this
    exact this
theorem tm_rk (M : Int → Int) (s f : Int) (h : f ≤ 81) : rk (turnM M s) f = rk M f := by
  unfold rk
  exact cn_congr _ _ 0 f.toNat (fun j a b => by rw [tm_off M s (j := 4 + j) (by omega)])
theorem tm_ctk (M : Int → Int) (s k : Int) : ctk (turnM M s) k = ctk M k := cn_congr _ _ 0 81 (fun j a b => by rw [tm_off M s (j := 4 + j) (by omega)])
theorem tm_tm (M : Int → Int) (s : Int) : turnM (turnM M s) s = M := by
  refine fun_ext (fun j h => by rw [tm_off _ s h, tm_off M s h]) (fun g a b => ?_)
  rw [tm_at _ s a b, tm_rk M s g (by omega), tm_at M s a b, tm_off M s (j := 4 + g) (by omega)]
  by_cases p : M (4 + g) = 4 ∧ bt s (rk M g) = 1
  · rw [if_pos p, if_pos p]; omega
  · rw [if_neg p, if_neg p]
theorem tm_0 (M : Int → Int) : turnM M 0 = M := by
  refine fun_ext (fun j h => tm_off M 0 h) (fun g a b => ?_)
  rw [tm_at M 0 a b]
  refine if_neg (fun c => ?_)
  have := c.2
  unfold bt at this
  rw [Int.zero_ediv] at this
  omega
theorem tm_flip (M : Int → Int) {s t f : Int} (f0 : 0 ≤ f) (f1 : f < 81) (hf : M (4 + f) = 4) (h0 : bt s (rk M f) = 0) (hc : ctk M 4 ≤ 10) (ht : ∀ j, 0 ≤ j → j < 10 → bt t j = if j = rk M f then 1 else bt s j) : flip (turnM M s) f = turnM M t := by
  refine fun_ext (fun j h => by rw [flip_off _ f (by omega), tm_off M s h, tm_off M t h]) (fun g a b => ?_)
  by_cases e : g = f
  · subst e
    have hb := rk_bd M f0 f1 hf
    have := ht (rk M g) hb.1 (by omega)
    rw [if_pos rfl] at this
    rw [tm_at M t a b, if_pos ⟨hf, this⟩]
    unfold flip
    rw [if_pos rfl, tm_at M s a b, if_neg (fun c => by omega)]
  · rw [flip_off _ f (by omega), tm_at M s a b, tm_at M t a b]
    by_cases hg : M (4 + g) = 4
    · have hb := rk_bd M a b hg
      have := ht (rk M g) hb.1 (by omega)
      rw [if_neg (fun c => e (rk_inj M a f0 hg hf c))] at this
      rw [this]
    · rw [if_neg (fun c => hg c.1), if_neg (fun c => hg c.1)]
/-- tables that aren't met yet are walls -/
def wl2 (N D : Int → Int) : Int → Int := fun j => if (4 ≤ j ∧ j < 85) ∧ N j = 4 ∧ D (j - 4) = 0 then 0 else N j
theorem wl2_off (N D : Int → Int) {j : Int} (h : j < 4 ∨ 85 ≤ j) : wl2 N D j = N j := if_neg (fun c => by omega)
theorem wl2_at (N D : Int → Int) {f : Int} (h0 : 0 ≤ f) (h1 : f < 81) : wl2 N D (4 + f) = if N (4 + f) = 4 ∧ D f = 0 then 0 else N (4 + f) := by
  unfold wl2
  rw [show 4 + f - 4 = f from by omega]
  by_cases p : N (4 + f) = 4 ∧ D f = 0
  · rw [if_pos ⟨by omega, p⟩, if_pos p]
  · rw [if_neg (fun c => p c.2), if_neg p]
/-- where T has a wall N may have anything; else they are alike -/
def AG (T N : Int → Int) (U : Int → Prop) : Prop := T 0 = N 0 ∧ T 1 = N 1 ∧ ∀ f, 0 ≤ f → f < 81 → (U f → T (4 + f) = 0) ∧ (¬ U f → T (4 + f) = N (4 + f) ∧ T (85 + f) = N (85 + f) ∧ T (166 + f) = N (166 + f))
theorem AG.nx {T N : Int → Int} {U : Int → Prop} (h : AG T N U) (a : Int) : nx1 T a = nx1 N a := by
  unfold nx1 nxf
  rw [h.1, h.2.1]
theorem AG.st {T N : Int → Int} {U : Int → Prop} (h : AG T N U) {f : Int} (h0 : 0 ≤ f) (h1 : f < 81) (hs : ¬ stopsP T f) : ¬ U f := fun c => hs (Or.inl ((h.2.2 f h0 h1).1 c))
theorem AG.su {T N : Int → Int} {U : Int → Prop} (h : AG T N U) (hT : wfB T) {a b : Int} (ha : isP a) (hu : ¬ U (nx1 T a)) : sucs T a b ↔ sucs N a b := by
  by_cases q : 0 ≤ nx1 T a
  · have hf : nx1 T a < 81 := by
      rcases nxf_B hT (f := a / 4) (w := a % 4) (by omega) (by omega) with c | c
      · have c : nx1 T a = -1 := c
        omega
      · exact c.1.2.1
    obtain ⟨e1, e2, e3⟩ := (h.2.2 _ q hf).2 hu
    unfold sucs stopsP wout
    rw [← h.nx a, e1, e2, e3]
  · have q2 : ¬ 0 ≤ nx1 N a := by rw [← h.nx a]; exact q
    exact ⟨fun c => absurd c.1 q, fun c => absurd c.1 q2⟩
theorem AG.up {T N : Int → Int} {U : Int → Prop} (h : AG T N U) (hT : wfB T) {r p : Int} (hr : isP r) (hf : isF T (r / 4)) (hp : rch T r p) : rch N r p := by
  have := hp (fun p => (isP p ∧ isF T (p / 4)) ∧ rch N r p) ⟨⟨hr, hf⟩, rch_self N r⟩ (fun a b ha hs => by
    have hs2 := sucs_P hT ha.1.1 hs
    refine ⟨⟨hs2.1, hs2.2.1⟩, rch_step ha.2 ((h.su hT ha.1.1 (h.st (by have := hs.1; omega) ?_ hs.2.1)).mp hs)⟩
    have := hs2.2.1.2.1
    omega)
  exact this.2
theorem AG.cm {T N : Int → Int} {U : Int → Prop} (h : AG T N U) (hT : wfB T) {r g : Int} (hr : isP r) (hf : isF T (r / 4)) (g0 : 0 ≤ g) (g1 : g < 81) (hc : atP T r g) : atP N r g := by
  rcases hc with hc | ⟨a, h1, h2, h3⟩
  · exact Or.inl hc
  · have hu := h.st g0 g1 h3
    obtain ⟨e1, e2, e3⟩ := (h.2.2 g g0 g1).2 hu
    refine Or.inr ⟨a, h.up hT hr hf h1, by rw [← h.nx a]; exact h2, ?_⟩
    unfold stopsP at h3 ⊢
    rw [← e1, ← e3]
    exact h3
/-- where no such wall is met, they come to the same -/
theorem AG.dn {T N : Int → Int} {U : Int → Prop} (h : AG T N U) (hT : wfB T) {r g : Int} (hr : isP r) (hf : isF T (r / 4)) (g0 : 0 ≤ g) (hm : ∀ f, 0 ≤ f → f < 81 → U f → ¬ ens T r f) (hc : atP N r g) : atP T r g := by
  have nu : ∀ a, rch T r a → 0 ≤ nx1 T a → ¬ U (nx1 T a) := fun a ha h0 c => by
    have hp := rch_P hT hr hf ha
    have hf : nx1 T a < 81 := by
      rcases nxf_B hT (f := a / 4) (w := a % 4) (by omega) (by omega) with c | c
      · have c : nx1 T a = -1 := c
        omega
      · exact c.1.2.1
    exact hm _ h0 hf c ⟨a, ha, rfl, Or.inl ((h.2.2 _ h0 hf).1 c)⟩
  have all : ∀ p, rch N r p → rch T r p := fun p hp => hp (rch T r) (rch_self T r) (fun a b ha hs => by
    have hp := rch_P hT hr hf ha
    refine rch_step ha ((h.su hT hp.1 (nu a ha ?_)).mpr hs)
    rw [h.nx a]
    exact hs.1)
  rcases hc with hc | ⟨a, h1, h2, h3⟩
  · exact Or.inl hc
  · have ha := all a h1
    have e : nx1 T a = g := by rw [h.nx a]; exact h2
    have hp := rch_P hT hr hf ha
    have g1 : g < 81 := by
      rcases nxf_B hT (f := a / 4) (w := a % 4) (by omega) (by omega) with c | c
      · have c : nx1 T a = -1 := c
        omega
      · have := c.1.2.1
        have : nx1 T a < 81 := this
        omega
    have hu := nu a ha (by omega)
    rw [e] at hu
    obtain ⟨e1, e2, e3⟩ := (h.2.2 g g0 g1).2 hu
    refine Or.inr ⟨a, ha, e, ?_⟩
    unfold stopsP at h3 ⊢
    rw [e1, e3]
    exact h3
/-- the sets that agree with one about the tables that were met -/
def Cyl (M D : Int → Int) (set s : Int) : Prop := (0 ≤ s ∧ s < 1024 ∧ ∀ i, ctk M 4 ≤ i → i < 10 → bt s i = 0) ∧ ∀ f, 0 ≤ f → f < 81 → M (4 + f) = 4 → D f ≠ 0 → bt s (rk M f) = bt set (rk M f)
/-- a set has only tables that were met -/
def Sub (M D : Int → Int) (set : Int) : Prop := (0 ≤ set ∧ set < 1024) ∧ ∀ i, 0 ≤ i → i < 10 → bt set i = 1 → ∃ f, (0 ≤ f ∧ f < 81) ∧ M (4 + f) = 4 ∧ D f ≠ 0 ∧ rk M f = i
theorem Sub.cyl {M D : Int → Int} {set : Int} (h : Sub M D set) : Cyl M D set set := by
  refine ⟨⟨h.1.1, h.1.2, fun i a b => ?_⟩, fun f _ _ _ _ => rfl⟩
  have := bt01 set i
  rcases this with q | q
  · exact q
  · have h0 := cn_bd (fun f => M (4 + f) = 4) 0 81
    have h0 : 0 ≤ ctk M 4 := h0.1
    obtain ⟨f, f0, f1, f2, f3⟩ := h.2 i (by omega) b q
    have := rk_bd M f0.1 f0.2 f1
    omega
theorem Sub.le {M D : Int → Int} {set s : Int} (h : Sub M D set) (hs : Cyl M D set s) : pop set ≤ pop s ∧ set ≤ s :=
  sub_le h.1.1 h.1.2 hs.1.1 hs.1.2.1 (fun i a b c => by
    obtain ⟨f, f0, f1, f2, f3⟩ := h.2 i a b c
    have := hs.2 f f0.1 f0.2 f1 f2
    rw [f3] at this
    omega)
theorem ag_tm {M D : Int → Int} {set s : Int} (hs : Cyl M D set s) : AG (wl2 (turnM M set) D) (turnM M s) (fun f => M (4 + f) = 4 ∧ D f = 0) := by
  refine ⟨?_, ?_, fun f a b => ⟨fun c => ?_, fun c => ⟨?_, ?_, ?_⟩⟩⟩
  · rw [wl2_off _ D (by omega), tm_off M set (by omega), tm_off M s (by omega)]
  · rw [wl2_off _ D (by omega), tm_off M set (by omega), tm_off M s (by omega)]
  · rw [wl2_at _ D a b, tm_off M set (by omega), if_pos c]
  · rw [wl2_at _ D a b, tm_off M set (by omega), tm_off M s (by omega), if_neg c]
  · rw [wl2_off _ D (by omega), tm_at M set a b, tm_at M s a b]
    by_cases hk : M (4 + f) = 4
    · rw [hs.2 f a b hk (fun e => c ⟨hk, e⟩)]
    · rw [if_neg (fun d => hk d.1), if_neg (fun d => hk d.1)]
  · rw [wl2_off _ D (by omega), tm_off M set (by omega), tm_off M s (by omega)]
