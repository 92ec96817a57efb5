-- RINGS: the pure side
theorem it_add (M : Int → Int) (r : Int) (i : Nat) : ∀ j, it M (it M r i) j = it M r (i + j)
  | 0 => rfl
  | j + 1 => by show nxr M (it M (it M r i) j) = nxr M (it M r (i + j)); rw [it_add M r i j]
def cl (M : Int → Int) (r : Int) : Prop := it M r (plen M r).toNat = r
def onp (M : Int → Int) (q p : Int) : Prop := ∃ j : Nat, (j : Int) < plen M q ∧ it M q j = p
theorem pcl_cl (M : Int → Int) (r : Int) : pcl M r = 1 ↔ cl M r := by
  unfold pcl cl
  by_cases h : it M r (plen M r).toNat = r
  · rw [if_pos h]; exact ⟨fun _ => h, fun _ => rfl⟩
  · rw [if_neg h]; exact ⟨fun q => by omega, fun q => absurd q h⟩
section RGP
variable {M : Int → Int}
theorem cl_cyc (hM : wfM M) {q : Int} (hq : isP q) (hc : cl M q) : ∀ n : Nat, it M q n = it M q (n % (plen M q).toNat) := by
  have hl := (plen_ok hM hq).1
  intro n
  induction n using Nat.strongRecOn with
  | _ n ih =>
    by_cases h : n < (plen M q).toNat
    · rw [Nat.mod_eq_of_lt h]
    · have e : n = (plen M q).toNat + (n - (plen M q).toNat) := by omega
      have h1 : it M q n = it M q (n - (plen M q).toNat) := by
        conv => lhs; rw [e, ← it_add]
        unfold cl at hc
        rw [hc]
      rw [h1, ih (n - (plen M q).toNat) (by omega)]
      congr 1
      conv => rhs; rw [e]
      rw [Nat.add_mod_left]
theorem cl_P (hM : wfM M) {q : Int} (hq : isP q) (hc : cl M q) (n : Nat) : isP (it M q n) := by
  obtain ⟨l1, l2, l3⟩ := plen_ok hM hq
  rw [cl_cyc hM hq hc n]
  have : n % (plen M q).toNat < (plen M q).toNat := Nat.mod_lt _ (by omega)
  exact (l3 _ (by omega)).1
theorem cl_on (hM : wfM M) {q : Int} (hq : isP q) (hc : cl M q) (n : Nat) : onp M q (it M q n) := by
  obtain ⟨l1, l2, l3⟩ := plen_ok hM hq
  have : n % (plen M q).toNat < (plen M q).toNat := Nat.mod_lt _ (by omega)
  exact ⟨n % (plen M q).toNat, by omega, (cl_cyc hM hq hc n).symm⟩
theorem on_P (hM : wfM M) {q p : Int} (hq : isP q) (h : onp M q p) : isP p := by
  obtain ⟨j, a, rfl⟩ := h
  exact ((plen_ok hM hq).2.2 j a).1
/-- what lies on a ring is on the same ring -/
theorem on_cl (hM : wfM M) {q p : Int} (hq : isP q) (hc : cl M q) (h : onp M q p) : cl M p ∧ onp M p q := by
  have hp := on_P hM hq h
  obtain ⟨j, a, rfl⟩ := h
  obtain ⟨l1, l2, l3⟩ := plen_ok hM hp
  have hcl : cl M (it M q j) := by
    refine l2.resolve_left ?_
    rw [it_add]
    have := (cl_P hM hq hc (j + (plen M (it M q j)).toNat)).1
    omega
  refine ⟨hcl, ?_⟩
  have e := cl_on hM hp hcl ((plen M q).toNat - j)
  rw [it_add, show j + ((plen M q).toNat - j) = (plen M q).toNat from by omega] at e
  unfold cl at hc
  rw [hc] at e
  exact e
theorem inj_back (hM : wfM M) : ∀ (i : Nat) (a b : Int), (∀ l, l ≤ i → isP (it M a l)) → (∀ l, l ≤ i → isP (it M b l)) → it M a i = it M b i → a = b
  | 0, _, _, _, _, h => h
  | i + 1, a, b, ha, hb, h => inj_back hM i a b (fun l q => ha l (by omega)) (fun l q => hb l (by omega)) (nxr_inj hM (ha i (by omega)) (hb i (by omega)) h (ha (i + 1) (by omega)).1)
/-- a path that comes to a ring is on it -/
theorem on_back (hM : wfM M) {r q : Int} (hr : isP r) (h : onp M r q) (hc : cl M q) : onp M q r := by
  have hq := on_P hM hr h
  obtain ⟨i, a, e⟩ := h
  obtain ⟨l1, l2, l3⟩ := plen_ok hM hq
  obtain ⟨-, -, m3⟩ := plen_ok hM hr
  have hle : i ≤ i * (plen M q).toNat := Nat.le_mul_of_pos_right i (by omega)
  have e2 : it M q (i * (plen M q).toNat) = q := by rw [cl_cyc hM hq hc, Nat.mul_mod_left]; rfl
  have e3 : it M q (i * (plen M q).toNat - i) = r := by
    refine inj_back hM i _ _ (fun l b => ?_) (fun l b => (m3 l (by omega)).1) ?_
    · rw [it_add]; exact cl_P hM hq hc _
    · rw [it_add, show i * (plen M q).toNat - i + i = i * (plen M q).toNat from by omega, e2]
      exact e.symm
  rw [← e3]
  exact cl_on hM hq hc _
theorem on_tr (hM : wfM M) {q p s : Int} (hq : isP q) (hc : cl M q) (h1 : onp M q p) (h2 : onp M p s) : onp M q s := by
  obtain ⟨j, a, rfl⟩ := h1
  obtain ⟨l, b, rfl⟩ := h2
  rw [it_add]
  exact cl_on hM hq hc _
theorem on_F (hM : wfM M) {q p : Int} (hq : isP q) (hf : isF M (q / 4)) (h : onp M q p) : isF M (p / 4) := by
  obtain ⟨j, a, rfl⟩ := h
  obtain ⟨-, -, l3⟩ := plen_ok hM hq
  cases j with
  | zero => exact hf
  | succ j =>
    have h1 := (l3 j (by omega)).1
    have h2 := (l3 (j + 1) a).1
    have h2 : 0 ≤ nxr M (it M q j) := h2.1
    rcases nxr_R hM h1 with c | c
    · omega
    · exact c.2.2.2.1
theorem on_self (hM : wfM M) {q : Int} (hq : isP q) : onp M q q := ⟨0, by have := (plen_ok hM hq).1; omega, rfl⟩
end RGP
/-- the least place of a ring -/
def rg0 (M : Int → Int) (r : Int) : Prop := isF M (r / 4) ∧ cl M r ∧ ∀ p, onp M r p → r ≤ p
noncomputable def rgB (M : Int → Int) (r : Int) : Bool := @decide (rg0 M r) (Classical.propDecidable _)
abbrev rg (M : Int → Int) (r : Int) : Prop := rgB M r = true
theorem rg_iff {M : Int → Int} {r : Int} : rg M r ↔ rg0 M r := by
  unfold rg rgB
  exact @decide_eq_true_iff (rg0 M r) (Classical.propDecidable _)
/-- what is marked when the places below r were looked at -/
def GI (M : Int → Int) (r : Int) (g : Int → Int) : Prop := (∀ p, isP p → g p ≠ 0 → ∃ r', 0 ≤ r' ∧ r' < r ∧ onp M r' p) ∧ ∀ r', 0 ≤ r' → r' < r → isF M (r' / 4) → cl M r' → ∀ p, onp M r' p → g p ≠ 0
theorem GI.rg {M : Int → Int} (hM : wfM M) {r : Int} {g : Int → Int} (h : GI M r g) (hr : isP r) (hf : isF M (r / 4)) (hc : cl M r) : g r = 0 ↔ rg M r := by
  rw [rg_iff]
  constructor
  · intro h0
    refine ⟨hf, hc, fun p hp => Classical.byContradiction (fun q => ?_)⟩
    have h1 := on_cl hM hr hc hp
    exact h.2 p (on_P hM hr hp).1 (by omega) (on_F hM hr hf hp) h1.1 r h1.2 h0
  · intro hg
    refine Classical.byContradiction (fun q => ?_)
    obtain ⟨r', a, b, c⟩ := h.1 r hr q
    have := hg.2.2 r' (on_back hM ⟨a, by omega⟩ c hc)
    omega
/-- nothing is marked at r: it was marked, or has no field, or is no ring's -/
theorem GI.skip {M : Int → Int} (hM : wfM M) {r : Int} {g : Int → Int} (h : GI M r g) (hr : isP r) (hq : g r ≠ 0 ∨ ¬ isF M (r / 4) ∨ ¬ cl M r) : GI M (r + 1) g := by
  refine ⟨fun p a b => ?_, fun r' a b hf hc p hp => ?_⟩
  · obtain ⟨r', c, d, e⟩ := h.1 p a b
    exact ⟨r', c, by omega, e⟩
  · by_cases e : r' = r
    · subst e
      rcases hq with c | c | c
      · obtain ⟨r2, x, y, z⟩ := h.1 r' hr c
        have h2 : isP r2 := ⟨x, by omega⟩
        have h3 := on_back hM h2 z hc
        have h4 := on_cl hM hr hc h3
        exact h.2 r2 x y (on_F hM hr hf h3) h4.1 p (on_tr hM h2 h4.1 h4.2 hp)
      · exact absurd hf c
      · exact absurd hc c
    · exact h.2 r' a (by omega) hf hc p hp
/-- the path of r is marked -/
theorem GI.mark {M : Int → Int} {r : Int} {g g' : Int → Int} (h : GI M r g) (hr : isP r) (h1 : ∀ p, isP p → g' p ≠ 0 → g p ≠ 0 ∨ onp M r p) (h2 : ∀ p, g p ≠ 0 → g' p ≠ 0) (h3 : ∀ p, onp M r p → g' p ≠ 0) : GI M (r + 1) g' := by
  refine ⟨fun p a b => ?_, fun r' a b hf hc p hp => ?_⟩
  · rcases h1 p a b with c | c
    · obtain ⟨r', c, d, e⟩ := h.1 p a c
      exact ⟨r', c, by omega, e⟩
    · exact ⟨r, hr.1, by omega, c⟩
  · by_cases e : r' = r
    · subst e; exact h3 p hp
    · exact h2 p (h.2 r' a (by omega) hf hc p hp)
/-- the rings told so far: how many, their least places, their sizes -/
def LI (M : Int → Int) (r c : Int) (la sa : Int → Int) : Prop := c = cn (rg M) 0 r.toNat ∧ ∀ r', 0 ≤ r' → r' < r → rg M r' → la (cn (rg M) 0 r'.toNat) = r' ∧ sa (cn (rg M) 0 r'.toNat) = plen M r'
theorem cn_end (p : Int → Prop) [DecidablePred p] : ∀ (n : Nat) (i : Int), cn p i (n + 1) = cn p i n + (if p (i + n) then 1 else 0)
  | 0, i => by show (if p i then 1 else 0) + 0 = 0 + (if p (i + 0) then 1 else 0); rw [Int.add_zero, Int.add_zero, Int.zero_add]
  | n + 1, i => by
    have h := cn_end p n (i + 1)
    show (if p i then 1 else 0) + cn p (i + 1) (n + 1) = (if p i then 1 else 0) + cn p (i + 1) n + _
    rw [h, show i + 1 + (n : Int) = i + ((n + 1 : Nat) : Int) from by omega]
    omega
theorem cn_mono (p : Int → Prop) [DecidablePred p] (n : Nat) : ∀ m, cn p 0 n ≤ cn p 0 (n + m)
  | 0 => Int.le_refl _
  | m + 1 => by
    have h := cn_mono p n m
    have h2 := cn_end p (n + m) 0
    rw [show n + (m + 1) = n + m + 1 from rfl, h2]
    split <;> omega
theorem LI.skip {M : Int → Int} {r c : Int} {la sa : Int → Int} (h : LI M r c la sa) (h0 : 0 ≤ r) (hq : ¬ rg M r) : LI M (r + 1) c la sa := by
  refine ⟨?_, fun r' a b hg => h.2 r' a (by have : r' ≠ r := fun e => hq (e ▸ hg); omega) hg⟩
  rw [h.1, show (r + 1).toNat = r.toNat + 1 from by omega, cn_end, if_neg (by rw [Int.zero_add, Int.toNat_of_nonneg h0]; exact hq), Int.add_zero]
theorem LI.tell {M : Int → Int} {r c : Int} {la sa : Int → Int} (h : LI M r c la sa) (h0 : 0 ≤ r) (hq : rg M r) : LI M (r + 1) (c + 1) (updI la c r) (updI sa c (plen M r)) := by
  have e1 : cn (rg M) 0 (r.toNat + 1) = cn (rg M) 0 r.toNat + 1 := by
    rw [cn_end, if_pos (by rw [Int.zero_add, Int.toNat_of_nonneg h0]; exact hq)]
  refine ⟨?_, fun r' a b hg => ?_⟩
  · rw [h.1, show (r + 1).toNat = r.toNat + 1 from by omega, e1]
  · unfold updI
    by_cases e : r' = r
    · subst e
      rw [← h.1, if_pos rfl, if_pos rfl]
      exact ⟨rfl, rfl⟩
    · have e2 : cn (rg M) 0 (r'.toNat + 1) = cn (rg M) 0 r'.toNat + 1 := by
        rw [cn_end, if_pos (by rw [Int.zero_add, Int.toNat_of_nonneg a]; exact hg)]
      have h3 := cn_mono (rg M) (r'.toNat + 1) (r.toNat - (r'.toNat + 1))
      rw [show r'.toNat + 1 + (r.toNat - (r'.toNat + 1)) = r.toNat from by omega] at h3
      have h4 := h.1
      rw [if_neg (by omega), if_neg (by omega)]
      exact h.2 r' a (by omega) hg
