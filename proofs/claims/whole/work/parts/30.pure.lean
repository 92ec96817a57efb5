-- THE MAZE AS A FUNCTION: M 0 wide, M 1 deep, M 2 lamps, M (4+f) kind, M (85+f) lean or colour, M (166+f) open, M (247+3l) (248+3l) (249+3l) a lamp's field, way, colour
abbrev isF (M : Int → Int) (f : Int) : Prop := 0 ≤ f ∧ f < 81 ∧ f % 9 < M 0 ∧ f / 9 < M 1
abbrev isW (w : Int) : Prop := 0 ≤ w ∧ w < 4
abbrev isCol (c : Int) : Prop := 0 ≤ c ∧ c < 3
abbrev isKd (k : Int) : Prop := 0 ≤ k ∧ k < 5
abbrev isMir (k : Int) : Prop := k = 1 ∨ k = 2 ∨ k = 4
abbrev isOf (k o : Int) : Prop := (k = 3 ∧ isCol o) ∨ (isMir k ∧ (o = 0 ∨ o = 1)) ∨ (¬ k = 3 ∧ ¬ isMir k ∧ o = 0)
def dx (w : Int) : Int := if w = 0 then 1 else if w = 2 then -1 else 0
def dy (w : Int) : Int := if w = 1 then 1 else if w = 3 then -1 else 0
def nxf (M : Int → Int) (f w : Int) : Int := if 0 ≤ f % 9 + dx w ∧ f % 9 + dx w < M 0 ∧ 0 ≤ f / 9 + dy w ∧ f / 9 + dy w < M 1 then 9 * (f / 9 + dy w) + (f % 9 + dx w) else -1
abbrev stopsP (M : Int → Int) (f : Int) : Prop := M (4 + f) = 0 ∨ (M (4 + f) = 3 ∧ M (166 + f) = 0)
abbrev walkP (M : Int → Int) (f : Int) : Prop := M (4 + f) = -1 ∨ (M (4 + f) = 3 ∧ M (166 + f) = 1)
def trn (w l : Int) : Int := if l = 0 then 3 - w else if w < 2 then 1 - w else 5 - w
def wout (M : Int → Int) (f w : Int) : Int := if isMir (M (4 + f)) then trn w (M (85 + f)) else w
def nxr (M : Int → Int) (r : Int) : Int := if nxf M (r / 4) (r % 4) < 0 ∨ stopsP M (nxf M (r / 4) (r % 4)) then -1 else 4 * nxf M (r / 4) (r % 4) + wout M (nxf M (r / 4) (r % 4)) (r % 4)
def lay (M : Int → Int) (f k o : Int) : Int → Int := fun j => if j = 4 + f then k else if j = 85 + f then o else if j = 166 + f then 0 else M j
/-- the first of i, i+1, .. (n of them) that p says, else -1 -/
def ff (p : Int → Prop) [DecidablePred p] : Int → Nat → Int
  | _, 0 => -1
  | i, n + 1 => if p i then i else ff p (i + 1) n
/-- how many of i, i+1, .. (n of them) p says -/
def cn (p : Int → Prop) [DecidablePred p] : Int → Nat → Int
  | _, 0 => 0
  | i, n + 1 => (if p i then 1 else 0) + cn p (i + 1) n
/-- a sum -/
def sm (g : Int → Int) : Int → Nat → Int
  | _, 0 => 0
  | i, n + 1 => g i + sm g (i + 1) n
theorem cn_bd (p : Int → Prop) [DecidablePred p] : ∀ (i : Int) (n : Nat), 0 ≤ cn p i n ∧ cn p i n ≤ n
  | _, 0 => ⟨Int.le_refl 0, Int.le_refl 0⟩
  | i, n + 1 => by
    have h := cn_bd p (i + 1) n
    unfold cn
    split <;> omega
theorem cn_congr (p q : Int → Prop) [DecidablePred p] [DecidablePred q] : ∀ (i : Int) (n : Nat), (∀ j, i ≤ j → j < i + n → (p j ↔ q j)) → cn p i n = cn q i n
  | _, 0, _ => rfl
  | i, n + 1, h => by
    unfold cn
    rw [cn_congr p q (i + 1) n (fun j h1 h2 => h j (by omega) (by omega))]
    have h0 := h i (Int.le_refl i) (by omega)
    by_cases hp : p i
    · rw [if_pos hp, if_pos (h0.mp hp)]
    · rw [if_neg hp, if_neg (fun hq => hp (h0.mpr hq))]
theorem sm_congr (f g : Int → Int) : ∀ (i : Int) (n : Nat), (∀ j, i ≤ j → j < i + n → f j = g j) → sm f i n = sm g i n
  | _, 0, _ => rfl
  | i, n + 1, h => by
    unfold sm
    rw [sm_congr f g (i + 1) n (fun j h1 h2 => h j (by omega) (by omega)), h i (Int.le_refl i) (by omega)]
theorem sm_bd (g : Int → Int) (b : Int) (hb : 0 ≤ b) : ∀ (i : Int) (n : Nat), (∀ j, i ≤ j → j < i + n → 0 ≤ g j ∧ g j ≤ b) → 0 ≤ sm g i n ∧ sm g i n ≤ b * n
  | _, 0, _ => by simp [sm]
  | i, n + 1, h => by
    have h1 := sm_bd g b hb (i + 1) n (fun j h1 h2 => h j (by omega) (by omega))
    have h2 := h i (Int.le_refl i) (by omega)
    unfold sm
    have h3 : b * ((n + 1 : Nat) : Int) = b * n + b := by rw [Int.natCast_add, Int.mul_add]; simp
    omega
theorem ff_bd (p : Int → Prop) [DecidablePred p] : ∀ (i : Int) (n : Nat), ff p i n = -1 ∨ (i ≤ ff p i n ∧ ff p i n < i + n)
  | _, 0 => Or.inl rfl
  | i, n + 1 => by
    unfold ff
    split
    · right; omega
    · rcases ff_bd p (i + 1) n with h | h
      · left; exact h
      · right; omega
theorem ff_congr (p q : Int → Prop) [DecidablePred p] [DecidablePred q] : ∀ (i : Int) (n : Nat), (∀ j, i ≤ j → j < i + n → (p j ↔ q j)) → ff p i n = ff q i n
  | _, 0, _ => rfl
  | i, n + 1, h => by
    unfold ff
    rw [ff_congr p q (i + 1) n (fun j h1 h2 => h j (by omega) (by omega))]
    have h0 := h i (Int.le_refl i) (by omega)
    by_cases hp : p i
    · rw [if_pos hp, if_pos (h0.mp hp)]
    · rw [if_neg hp, if_neg (fun hq => hp (h0.mpr hq))]
/-- the lamp at a field, -1 -/
def lampAt (M : Int → Int) (f : Int) : Int := ff (fun l => M (247 + 3 * l) = f) 0 (M 2).toNat
def things (M : Int → Int) : Int := cn (fun f => M (4 + f) ≠ -1) 0 81
def ctk (M : Int → Int) (k : Int) : Int := cn (fun f => M (4 + f) = k) 0 81
def ctOpen (M : Int → Int) : Int := sm (fun f => M (166 + f)) 0 81
theorem things_eq (M : Int → Int) : things M = 81 - ctk M (-1) := by
  have : ∀ (i : Int) (n : Nat), cn (fun f => M (4 + f) ≠ -1) i n = n - cn (fun f => M (4 + f) = -1) i n := by
    intro i n
    induction n generalizing i with
    | zero => rfl
    | succ n ih =>
      unfold cn
      rw [ih (i + 1)]
      by_cases h : M (4 + i) = -1
      · rw [if_neg (fun q => q h), if_pos h]; omega
      · rw [if_pos h, if_neg h]; omega
  exact this 0 81
/-- a maze of the class, at cell k -/
def MzC (σ : Sg) (k : Nat) (M : Int → Int) : Prop := σ k 0 = M 0 ∧ σ k 1 = M 1 ∧ σ k 5 = M 2 ∧ (∀ f, 0 ≤ f → f < 81 → σ (k + 1) f = M (4 + f) ∧ σ (k + 2) f = M (85 + f) ∧ σ (k + 3) f = M (166 + f)) ∧ ∀ l, 0 ≤ l → l < 6 → σ (k + 4) l = M (247 + 3 * l) ∧ σ (k + 5) l = M (248 + 3 * l) ∧ σ (k + 6) l = M (249 + 3 * l)
/-- cells from lo to hi alone may differ -/
def Fr (lo hi : Nat) (σ σ' : Sg) : Prop := ∀ k, (k < lo ∨ hi < k) → σ' k = σ k
theorem Fr.rf {lo hi : Nat} {σ : Sg} : Fr lo hi σ σ := fun _ _ => rfl
theorem Fr.tr {lo hi : Nat} {σ σ1 σ2 : Sg} (h1 : Fr lo hi σ σ1) (h2 : Fr lo hi σ1 σ2) : Fr lo hi σ σ2 := fun k h => (h2 k h).trans (h1 k h)
theorem Fr.wide {lo hi lo' hi' : Nat} {σ σ' : Sg} (h : Fr lo hi σ σ') (h1 : lo' ≤ lo) (h2 : hi ≤ hi') : Fr lo' hi' σ σ' := fun k hk => h k (by omega)
theorem Fr.st {lo hi k : Nat} {σ : Sg} {i x : Int} (h1 : lo ≤ k) (h2 : k ≤ hi) : Fr lo hi σ (st σ k i x) := fun j hj => st_off σ i x (by omega)
theorem MzC.fr {σ σ' : Sg} {k lo hi : Nat} {M : Int → Int} (h : MzC σ k M) (hf : Fr lo hi σ σ') (hd : k + 6 < lo ∨ hi < k) : MzC σ' k M := by
  unfold MzC at *
  rw [hf k (by omega), hf (k + 1) (by omega), hf (k + 2) (by omega), hf (k + 3) (by omega), hf (k + 4) (by omega), hf (k + 5) (by omega), hf (k + 6) (by omega)]
  exact h
/-- a maze as it must be -/
def wfM (M : Int → Int) : Prop := (1 ≤ M 0 ∧ M 0 ≤ 9) ∧ (1 ≤ M 1 ∧ M 1 ≤ 9) ∧ (0 ≤ M 2 ∧ M 2 ≤ 6) ∧ (∀ f, 0 ≤ f → f < 81 → (-1 ≤ M (4 + f) ∧ M (4 + f) < 5) ∧ isOf (M (4 + f)) (M (85 + f)) ∧ (0 ≤ M (166 + f) ∧ M (166 + f) ≤ 1) ∧ (M (166 + f) = 1 → M (4 + f) = 3) ∧ (¬ isF M f → M (4 + f) = -1)) ∧ (∀ l, 0 ≤ l → l < M 2 → isF M (M (247 + 3 * l)) ∧ isW (M (248 + 3 * l)) ∧ isCol (M (249 + 3 * l)) ∧ M (4 + M (247 + 3 * l)) = -1) ∧ ctk M 4 ≤ 10
theorem xl1 (X : Cx) : xl X 1 = 5 := rfl
theorem xl2 (X : Cx) : xl X 2 = 4 := rfl
theorem xl3 (X : Cx) : xl X 3 = 4 := rfl
def kab (i : Int) : Int := if i = 0 then -1 else if i = 2 ∨ i = 4 then 1 else 0
theorem xf1 (X : Cx) (i : Int) : xf X 1 i = kab i := rfl
theorem xf2 (X : Cx) (i : Int) : xf X 2 i = dx i := rfl
theorem xf3 (X : Cx) (i : Int) : xf X 3 i = dy i := rfl
theorem dx_bd (w : Int) : -1 ≤ dx w ∧ dx w ≤ 1 := by unfold dx; split <;> (try split) <;> omega
theorem dy_bd (w : Int) : -1 ≤ dy w ∧ dy w ≤ 1 := by unfold dy; split <;> (try split) <;> omega
