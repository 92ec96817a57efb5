-- THE SPREAD of a ray: the pure side
/-- a floor as it must be -/
def wfB (M : Int → Int) : Prop := (1 ≤ M 0 ∧ M 0 ≤ 9) ∧ (1 ≤ M 1 ∧ M 1 ≤ 9)
theorem wfM.b {M : Int → Int} (h : wfM M) : wfB M := ⟨h.1, h.2.1⟩
theorem nxf_B {M : Int → Int} (hM : wfB M) {f w : Int} (h0 : 0 ≤ f) (h1 : f < 81) : nxf M f w = -1 ∨ (isF M (nxf M f w) ∧ nxf M f w / 9 = f / 9 + dy w ∧ nxf M f w % 9 = f % 9 + dx w) := by
  obtain ⟨a, b⟩ := hM
  unfold nxf
  generalize dx w = d
  generalize dy w = e
  split
  · right; omega
  · left; rfl
def nx1 (M : Int → Int) (r : Int) : Int := nxf M (r / 4) (r % 4)
/-- b is a place to which the ray, or a part of it, goes from a -/
def sucs (M : Int → Int) (a b : Int) : Prop := 0 ≤ nx1 M a ∧ ¬ stopsP M (nx1 M a) ∧ (b = 4 * nx1 M a + wout M (nx1 M a) (a % 4) ∨ (M (4 + nx1 M a) = 2 ∧ b = 4 * nx1 M a + a % 4))
/-- the smallest set of places that holds r and where the ray goes from it -/
def rch (M : Int → Int) (r p : Int) : Prop := ∀ S : Int → Prop, S r → (∀ a b, S a → sucs M a b → S b) → S p
/-- f is a field to which it comes; at which it ends -/
def cmt (M : Int → Int) (r f : Int) : Prop := ∃ a, rch M r a ∧ nx1 M a = f ∧ ¬ stopsP M f
def ens (M : Int → Int) (r f : Int) : Prop := ∃ a, rch M r a ∧ nx1 M a = f ∧ stopsP M f
theorem rch_self (M : Int → Int) (r : Int) : rch M r r := fun _ h _ => h
theorem rch_step {M : Int → Int} {r a b : Int} (h : rch M r a) (hs : sucs M a b) : rch M r b := fun S h1 h2 => h2 a b (h S h1 h2) hs
theorem rch_tr {M : Int → Int} {r a b : Int} (h : rch M r a) (g : rch M a b) : rch M r b := g (rch M r) h (fun _ _ => rch_step)
theorem sucs_P {M : Int → Int} (hM : wfB M) {a b : Int} (ha : isP a) (h : sucs M a b) : isP b ∧ isF M (b / 4) ∧ b / 4 = nx1 M a := by
  obtain ⟨h1, h2, h3⟩ := h
  have h4 := nxf_B hM (f := a / 4) (w := a % 4) (by omega) (by omega)
  have hw := wout_W (M := M) (f := nx1 M a) (w := a % 4) (by omega)
  unfold nx1 at *
  rcases h4 with h4 | h4
  · omega
  · rcases h3 with h3 | h3
    · have e : b / 4 = nxf M (a / 4) (a % 4) := by omega
      rw [e]
      exact ⟨by omega, h4.1, rfl⟩
    · have e : b / 4 = nxf M (a / 4) (a % 4) := by omega
      rw [e]
      exact ⟨by omega, h4.1, rfl⟩
theorem rch_P {M : Int → Int} (hM : wfB M) {r p : Int} (hr : isP r) (hf : isF M (r / 4)) (h : rch M r p) : isP p ∧ isF M (p / 4) :=
  h (fun p => isP p ∧ isF M (p / 4)) ⟨hr, hf⟩ (fun _ _ ha hs => ⟨(sucs_P hM ha.1 hs).1, (sucs_P hM ha.1 hs).2.1⟩)
theorem nodup_bd {c : Nat} {g : Nat → Int} (h : ∀ i, i < c → isP (g i)) (hd : ∀ i j, i < j → j < c → g i ≠ g j) : c ≤ 324 := by
  refine Classical.byContradiction (fun q => ?_)
  obtain ⟨i, j, a, b, e⟩ := php 324 g (fun i hi => h i (by omega))
  exact hd i j a (by omega) e
/-- places told so far, c of them; from the first i of them the ray was followed -/
def WL (M : Int → Int) (r : Int) (i c : Nat) (g : Nat → Int) : Prop := (∀ j, j < c → rch M r (g j)) ∧ (∀ j l, j < l → l < c → g j ≠ g l) ∧ ∀ j, j < i → ∀ b, sucs M (g j) b → ∃ l, l < c ∧ g l = b
theorem WL.all {M : Int → Int} {r : Int} {c : Nat} {g : Nat → Int} (h : WL M r c c g) (h3 : ∃ j, j < c ∧ g j = r) (p : Int) : rch M r p ↔ ∃ j, j < c ∧ g j = p := by
  constructor
  · intro hp
    refine hp (fun p => ∃ j, j < c ∧ g j = p) h3 (fun a b ha hs => ?_)
    obtain ⟨j, h1, rfl⟩ := ha
    exact h.2.2 j h1 b hs
  · intro ⟨j, h1, e⟩
    rw [← e]
    exact h.1 j h1
theorem WL.bd {M : Int → Int} (hM : wfB M) {r : Int} (hr : isP r) (hf : isF M (r / 4)) {i c : Nat} {g : Nat → Int} (h : WL M r i c g) : c ≤ 324 := nodup_bd (fun j hj => (rch_P hM hr hf (h.1 j hj)).1) h.2.1
theorem WL.nil (M : Int → Int) (r : Int) (g : Nat → Int) : WL M r 0 0 g := ⟨fun j hj => by omega, fun j l a b => by omega, fun j hj => by omega⟩
/-- one more place -/
theorem WL.push {M : Int → Int} {r : Int} {i c : Nat} {g g' : Nat → Int} (h : WL M r i c g) (hi : i ≤ c) {p : Int} (hp : rch M r p) (hn : ∀ j, j < c → g j ≠ p) (h1 : ∀ j, j < c → g' j = g j) (h2 : g' c = p) : WL M r i (c + 1) g' := by
  obtain ⟨a1, a2, a5⟩ := h
  refine ⟨fun j hj => ?_, fun j l x y => ?_, fun j hj b hb => ?_⟩
  · by_cases e : j = c
    · rw [e, h2]; exact hp
    · rw [h1 j (by omega)]; exact a1 j (by omega)
  · by_cases e : l = c
    · rw [e, h2, h1 j (by omega)]; exact hn j (by omega)
    · rw [h1 j (by omega), h1 l (by omega)]; exact a2 j l x (by omega)
  · rw [h1 j (by omega)] at hb
    obtain ⟨l, x, y⟩ := a5 j hj b hb
    exact ⟨l, by omega, by rw [h1 l x]; exact y⟩
theorem WL.next {M : Int → Int} {r : Int} {i c : Nat} {g : Nat → Int} (h : WL M r i c g) (hs : ∀ b, sucs M (g i) b → ∃ l, l < c ∧ g l = b) : WL M r (i + 1) c g := by
  refine ⟨h.1, h.2.1, fun j hj b hb => ?_⟩
  by_cases e : j = i
  · subst e; exact hs b hb
  · exact h.2.2 j (by omega) b hb
