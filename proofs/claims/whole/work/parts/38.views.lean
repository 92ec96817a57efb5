-- THE ABSTRACT STATE: maze, past (how many, which), findings, sheets (bits, sizes, numbers as they were put)
abbrev AT : Type := (Int → Int) × Int × (Int → Int → Int) × Int × (Int → Int) × (Int → Int) × (Int → Int)
def msk (b v : Int) : Int := if b = 8 then band v 255 else if b = 16 then band v 65535 else v
def sxt (b v : Int) : Int := if b = 8 then b2b v else if b = 16 then b2s v else v
def ShC (σ : Sg) (sb sz sv : Int → Int) : Prop := ∀ s, 0 ≤ s → s < 4 → σ 209 s = sb s ∧ σ 210 s = sz s ∧ ∀ i, 0 ≤ i → i < 30 → σ 211 (30 * s + i) = msk (sb s) (sv (30 * s + i))
def ShR (σ : Sg) (sb sz sv : Int → Int) : Prop := ∀ s, 0 ≤ s → s < 4 → σ 215 s = sb s ∧ σ 216 s = sz s ∧ ∀ i, 0 ≤ i → i < 30 → σ 217 (30 * s + i) = sxt (sb s) (sv (30 * s + i))
/-- a Spread of the class, at cell k: its marks are never above its mark -/
def SpOK (σ : Sg) (k : Nat) (B : Int) : Prop := (0 ≤ σ k 5 ∧ σ k 5 ≤ B) ∧ (∀ p, 0 ≤ p → p < 324 → σ (k + 2) p ≤ σ k 5) ∧ ∀ f, 0 ≤ f → f < 81 → σ (k + 3) f ≤ σ k 5 ∧ σ (k + 4) f ≤ σ k 5
theorem SpOK.fr {σ σ' : Sg} {k lo hi : Nat} {B B' : Int} (h : SpOK σ k B) (hf : Fr lo hi σ σ') (hd : k + 5 < lo ∨ hi < k) (hB : B ≤ B') : SpOK σ' k B' := by
  unfold SpOK at *
  rw [hf k (by omega), hf (k + 2) (by omega), hf (k + 3) (by omega), hf (k + 4) (by omega)]
  exact ⟨by omega, h.2⟩
def CV (σ : Sg) (A : AT) (B : Int) : Prop := MzC σ 1 A.1 ∧ PastC σ A.2.1 A.2.2.1 ∧ σ 0 11 = A.2.2.2.1 ∧ ShC σ A.2.2.2.2.1 A.2.2.2.2.2.1 A.2.2.2.2.2.2 ∧ SpOK σ 159 B ∧ SpOK σ 173 B ∧ SpOK σ 187 B ∧ SpOK σ 201 B
def MV (σ : Sg) (A : AT) : Prop := MzR σ A.1 ∧ PastR σ A.2.1 A.2.2.1 ∧ σ 212 6 = A.2.2.2.1 ∧ ShR σ A.2.2.2.2.1 A.2.2.2.2.2.1 A.2.2.2.2.2.2
/-- a state as it must be -/
def WA (A : AT) : Prop := wfM A.1 ∧ (∀ i, 0 ≤ i → i < A.2.1 → wfM (A.2.2.1 i)) ∧ (0 ≤ A.2.1 ∧ A.2.1 ≤ 20) ∧ (0 ≤ A.2.2.2.1 ∧ A.2.2.2.1 ≤ 1000) ∧ ∀ s, 0 ≤ s → s < 4 → (A.2.2.2.2.1 s = 0 ∨ A.2.2.2.2.1 s = 8 ∨ A.2.2.2.2.1 s = 16 ∨ A.2.2.2.2.1 s = 32) ∧ (0 ≤ A.2.2.2.2.2.1 s ∧ A.2.2.2.2.2.1 s ≤ 30)
/-- a finding is told -/
def fnA (A : AT) (v : Int) : Int × AT := (v, (A.1, A.2.1, A.2.2.1, A.2.2.2.1 + 1, A.2.2.2.2))
/-- an act: the maze is kept, and becomes another -/
def kpA (A : AT) (M : Int → Int) : AT := (M, kpc A.2.1, kpP A.2.1 A.2.2.1 A.1, A.2.2.2.1, A.2.2.2.2)
/-- what a call of the class, and of the reference, must come to -/
def PC (σ : Sg) (B : Int) (o : Int × AT) : Option AV → Sg → Prop := fun r σ' => r = some (vi o.1) ∧ CV σ' o.2 (B + 5000) ∧ Fr 0 211 σ σ'
def PM (σ : Sg) (o : Int × AT) : Option AV → Sg → Prop := fun r σ' => r = some (vi o.1) ∧ MV σ' o.2 ∧ Fr 212 230 σ σ'
theorem MzC.cg {σ σ' : Sg} {k : Nat} {M : Int → Int} (h : MzC σ k M) (hf : ∀ j, k ≤ j → j ≤ k + 6 → σ' j = σ j) : MzC σ' k M := by
  unfold MzC at *
  rw [hf k (by omega) (by omega), hf (k + 1) (by omega) (by omega), hf (k + 2) (by omega) (by omega), hf (k + 3) (by omega) (by omega), hf (k + 4) (by omega) (by omega), hf (k + 5) (by omega) (by omega), hf (k + 6) (by omega) (by omega)]
  exact h
theorem PastC.cg {σ σ' : Sg} {c : Int} {P : Int → Int → Int} (h : PastC σ c P) (hf : ∀ j, 15 ≤ j → j ≤ 156 → σ' j = σ j) : PastC σ' c P := by
  obtain ⟨h1, h2, h3, h4⟩ := h
  refine ⟨by rw [hf 15 (by omega) (by omega)]; exact h1, by rw [hf 15 (by omega) (by omega)]; exact h2, h3, fun i a b => ?_⟩
  rw [hf 15 (by omega) (by omega)]
  exact (h4 i a b).cg (fun j a b => hf j (by omega) (by omega))
theorem ShC.cg {σ σ' : Sg} {sb sz sv : Int → Int} (h : ShC σ sb sz sv) (hf : ∀ j, 209 ≤ j → j ≤ 211 → σ' j = σ j) : ShC σ' sb sz sv := by
  unfold ShC at *
  rw [hf 209 (by omega) (by omega), hf 210 (by omega) (by omega), hf 211 (by omega) (by omega)]
  exact h
theorem SpOK.cg {σ σ' : Sg} {k : Nat} {B B' : Int} (h : SpOK σ k B) (hf : ∀ j, k ≤ j → j ≤ k + 5 → σ' j = σ j) (hB : B ≤ B') : SpOK σ' k B' := by
  unfold SpOK at *
  rw [hf k (by omega) (by omega), hf (k + 2) (by omega) (by omega), hf (k + 3) (by omega) (by omega), hf (k + 4) (by omega) (by omega)]
  exact ⟨by omega, h.2⟩
/-- the class's state, where cells 1 .. 7, 15 .. 156 and others may have changed -/
theorem CV.up {σ σ' : Sg} {A A' : AT} {B B' : Int} (h : CV σ A B) (hB : B ≤ B') (h1 : MzC σ' 1 A'.1) (h2 : PastC σ' A'.2.1 A'.2.2.1) (h3 : σ' 0 11 = A'.2.2.2.1) (h4 : A'.2.2.2.2 = A.2.2.2.2) (hf : ∀ j, 159 ≤ j → j ≤ 211 → σ' j = σ j) : CV σ' A' B' := by
  obtain ⟨-, -, -, g4, g5, g6, g7, g8⟩ := h
  refine ⟨h1, h2, h3, ?_, g5.cg (fun j a b => hf j (by omega) (by omega)) hB, g6.cg (fun j a b => hf j (by omega) (by omega)) hB, g7.cg (fun j a b => hf j (by omega) (by omega)) hB, g8.cg (fun j a b => hf j (by omega) (by omega)) hB⟩
  rw [h4]
  exact g4.cg (fun j a b => hf j (by omega) (by omega))
theorem CV.fn {σ : Sg} {A : AT} {B : Int} (h : CV σ A B) (v : Int) : CV (st σ 0 11 (σ 0 11 + 1)) (fnA A v).2 (B + 5000) := by
  have e : ∀ j, j ≠ 0 → st σ 0 11 (σ 0 11 + 1) j = σ j := fun j a => st_off _ _ _ a
  refine h.up (by omega) (h.1.cg (fun j a b => e j (by omega))) (h.2.1.cg (fun j a b => e j (by omega))) ?_ rfl (fun j a b => e j (by omega))
  unfold st
  rw [if_pos ⟨rfl, rfl⟩, h.2.2.1]
  rfl
theorem MV.fn {σ : Sg} {A : AT} (h : MV σ A) (v : Int) : MV (st σ 212 6 (σ 212 6 + 1)) (fnA A v).2 := by
  have e : ∀ j, j ≠ 212 → st σ 212 6 (σ 212 6 + 1) j = σ j := fun j a => st_off _ _ _ a
  obtain ⟨g1, g2, g3, g4⟩ := h
  refine ⟨?_, ?_, ?_, ?_⟩
  · intro j a b; rw [e 213 (by omega)]; exact g1 j a b
  · refine ⟨?_, g2.2.1, fun i j a b c d => by rw [e 214 (by omega)]; exact g2.2.2 i j a b c d⟩
    unfold st; rw [if_neg (by omega)]; exact g2.1
  · unfold st; rw [if_pos ⟨rfl, rfl⟩, g3]; rfl
  · intro s a b; rw [e 215 (by omega), e 216 (by omega), e 217 (by omega)]; exact g4 s a b
section FIN
variable {X : Cx} {σ σ0 : Sg} {A : AT} {B : Int} {d mid nx : Nat} {L : List AV} {Q : Option AV → Sg → Prop}
theorem fin_c (v : Int) (hW : WA A) (hV : CV σ A B) (hd : 1 < d) (hQ : ∀ σ', PC σ B (fnA A v) (some (vi v)) σ' → S0 X d mid Q nx L [vi v] σ') : K0 X d mid Q 36 [vr 0, vi v] nx L [] σ := by
  refine K0.use (c_finding v (by rw [hV.2.2.1]; exact ⟨hW.2.2.2.1.2, hW.2.2.2.1.1⟩)) hd (Nat.zero_le _) (fun r σ' _ _ hq => ?_)
  obtain ⟨rfl, rfl⟩ := hq
  exact hQ _ ⟨rfl, hV.fn v, Fr.st (by omega) (by omega)⟩
theorem fin_m (v : Int) (hW : WA A) (hV : MV σ A) (hd : 1 < d) (hQ : ∀ σ', PM σ (fnA A v) (some (vi v)) σ' → S0 X d mid Q nx L [vi v] σ') : K0 X d mid Q 47 [vr 212, vi v] nx L [] σ := by
  refine K0.use (m_finding v (by rw [hV.2.2.1]; exact ⟨hW.2.2.2.1.2, hW.2.2.2.1.1⟩)) hd (Nat.zero_le _) (fun r σ' _ _ hq => ?_)
  obtain ⟨rfl, rfl⟩ := hq
  exact hQ _ ⟨rfl, hV.fn v, Fr.st (by omega) (by omega)⟩
end FIN
-- the acts that change the maze alone
def oFloor (A : AT) (w d : Int) : Int × AT := if (1 ≤ w ∧ w ≤ 9) ∧ (1 ≤ d ∧ d ≤ 9) then (things (rsz A.1 w d) + rsz A.1 w d 2, kpA A (rsz A.1 w d)) else fnA A (-100001)
def oThing (A : AT) (f k o : Int) : Int × AT := if ¬ (isF A.1 f ∧ isKd k ∧ isOf k o) then fnA A (-100001) else if ¬ (A.1 (4 + f) = -1 ∧ lampAt A.1 f < 0) then fnA A (-100007) else if k = 4 ∧ 10 ≤ ctk A.1 4 then fnA A (-100005) else (things (lay A.1 f k o), kpA A (lay A.1 f k o))
def oClear (A : AT) (f : Int) : Int × AT := if ¬ isF A.1 f then fnA A (-100001) else if A.1 (4 + f) = -1 then fnA A (-100006) else (A.1 (4 + f), kpA A (lay A.1 f (-1) 0))
def oAs (A : AT) (f k : Int) : Int × AT := if ¬ (isF A.1 f ∧ isKd k) then fnA A (-100001) else if A.1 (4 + f) = -1 then fnA A (-100006) else if k = A.1 (4 + f) ∨ k = 0 ∨ (k = 1 ∧ isMir (A.1 (4 + f))) then (f, A) else fnA A (-100004)
def oAt (A : AT) (f w : Int) : Int × AT := if ¬ (isF A.1 f ∧ 0 ≤ w ∧ w ≤ 3) then fnA A (-100001) else (if w = 0 then A.1 (4 + f) else if w = 1 then A.1 (85 + f) else if w = 2 then A.1 (166 + f) else lampAt A.1 f, A)
def oLean (A : AT) (f : Int) : Int × AT := if ¬ isF A.1 f then fnA A (-100001) else if A.1 (4 + f) = -1 then fnA A (-100006) else if ¬ isMir (A.1 (4 + f)) then fnA A (-100004) else (1 - A.1 (85 + f), kpA A (flip A.1 f))
def oShut (A : AT) (f : Int) : Int × AT := if ¬ isF A.1 f then fnA A (-100001) else if A.1 (4 + f) = -1 then fnA A (-100006) else if ¬ A.1 (4 + f) = 3 then fnA A (-100004) else (A.1 (166 + f), kpA A (set1 A.1 (166 + f) 0))
def oLamp (A : AT) (f w c : Int) : Int × AT := if ¬ (isF A.1 f ∧ isW w ∧ isCol c) then fnA A (-100001) else if ¬ (A.1 (4 + f) = -1 ∧ lampAt A.1 f < 0) then fnA A (-100007) else if 6 ≤ A.1 2 then fnA A (-100005) else (A.1 2, kpA A (addL A.1 f w c))
def oOut (A : AT) : Int × AT := if A.1 2 = 0 then fnA A (-100006) else (A.1 2 - 1, kpA A (set1 A.1 2 (A.1 2 - 1)))
def oFace (A : AT) (l w : Int) : Int × AT := if ¬ ((0 ≤ l ∧ l < A.1 2) ∧ isW w) then fnA A (-100001) else (A.1 (248 + 3 * l), kpA A (set1 A.1 (248 + 3 * l) w))
def oUndo (A : AT) : Int × AT := if A.2.1 = 0 then fnA A (-100006) else (A.2.1 - 1, (A.2.2.1 (A.2.1 - 1), A.2.1 - 1, A.2.2))
def oAll (A : AT) (w : Int) : Int × AT := if w = 0 then (A.1 0 * A.1 1, A) else if w = 1 then (things A.1, A) else if w = 2 then (A.1 2, A) else if w = 3 then (ctk A.1 4, A) else if w = 4 then (ctOpen A.1, A) else if w = 5 then (A.2.2.2.1, A) else fnA A (-100001)
