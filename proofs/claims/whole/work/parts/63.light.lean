-- LIGHT: the pure side
def lray (M : Int → Int) (l : Int) : Int := 4 * M (247 + 3 * l) + M (248 + 3 * l)
/-- lamp l lights f -/
def ltP (M : Int → Int) (l f : Int) : Prop := atP M (lray M l) f ∨ (M (4 + f) = 3 ∧ ens M (lray M l) f)
noncomputable def lv (M : Int → Int) (f : Int) : Nat → Int
  | 0 => 0
  | n + 1 => if pB (ltP M n f) = true then bor (lv M f n) (bshl 1 (M (249 + 3 * n))) else lv M f n
noncomputable def lvl (M : Int → Int) (f : Int) : Int := lv M f (M 2).toNat
theorem or8_all : (List.range 3).all (fun c => (List.range 8).all (fun s => decide ((0 ≤ bor (s : Int) (bshl 1 (c : Int)) ∧ bor (s : Int) (bshl 1 (c : Int)) < 8) ∧ bor (s : Int) 0 = (s : Int)))) = true := by decide +kernel
theorem or8 {c s : Int} (hc : isCol c) (h0 : 0 ≤ s) (h1 : s < 8) : (0 ≤ bor s (bshl 1 c) ∧ bor s (bshl 1 c) < 8) ∧ bor s 0 = s := by
  have h := List.all_eq_true.mp (List.all_eq_true.mp or8_all c.toNat (List.mem_range.mpr (by omega))) s.toNat (List.mem_range.mpr (by omega))
  rw [Int.toNat_of_nonneg h0, Int.toNat_of_nonneg hc.1] at h
  exact of_decide_eq_true h
theorem lamp_ok {M : Int → Int} (hM : wfM M) {l : Int} (h0 : 0 ≤ l) (h1 : l < M 2) : isF M (M (247 + 3 * l)) ∧ isW (M (248 + 3 * l)) ∧ isCol (M (249 + 3 * l)) ∧ isP (lray M l) ∧ lray M l / 4 = M (247 + 3 * l) := by
  obtain ⟨a, b, c, -⟩ := hM.2.2.2.2.1 l h0 h1
  refine ⟨a, b, c, ?_, ?_⟩
  · have := a.1; have := a.2.1
    unfold lray
    omega
  · unfold lray; omega
theorem lv_bd {M : Int → Int} (hM : wfM M) (f : Int) : ∀ n : Nat, (n : Int) ≤ M 2 → 0 ≤ lv M f n ∧ lv M f n < 8
  | 0, _ => ⟨Int.le_refl 0, by show (0 : Int) < 8; omega⟩
  | n + 1, h => by
    have ih := lv_bd hM f n (by omega)
    unfold lv
    split
    · exact (or8 (lamp_ok hM (l := n) (by omega) (by omega)).2.2.1 ih.1 ih.2).1
    · exact ih
theorem lvl_bd {M : Int → Int} (hM : wfM M) (f : Int) : 0 ≤ lvl M f ∧ lvl M f < 8 := lv_bd hM f _ (by have := hM.2.2.1; omega)
/-- the round opens the door at f -/
def opnP (M : Int → Int) (f : Int) : Prop := M (4 + f) = 3 ∧ M (166 + f) = 0 ∧ lvl M f / 2 ^ (M (85 + f)).toNat % 2 = 1
noncomputable def opk (M : Int → Int) (g : Int) : Int → Int := fun j => if 166 ≤ j ∧ j < 166 + g ∧ pB (opnP M (j - 166)) = true then 1 else M j
noncomputable def op1 (M : Int → Int) : Int → Int := opk M 81
noncomputable def nop (M : Int → Int) : Int := cP (opnP M) 0 81
theorem opk_off (M : Int → Int) {g j : Int} (h : j < 166 ∨ 166 + g ≤ j) : opk M g j = M j := if_neg (fun c => by omega)
theorem opk_s (M : Int → Int) {g : Int} (h0 : 0 ≤ g) : (opnP M g → set1 (opk M g) (166 + g) 1 = opk M (g + 1)) ∧ (¬ opnP M g → opk M g = opk M (g + 1)) := by
  constructor
  · intro h
    funext j
    unfold set1
    by_cases e : j = 166 + g
    · rw [if_pos e]
      unfold opk
      rw [if_pos ⟨by omega, by omega, (pB_iff _).mpr (by rw [show j - 166 = g from by omega]; exact h)⟩]
    · rw [if_neg e]
      unfold opk
      by_cases q : 166 ≤ j ∧ j < 166 + g ∧ pB (opnP M (j - 166)) = true
      · rw [if_pos q, if_pos ⟨q.1, by omega, q.2.2⟩]
      · rw [if_neg q, if_neg (fun c => q ⟨c.1, by omega, c.2.2⟩)]
  · intro h
    funext j
    unfold opk
    by_cases q : 166 ≤ j ∧ j < 166 + g ∧ pB (opnP M (j - 166)) = true
    · rw [if_pos q, if_pos ⟨q.1, by omega, q.2.2⟩]
    · rw [if_neg q]
      refine (if_neg (fun c => q ⟨c.1, ?_, c.2.2⟩)).symm
      have : j ≠ 166 + g := fun e => h (by have := (pB_iff _).mp c.2.2; rw [show j - 166 = g from by omega] at this; exact this)
      omega
theorem op1_off (M : Int → Int) {j : Int} (h : j < 166 ∨ 247 ≤ j) : op1 M j = M j := opk_off M (by omega)
theorem op1_at (M : Int → Int) {f : Int} (h0 : 0 ≤ f) (h1 : f < 81) : (opnP M f → op1 M (166 + f) = 1) ∧ (¬ opnP M f → op1 M (166 + f) = M (166 + f)) := by
  unfold op1 opk
  rw [show 166 + f - 166 = f from by omega]
  constructor
  · intro h; rw [if_pos ⟨by omega, by omega, (pB_iff _).mpr h⟩]
  · intro h; rw [if_neg (fun c => h ((pB_iff _).mp c.2.2))]
theorem op1_0 {M : Int → Int} (h : nop M = 0) : op1 M = M := by
  funext j
  unfold op1 opk
  refine if_neg (fun c => ?_)
  have := (cP_pos (opnP M) 0 81).mpr ⟨j - 166, by omega, by omega, (pB_iff _).mp c.2.2⟩
  unfold nop at h
  omega
theorem op1_ct (M : Int → Int) : ctOpen (op1 M) = ctOpen M + nop M := by
  have : ∀ (n : Nat) (i : Int), 0 ≤ i → i + n ≤ 81 → sm (fun f => op1 M (166 + f)) i n = sm (fun f => M (166 + f)) i n + cP (opnP M) i n := by
    intro n
    induction n with
    | zero => intro i _ _; rfl
    | succ n ih =>
      intro i h0 h1
      have e := ih (i + 1) (by omega) (by omega)
      have h2 := op1_at M (f := i) h0 (by omega)
      show op1 M (166 + i) + sm (fun f => op1 M (166 + f)) (i + 1) n = M (166 + i) + sm (fun f => M (166 + f)) (i + 1) n + cP (opnP M) i (n + 1)
      rw [e]
      by_cases q : opnP M i
      · rw [(cP_s (opnP M) i n).1 q, h2.1 q, q.2.1]; omega
      · rw [(cP_s (opnP M) i n).2 q, h2.2 q]; omega
  exact this 81 0 (by omega) (by omega)
theorem op1_wf {M : Int → Int} (h : wfM M) : wfM (op1 M) := by
  obtain ⟨h1, h2, h3, h4, h5, h6⟩ := h
  have eF : ∀ f, isF (op1 M) f ↔ isF M f := fun f => by unfold isF; rw [op1_off M (by omega), op1_off M (by omega)]
  refine ⟨by rw [op1_off M (by omega)]; exact h1, by rw [op1_off M (by omega)]; exact h2, by rw [op1_off M (by omega)]; exact h3, fun f a b => ?_, fun l a b => ?_, ?_⟩
  · obtain ⟨g1, g2, g3, g4, g5⟩ := h4 f a b
    rw [op1_off M (j := 4 + f) (by omega), op1_off M (j := 85 + f) (by omega), eF]
    refine ⟨g1, g2, ?_, ?_, g5⟩
    · by_cases q : opnP M f
      · rw [(op1_at M a b).1 q]; omega
      · rw [(op1_at M a b).2 q]; exact g3
    · intro c
      by_cases q : opnP M f
      · exact q.1
      · rw [(op1_at M a b).2 q] at c; exact g4 c
  · rw [op1_off M (j := 2) (by omega)] at b
    have hl := h5 l a b
    rw [op1_off M (j := 247 + 3 * l) (by omega), op1_off M (j := 248 + 3 * l) (by omega), op1_off M (j := 249 + 3 * l) (by omega), eF, op1_off M (j := 4 + M (247 + 3 * l)) (by have := hl.1; omega)]
    exact hl
  · have : ctk (op1 M) 4 = ctk M 4 := cn_congr _ _ 0 81 (fun j a b => by rw [op1_off M (j := 4 + j) (by omega)])
    rw [this]
    exact h6
/-- the rounds: how many, and what the maze is then -/
noncomputable def rdF : Nat → (Int → Int) → Int × (Int → Int)
  | 0, M => (0, M)
  | n + 1, M => if nop M = 0 then (0, M) else ((rdF n (op1 M)).1 + 1, (rdF n (op1 M)).2)
theorem rdF_wf : ∀ (n : Nat) (M : Int → Int), wfM M → wfM (rdF n M).2
  | 0, _, h => h
  | n + 1, M, h => by
    unfold rdF
    split
    · exact h
    · exact rdF_wf n (op1 M) (op1_wf h)
theorem rdF_off : ∀ (n : Nat) (M : Int → Int) (j : Int), (j < 166 ∨ 247 ≤ j) → (rdF n M).2 j = M j
  | 0, _, _, _ => rfl
  | n + 1, M, j, h => by
    unfold rdF
    split
    · rfl
    · exact (rdF_off n (op1 M) j h).trans (op1_off M h)
theorem rdF_bd : ∀ (n : Nat) (M : Int → Int), 0 ≤ (rdF n M).1 ∧ (rdF n M).1 ≤ n
  | 0, _ => ⟨Int.le_refl 0, Int.le_refl 0⟩
  | n + 1, M => by
    have := rdF_bd n (op1 M)
    unfold rdF
    split
    · show 0 ≤ (0 : Int) ∧ (0 : Int) ≤ ((n + 1 : Nat) : Int); omega
    · show 0 ≤ (rdF n (op1 M)).1 + 1 ∧ (rdF n (op1 M)).1 + 1 ≤ ((n + 1 : Nat) : Int); omega
theorem ctOpen_bd {M : Int → Int} (h : wfM M) : 0 ≤ ctOpen M ∧ ctOpen M ≤ 81 := by
  have := sm_bd (fun f => M (166 + f)) 1 (by omega) 0 81 (fun j a b => (h.2.2.2.1 j a (by omega)).2.2.1)
  unfold ctOpen
  omega
noncomputable def oLit (A : AT) (f : Int) : Int × AT := if isF A.1 f then (lvl A.1 f, A) else fnA A (-100001)
noncomputable def oBright (A : AT) (c : Int) : Int × AT := if isCol c then (sm (fun f => lvl A.1 f / 2 ^ c.toNat % 2) 0 81, A) else fnA A (-100001)
noncomputable def oOpened (A : AT) (b : Int) : Int × AT := (if b = 0 then ctOpen (rdF 82 A.1).2 else (rdF 82 A.1).1, A)
noncomputable def oOpen (A : AT) : Int × AT := (ctOpen (rdF 82 A.1).2 - ctOpen A.1, kpA A (rdF 82 A.1).2)
