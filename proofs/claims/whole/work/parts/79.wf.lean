-- A STATE STAYS AS IT MUST BE
theorem cP_mono {P Q : Int → Prop} : ∀ (n : Nat) (i : Int), (∀ j, i ≤ j → j < i + n → P j → Q j) → cP P i n ≤ cP Q i n
  | 0, _, _ => Int.le_refl 0
  | n + 1, i, h => by
    have ih := cP_mono n (i + 1) (fun j a b => h j (by omega) (by omega))
    have h0 := h i (by omega) (by omega)
    by_cases p : P i
    · rw [(cP_s P i n).1 p, (cP_s Q i n).1 (h0 p)]; omega
    · rw [(cP_s P i n).2 p]
      by_cases q : Q i
      · rw [(cP_s Q i n).1 q]; omega
      · rw [(cP_s Q i n).2 q]; exact ih
theorem no_lamp {M : Int → Int} {f : Int} (h : lampAt M f < 0) (l : Int) (h0 : 0 ≤ l) (h1 : l < M 2) : M (247 + 3 * l) ≠ f := fun c => by
  have := (ff_sp (fun l => M (247 + 3 * l) = f) (M 2).toNat 0 ⟨l, h0, by omega, c⟩).1.1
  unfold lampAt at h
  omega
theorem ctk_lay (M : Int → Int) (f k o : Int) (h0 : 0 ≤ f) (h1 : f < 81) : (¬ k = 4 → ctk (lay M f k o) 4 ≤ ctk M 4) ∧ ctk (lay M f k o) 4 ≤ ctk M 4 + 1 := by
  have e : ∀ j, 0 ≤ j → j < 81 → lay M f k o (4 + j) = if j = f then k else M (4 + j) := fun j a b => by
    unfold lay
    by_cases q : j = f
    · rw [if_pos (by omega), if_pos q]
    · rw [if_neg (by omega), if_neg (by omega), if_neg (by omega), if_neg q]
  unfold ctk
  rw [cP_eq, cP_eq]
  constructor
  · intro hk
    refine cP_mono 81 0 (fun j a b c => ?_)
    rw [e j a (by omega)] at c
    by_cases q : j = f
    · rw [if_pos q] at c; exact absurd c hk
    · rw [if_neg q] at c; exact c
  · by_cases p : lay M f k o (4 + f) = 4
    · rw [cP_rm (fun g => lay M f k o (4 + g) = 4) f p 81 0 h0 (by omega)]
      have := cP_mono (P := fun y => lay M f k o (4 + y) = 4 ∧ y ≠ f) (Q := fun y => M (4 + y) = 4) 81 0 (fun j a b c => by
        have c1 := c.1
        rw [e j a (by omega), if_neg c.2] at c1
        exact c1)
      omega
    · have := cP_mono (P := fun y => lay M f k o (4 + y) = 4) (Q := fun y => M (4 + y) = 4) 81 0 (fun j a b c => by
        have hj : j ≠ f := fun q => p (q ▸ c)
        rw [e j a (by omega), if_neg hj] at c
        exact c)
      omega
theorem lay_at (M : Int → Int) (f k o : Int) {j : Int} (f0 : 0 ≤ f) (f1 : f < 81) (h0 : 0 ≤ j) (h1 : j < 81) : lay M f k o (4 + j) = (if j = f then k else M (4 + j)) ∧ lay M f k o (85 + j) = (if j = f then o else M (85 + j)) ∧ lay M f k o (166 + j) = (if j = f then 0 else M (166 + j)) := by
  unfold lay
  by_cases q : j = f
  · rw [if_pos (by omega), if_pos q, if_neg (by omega), if_pos (by omega), if_pos q, if_neg (by omega), if_neg (by omega), if_pos (by omega), if_pos q]
    exact ⟨rfl, rfl, rfl⟩
  · rw [if_neg (by omega), if_neg (by omega), if_neg (by omega), if_neg q, if_neg (by omega), if_neg (by omega), if_neg (by omega), if_neg q, if_neg (by omega), if_neg (by omega), if_neg (by omega), if_neg q]
    exact ⟨rfl, rfl, rfl⟩
theorem wf_lay {M : Int → Int} (h : wfM M) {f k o : Int} (hf : isF M f) (hk : -1 ≤ k ∧ k < 5) (ho : isOf k o) (hl : k = -1 ∨ ∀ l, 0 ≤ l → l < M 2 → M (247 + 3 * l) ≠ f) (hc : ctk (lay M f k o) 4 ≤ 10) : wfM (lay M f k o) := by
  obtain ⟨h1, h2, h3, h4, h5, h6⟩ := h
  have lo := fun {j : Int} (hj : j < 4 ∨ 247 ≤ j) => lay_off M f k o hf.1 hf.2.1 hj
  have eF : ∀ g, isF (lay M f k o) g ↔ isF M g := fun g => by unfold isF; rw [lo (by omega), lo (by omega)]
  refine ⟨by rw [lo (by omega)]; exact h1, by rw [lo (by omega)]; exact h2, by rw [lo (by omega)]; exact h3, fun g a b => ?_, fun l a b => ?_, hc⟩
  · obtain ⟨e1, e2, e3⟩ := lay_at M f k o hf.1 hf.2.1 a b
    rw [e1, e2, e3, eF]
    obtain ⟨g1, g2, g3, g4, g5⟩ := h4 g a b
    by_cases q : g = f
    · rw [if_pos q, if_pos q, if_pos q]
      exact ⟨hk, ho, by omega, fun c => by omega, fun c => absurd (q ▸ hf) c⟩
    · rw [if_neg q, if_neg q, if_neg q]
      exact ⟨g1, g2, g3, g4, g5⟩
  · rw [lo (by omega)] at b
    have hh := h5 l a b
    rw [lo (by omega), lo (by omega), lo (by omega), eF, (lay_at M f k o hf.1 hf.2.1 hh.1.1 hh.1.2.1).1]
    refine ⟨hh.1, hh.2.1, hh.2.2.1, ?_⟩
    by_cases q : M (247 + 3 * l) = f
    · rw [if_pos q]
      rcases hl with hl | hl
      · exact hl
      · exact absurd q (hl l a b)
    · rw [if_neg q]; exact hh.2.2.2
/-- a change of leans alone -/
theorem wf_of {M N : Int → Int} (h : wfM M) (e : ∀ j, (j < 85 ∨ 166 ≤ j) → N j = M j) (ho : ∀ f, 0 ≤ f → f < 81 → isOf (M (4 + f)) (N (85 + f))) : wfM N := by
  obtain ⟨h1, h2, h3, h4, h5, h6⟩ := h
  have eF : ∀ g, isF N g ↔ isF M g := fun g => by unfold isF; rw [e 0 (by omega), e 1 (by omega)]
  refine ⟨by rw [e 0 (by omega)]; exact h1, by rw [e 1 (by omega)]; exact h2, by rw [e 2 (by omega)]; exact h3, fun g a b => ?_, fun l a b => ?_, ?_⟩
  · rw [e (4 + g) (by omega), e (166 + g) (by omega), eF]
    obtain ⟨g1, g2, g3, g4, g5⟩ := h4 g a b
    exact ⟨g1, ho g a b, g3, g4, g5⟩
  · rw [e 2 (by omega)] at b
    have hh := h5 l a b
    rw [e (247 + 3 * l) (by omega), e (248 + 3 * l) (by omega), e (249 + 3 * l) (by omega), eF, e (4 + M (247 + 3 * l)) (by have := hh.1; omega)]
    exact hh
  · have : ctk N 4 = ctk M 4 := cn_congr _ _ 0 81 (fun j a b => by rw [e (4 + j) (by omega)])
    rw [this]; exact h6
theorem wf_flip {M : Int → Int} (h : wfM M) {f : Int} (f0 : 0 ≤ f) (f1 : f < 81) (hm : isMir (M (4 + f))) : wfM (flip M f) := by
  refine wf_of h (fun j hj => flip_off M f (by omega)) (fun g a b => ?_)
  by_cases e : g = f
  · subst e
    have := (h.2.2.2.1 g a b).2.1
    unfold flip
    rw [if_pos rfl]
    unfold isOf isMir at *
    omega
  · rw [flip_off M f (by omega)]
    exact (h.2.2.2.1 g a b).2.1
theorem wf_turn {M : Int → Int} (h : wfM M) (s : Int) : wfM (turnM M s) := by
  refine wf_of h (fun j hj => tm_off M s hj) (fun g a b => ?_)
  have := (h.2.2.2.1 g a b).2.1
  rw [tm_at M s a b]
  split
  · next c =>
    unfold isOf isMir at *
    omega
  · exact this
theorem wf_shut {M : Int → Int} (h : wfM M) {f : Int} (f0 : 0 ≤ f) (f1 : f < 81) : wfM (set1 M (166 + f) 0) := by
  obtain ⟨h1, h2, h3, h4, h5, h6⟩ := h
  have e : ∀ j, j ≠ 166 + f → set1 M (166 + f) 0 j = M j := fun j hj => if_neg hj
  have e1 : set1 M (166 + f) 0 (166 + f) = 0 := if_pos rfl
  have eF : ∀ g, isF (set1 M (166 + f) 0) g ↔ isF M g := fun g => by unfold isF; rw [e 0 (by omega), e 1 (by omega)]
  refine ⟨by rw [e 0 (by omega)]; exact h1, by rw [e 1 (by omega)]; exact h2, by rw [e 2 (by omega)]; exact h3, fun g a b => ?_, fun l a b => ?_, ?_⟩
  · rw [e (4 + g) (by omega), e (85 + g) (by omega), eF]
    obtain ⟨g1, g2, g3, g4, g5⟩ := h4 g a b
    by_cases q : g = f
    · rw [q, e1]; exact ⟨q ▸ g1, q ▸ g2, by omega, fun c => by omega, q ▸ g5⟩
    · rw [e (166 + g) (by omega)]; exact ⟨g1, g2, g3, g4, g5⟩
  · rw [e 2 (by omega)] at b
    have hh := h5 l a b
    rw [e (247 + 3 * l) (by omega), e (248 + 3 * l) (by omega), e (249 + 3 * l) (by omega), eF, e (4 + M (247 + 3 * l)) (by have := hh.1; omega)]
    exact hh
  · have : ctk (set1 M (166 + f) 0) 4 = ctk M 4 := cn_congr _ _ 0 81 (fun j a b => by rw [e (4 + j) (by omega)])
    rw [this]; exact h6
/-- a change of the lamps alone -/
theorem wf_lm {M N : Int → Int} (h : wfM M) (e : ∀ j, j < 247 → j ≠ 2 → N j = M j) (h3 : 0 ≤ N 2 ∧ N 2 ≤ 6) (h5 : ∀ l, 0 ≤ l → l < N 2 → isF M (N (247 + 3 * l)) ∧ isW (N (248 + 3 * l)) ∧ isCol (N (249 + 3 * l)) ∧ M (4 + N (247 + 3 * l)) = -1) : wfM N := by
  obtain ⟨h1, h2, -, h4, -, h6⟩ := h
  have eF : ∀ g, isF N g ↔ isF M g := fun g => by unfold isF; rw [e 0 (by omega) (by omega), e 1 (by omega) (by omega)]
  refine ⟨by rw [e 0 (by omega) (by omega)]; exact h1, by rw [e 1 (by omega) (by omega)]; exact h2, h3, fun g a b => ?_, fun l a b => ?_, ?_⟩
  · rw [e (4 + g) (by omega) (by omega), e (85 + g) (by omega) (by omega), e (166 + g) (by omega) (by omega), eF]
    exact h4 g a b
  · have hh := h5 l a b
    rw [eF, e (4 + N (247 + 3 * l)) (by have := hh.1.2.1; omega) (by have := hh.1.1; omega)]
    exact hh
  · have : ctk N 4 = ctk M 4 := cn_congr _ _ 0 81 (fun j a b => by rw [e (4 + j) (by omega) (by omega)])
    rw [this]; exact h6
theorem wf_addL {M : Int → Int} (h : wfM M) {f w c : Int} (hf : isF M f) (hw : isW w) (hc : isCol c) (hk : M (4 + f) = -1) (hm : M 2 < 6) : wfM (addL M f w c) := by
  have h3 := h.2.2.1
  have e2 : addL M f w c 2 = M 2 + 1 := by unfold addL; rw [if_neg (by omega), if_neg (by omega), if_neg (by omega), if_pos rfl]
  refine wf_lm h (fun j a b => ?_) (by omega) (fun l a b => ?_)
  · unfold addL; rw [if_neg (by omega), if_neg (by omega), if_neg (by omega), if_neg b]
  · rw [e2] at b
    by_cases q : l = M 2
    · have x1 : addL M f w c (247 + 3 * l) = f := by unfold addL; rw [if_pos (by omega)]
      have x2 : addL M f w c (248 + 3 * l) = w := by unfold addL; rw [if_neg (by omega), if_pos (by omega)]
      have x3 : addL M f w c (249 + 3 * l) = c := by unfold addL; rw [if_neg (by omega), if_neg (by omega), if_pos (by omega)]
      rw [x1, x2, x3]
      exact ⟨hf, hw, hc, hk⟩
    · have x : ∀ j, 247 + 3 * l ≤ j → j ≤ 249 + 3 * l → addL M f w c j = M j := fun j u v => by unfold addL; rw [if_neg (by omega), if_neg (by omega), if_neg (by omega), if_neg (by omega)]
      rw [x _ (by omega) (by omega), x _ (by omega) (by omega), x _ (by omega) (by omega)]
      exact h.2.2.2.2.1 l a (by omega)
theorem wf_out {M : Int → Int} (h : wfM M) (hm : M 2 ≠ 0) : wfM (set1 M 2 (M 2 - 1)) := by
  have h3 := h.2.2.1
  have e : ∀ j, j ≠ 2 → set1 M 2 (M 2 - 1) j = M j := fun j hj => if_neg hj
  have e2 : set1 M 2 (M 2 - 1) 2 = M 2 - 1 := if_pos rfl
  refine wf_lm h (fun j a b => e j b) (by omega) (fun l a b => ?_)
  rw [e2] at b
  rw [e _ (by omega), e _ (by omega), e _ (by omega)]
  exact h.2.2.2.2.1 l a (by omega)
theorem wf_face {M : Int → Int} (h : wfM M) {l w : Int} (l0 : 0 ≤ l) (hw : isW w) : wfM (set1 M (248 + 3 * l) w) := by
  have e : ∀ j, j ≠ 248 + 3 * l → set1 M (248 + 3 * l) w j = M j := fun j hj => if_neg hj
  have e2 : set1 M (248 + 3 * l) w (248 + 3 * l) = w := if_pos rfl
  refine wf_lm h (fun j a b => e j (by omega)) (by rw [e 2 (by omega)]; exact h.2.2.1) (fun i a b => ?_)
  rw [e 2 (by omega)] at b
  have hh := h.2.2.2.2.1 i a b
  rw [e (247 + 3 * i) (by omega), e (249 + 3 * i) (by omega)]
  by_cases q : i = l
  · rw [q, e2]; exact ⟨q ▸ hh.1, hw, q ▸ hh.2.2.1, q ▸ hh.2.2.2⟩
  · rw [e (248 + 3 * i) (by omega)]; exact hh
theorem wf_tel {M : Int → Int} (h : wfM M) {f : Int} (hf : isF M f) (v : Int) : wfM (telM M f v) := by
  unfold telM
  split
  · next c =>
    have hk : -1 ≤ kdv v ∧ kdv v ≤ 3 := by
      unfold kdv
      repeat' split
      all_goals omega
    refine wf_lay h hf (by omega) ?_ (Or.inr (no_lamp c.2.2)) ?_
    · unfold kdv ofv isOf isMir isCol
      repeat' split
      all_goals omega
    · have := (ctk_lay M f (kdv v) (ofv v) hf.1 hf.2.1).1 (by omega)
      have := h.2.2.2.2.2
      omega
  · exact h
theorem tel_01 (M : Int → Int) {f : Int} (h0 : 0 ≤ f) (h1 : f < 81) (v : Int) : telM M f v 0 = M 0 ∧ telM M f v 1 = M 1 := by
  unfold telM
  split
  · exact ⟨lay_off M f _ _ h0 h1 (by omega), lay_off M f _ _ h0 h1 (by omega)⟩
  · exact ⟨rfl, rfl⟩
theorem wf_row (sx : Int → Int) (y : Int) : ∀ (n : Nat) (M : Int → Int) (x : Int), wfM M → 0 ≤ y → y < M 1 → 0 ≤ x → x + n ≤ M 0 → wfM (rwM sx y M x n)
  | 0, M, x, h, _, _, _, _ => h
  | n + 1, M, x, h, y0, y1, x0, x1 => by
    unfold rwM
    have ha := h.1
    have hb := h.2.1
    have hf : isF M (9 * y + x) := by
      unfold isF
      omega
    have e := tel_01 M hf.1 hf.2.1 (sx x)
    exact wf_row sx y n _ (x + 1) (wf_tel h hf _) y0 (by rw [e.2]; exact y1) (by omega) (by rw [e.1]; omega)
def QRz (M N : Int → Int) (w d k : Int) : Prop := N 0 = w ∧ N 1 = d ∧ (∀ g, 0 ≤ g → g < 81 → (-1 ≤ N (4 + g) ∧ N (4 + g) < 5) ∧ isOf (N (4 + g)) (N (85 + g)) ∧ (0 ≤ N (166 + g) ∧ N (166 + g) ≤ 1) ∧ (N (166 + g) = 1 → N (4 + g) = 3) ∧ (¬ isF N g → g < k → N (4 + g) = -1) ∧ (N (4 + g) = M (4 + g) ∨ N (4 + g) = -1)) ∧ (∀ j, 247 ≤ j → N j = M j) ∧ ctk N 4 ≤ 10
theorem rz1_ok (M : Int → Int) (w d : Int) : ∀ (n : Nat) (N : Int → Int) (f : Int), 0 ≤ f → f + n ≤ 81 → QRz M N w d f → QRz M (rz1 N f n) w d (f + n)
  | 0, N, f, _, _, h => by rw [show f + ((0 : Nat) : Int) = f from by omega]; exact h
  | n + 1, N, f, h0, h1, h => by
    unfold rz1
    rw [show f + ((n + 1 : Nat) : Int) = (f + 1) + (n : Int) from by omega]
    refine rz1_ok M w d n _ (f + 1) (by omega) (by omega) ?_
    obtain ⟨a1, a2, a3, a4, a5⟩ := h
    by_cases q : isF N f
    · rw [if_pos q]
      refine ⟨a1, a2, fun g a b => ?_, a4, a5⟩
      obtain ⟨g1, g2, g3, g4, g5, g6⟩ := a3 g a b
      refine ⟨g1, g2, g3, g4, fun c e => ?_, g6⟩
      by_cases z : g = f
      · exact absurd (z ▸ q) c
      · exact g5 c (by omega)
    · rw [if_neg q]
      have lo := fun {j : Int} (hj : j < 4 ∨ 247 ≤ j) => lay_off N f (-1) 0 h0 (by omega) hj
      refine ⟨by rw [lo (by omega)]; exact a1, by rw [lo (by omega)]; exact a2, fun g a b => ?_, fun j hj => by rw [lo (by omega)]; exact a4 j hj, by have := (ctk_lay N f (-1) 0 h0 (by omega)).1 (by omega); omega⟩
      obtain ⟨e1, e2, e3⟩ := lay_at N f (-1) 0 h0 (by omega) a b
      obtain ⟨g1, g2, g3, g4, g5, g6⟩ := a3 g a b
      have eF : isF (lay N f (-1) 0) g ↔ isF N g := by unfold isF; rw [lo (by omega), lo (by omega)]
      rw [e1, e2, e3, eF]
      by_cases z : g = f
      · rw [if_pos z, if_pos z, if_pos z]
        refine ⟨by omega, ?_, by omega, fun c => by omega, fun _ _ => rfl, Or.inr rfl⟩
        unfold isOf isMir
        omega
      · rw [if_neg z, if_neg z, if_neg z]
        exact ⟨g1, g2, g3, g4, fun c e => g5 c (by omega), g6⟩
theorem rz2_wf : ∀ (n : Nat) (N : Int → Int) (l : Int), wfM N → 0 ≤ l → N 2 ≤ l → l + n ≤ 6 → (∀ i, l ≤ i → i < l + n → (0 ≤ N (247 + 3 * i) ∧ N (247 + 3 * i) < 81) ∧ isW (N (248 + 3 * i)) ∧ isCol (N (249 + 3 * i)) ∧ N (4 + N (247 + 3 * i)) = -1) → wfM (rz2 N l n)
  | 0, N, l, h, _, _, _, _ => h
  | n + 1, N, l, h, l0, l1, l2, hs => by
    unfold rz2
    by_cases q : isF N (N (247 + 3 * l))
    · rw [if_pos q]
      have hh := hs l (by omega) (by omega)
      have h3 := h.2.2.1
      have e2 : addL N (N (247 + 3 * l)) (N (248 + 3 * l)) (N (249 + 3 * l)) 2 = N 2 + 1 := by unfold addL; rw [if_neg (by omega), if_neg (by omega), if_neg (by omega), if_pos rfl]
      refine rz2_wf n _ (l + 1) (wf_addL h q hh.2.1 hh.2.2.1 hh.2.2.2 (by omega)) (by omega) (by omega) (by omega) (fun i a b => ?_)
      have hi := hs i (by omega) (by omega)
      have x : ∀ j, (247 + 3 * i ≤ j ∨ (j < 247 ∧ j ≠ 2)) → addL N (N (247 + 3 * l)) (N (248 + 3 * l)) (N (249 + 3 * l)) j = N j := fun j u => by unfold addL; rw [if_neg (by omega), if_neg (by omega), if_neg (by omega), if_neg (by omega)]
      rw [x (247 + 3 * i) (by omega), x (248 + 3 * i) (by omega), x (249 + 3 * i) (by omega), x (4 + N (247 + 3 * i)) (by omega)]
      exact hi
    · rw [if_neg q]
      exact rz2_wf n N (l + 1) h (by omega) (by omega) (by omega) (fun i a b => hs i (by omega) (by omega))
theorem wf_rsz {M : Int → Int} (h : wfM M) {w d : Int} (hw : 1 ≤ w ∧ w ≤ 9) (hd : 1 ≤ d ∧ d ≤ 9) : wfM (rsz M w d) := by
  obtain ⟨h1, h2, h3, h4, h5, h6⟩ := h
  have e : ∀ j, 2 ≤ j → set1 (set1 M 0 w) 1 d j = M j := fun j hj => by unfold set1; rw [if_neg (by omega), if_neg (by omega)]
  have q0 : QRz M (set1 (set1 M 0 w) 1 d) w d 0 := by
    refine ⟨rfl, rfl, fun g a b => ?_, fun j hj => e j (by omega), ?_⟩
    · rw [e (4 + g) (by omega), e (85 + g) (by omega), e (166 + g) (by omega)]
      obtain ⟨g1, g2, g3, g4, -⟩ := h4 g a b
      exact ⟨g1, g2, g3, g4, fun _ c => by omega, Or.inl rfl⟩
    · have : ctk (set1 (set1 M 0 w) 1 d) 4 = ctk M 4 := cn_congr _ _ 0 81 (fun j a b => by rw [e (4 + j) (by omega)])
      rw [this]; exact h6
  have q1 := rz1_ok M w d 81 _ 0 (by omega) (by omega) q0
  unfold rsz
  generalize rz1 (set1 (set1 M 0 w) 1 d) 0 81 = N at q1 ⊢
  obtain ⟨a1, a2, a3, a4, a5⟩ := q1
  have s : ∀ j, j ≠ 2 → set1 N 2 0 j = N j := fun j hj => if_neg hj
  have s2 : set1 N 2 0 2 = 0 := if_pos rfl
  have eF : ∀ g, isF (set1 N 2 0) g ↔ isF N g := fun g => by unfold isF; rw [s 0 (by omega), s 1 (by omega)]
  refine rz2_wf (M 2).toNat (set1 N 2 0) 0 ⟨by rw [s 0 (by omega)]; omega, by rw [s 1 (by omega)]; omega, by omega, fun g a b => ?_, fun l a b => by omega, ?_⟩ (by omega) (by omega) (by omega) (fun i a b => ?_)
  · rw [s (4 + g) (by omega), s (85 + g) (by omega), s (166 + g) (by omega), eF]
    obtain ⟨g1, g2, g3, g4, g5, -⟩ := a3 g a b
    exact ⟨g1, g2, g3, g4, fun c => g5 c (by omega)⟩
  · have : ctk (set1 N 2 0) 4 = ctk N 4 := cn_congr _ _ 0 81 (fun j a b => by rw [s (4 + j) (by omega)])
    rw [this]; exact a5
  · have hh := h5 i a (by omega)
    rw [s (247 + 3 * i) (by omega), s (248 + 3 * i) (by omega), s (249 + 3 * i) (by omega), a4 (247 + 3 * i) (by omega), a4 (248 + 3 * i) (by omega), a4 (249 + 3 * i) (by omega), s (4 + M (247 + 3 * i)) (by have := hh.1.1; omega)]
    have := (a3 (M (247 + 3 * i)) hh.1.1 hh.1.2.1).2.2.2.2.2
    refine ⟨⟨hh.1.1, hh.1.2.1⟩, hh.2.1, hh.2.2.1, ?_⟩
    rcases this with c | c
    · rw [c]; exact hh.2.2.2
    · exact c
-- the states
def WN (A : AT) (n : Int) : Prop := WA A ∧ A.2.2.2.1 ≤ n
theorem WN.fn {A : AT} {n : Int} (h : WN A n) (hn : n < 1000) (v : Int) : WN (fnA A v).2 (n + 1) := by
  obtain ⟨⟨h1, h2, h3, h4, h5⟩, h6⟩ := h
  refine ⟨⟨h1, h2, h3, ?_, h5⟩, ?_⟩
  · show 0 ≤ A.2.2.2.1 + 1 ∧ A.2.2.2.1 + 1 ≤ 1000
    omega
  · show A.2.2.2.1 + 1 ≤ n + 1
    omega
theorem WN.up {A : AT} {n : Int} (h : WN A n) : WN A (n + 1) := ⟨h.1, by have := h.2; omega⟩
theorem WN.kp {A : AT} {n : Int} (h : WN A n) {M : Int → Int} (hM : wfM M) : WN (kpA A M) (n + 1) := by
  obtain ⟨⟨h1, h2, h3, h4, h5⟩, h6⟩ := h
  refine ⟨⟨hM, fun i a b => ?_, ?_, h4, h5⟩, ?_⟩
  · have b : i < kpc A.2.1 := b
    show wfM (kpP A.2.1 A.2.2.1 A.1 i)
    unfold kpc at b
    unfold kpP
    by_cases q : A.2.1 = 20
    · rw [if_pos q] at b ⊢
      by_cases z : i = 19
      · rw [if_pos z]; exact h1
      · rw [if_neg z]; exact h2 (i + 1) (by omega) (by omega)
    · rw [if_neg q] at b ⊢
      by_cases z : i = A.2.1
      · rw [if_pos z]; exact h1
      · rw [if_neg z]; exact h2 i a (by omega)
  · show 0 ≤ kpc A.2.1 ∧ kpc A.2.1 ≤ 20
    unfold kpc
    split <;> omega
  · show A.2.2.2.1 ≤ n + 1
    omega
