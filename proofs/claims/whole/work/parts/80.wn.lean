-- EVERY ANSWER LEAVES A STATE AS IT MUST BE
section WNS
variable {A : AT} {n : Int}
theorem wn_floor (h : WN A n) (hn : n < 1000) (w d : Int) : WN (oFloor A w d).2 (n + 1) := by
  unfold oFloor
  split
  · next c => exact h.kp (wf_rsz h.1.1 c.1 c.2)
  · exact h.fn hn _
theorem hbd_ok (h : WA A) {w d : Int} (hw : 1 ≤ w ∧ w ≤ 9) (hd : 1 ≤ d ∧ d ≤ 9) : 0 ≤ rsz A.1 w d 2 ∧ rsz A.1 w d 2 ≤ 6 := (wf_rsz h.1 hw hd).2.2.1
theorem wn_thing (h : WN A n) (hn : n < 1000) (f k o : Int) : WN (oThing A f k o).2 (n + 1) := by
  unfold oThing
  split
  · exact h.fn hn _
  · next c =>
    split
    · exact h.fn hn _
    · next c2 =>
      split
      · exact h.fn hn _
      · next c3 =>
        have c := Classical.not_not.mp c
        have c2 := Classical.not_not.mp c2
        refine h.kp (wf_lay h.1.1 c.1 (by have := c.2.1; omega) c.2.2 (Or.inr (no_lamp c2.2)) ?_)
        have hh := h.1.1.2.2.2.2.2
        have hl := ctk_lay A.1 f k o c.1.1 c.1.2.1
        by_cases q : k = 4
        · have := hl.2; omega
        · have := hl.1 q; omega
theorem wn_clear (h : WN A n) (hn : n < 1000) (f : Int) : WN (oClear A f).2 (n + 1) := by
  unfold oClear
  split
  · exact h.fn hn _
  · next c =>
    split
    · exact h.fn hn _
    · have c := Classical.not_not.mp c
      refine h.kp (wf_lay h.1.1 c (by omega) (by unfold isOf isMir; omega) (Or.inl rfl) ?_)
      have hh := h.1.1.2.2.2.2.2
      have hl := (ctk_lay A.1 f (-1) 0 c.1 c.2.1).1 (by omega)
      omega
theorem wn_as (h : WN A n) (hn : n < 1000) (f k : Int) : WN (oAs A f k).2 (n + 1) := by
  unfold oAs
  split
  · exact h.fn hn _
  · split
    · exact h.fn hn _
    · split
      · exact h.up
      · exact h.fn hn _
theorem wn_at (h : WN A n) (hn : n < 1000) (f k : Int) : WN (oAt A f k).2 (n + 1) := by
  unfold oAt
  split
  · exact h.fn hn _
  · exact h.up
theorem wn_lean (h : WN A n) (hn : n < 1000) (f : Int) : WN (oLean A f).2 (n + 1) := by
  unfold oLean
  split
  · exact h.fn hn _
  · next c =>
    split
    · exact h.fn hn _
    · split
      · exact h.fn hn _
      · next c2 =>
        have c := Classical.not_not.mp c
        exact h.kp (wf_flip h.1.1 c.1 c.2.1 (Classical.not_not.mp c2))
theorem wn_shut (h : WN A n) (hn : n < 1000) (f : Int) : WN (oShut A f).2 (n + 1) := by
  unfold oShut
  split
  · exact h.fn hn _
  · next c =>
    split
    · exact h.fn hn _
    · split
      · exact h.fn hn _
      · have c := Classical.not_not.mp c
        exact h.kp (wf_shut h.1.1 c.1 c.2.1)
theorem wn_path (h : WN A n) (hn : n < 1000) (f w : Int) : WN (oPath A f w).2 (n + 1) := by
  unfold oPath
  split
  · exact h.up
  · exact h.fn hn _
theorem wn_step (h : WN A n) (hn : n < 1000) (f w i : Int) : WN (oStep A f w i).2 (n + 1) := by
  unfold oStep
  split
  · exact h.up
  · exact h.fn hn _
theorem wn_closes (h : WN A n) (hn : n < 1000) (f w : Int) : WN (oCloses A f w).2 (n + 1) := by
  unfold oCloses
  split
  · exact h.up
  · exact h.fn hn _
theorem wn_spread (h : WN A n) (hn : n < 1000) (f w b : Int) : WN (oSpread A f w b).2 (n + 1) := by
  unfold oSpread
  split
  · exact h.up
  · exact h.fn hn _
theorem wn_sees (h : WN A n) (hn : n < 1000) (f o : Int) : WN (oSees A f o).2 (n + 1) := by
  unfold oSees
  split
  · exact h.up
  · exact h.fn hn _
theorem wn_seen (h : WN A n) (hn : n < 1000) (f : Int) : WN (oSeen A f).2 (n + 1) := by
  unfold oSeen
  split
  · exact h.up
  · exact h.fn hn _
theorem wn_rings (h : WN A n) : WN (oRings A).2 (n + 1) := h.up
theorem wn_ring (h : WN A n) (hn : n < 1000) (i s : Int) : WN (oRing A i s).2 (n + 1) := by
  unfold oRing
  split
  · exact h.up
  · exact h.fn hn _
theorem wn_lamp (h : WN A n) (hn : n < 1000) (f w c : Int) : WN (oLamp A f w c).2 (n + 1) := by
  unfold oLamp
  split
  · exact h.fn hn _
  · next c1 =>
    split
    · exact h.fn hn _
    · next c2 =>
      split
      · exact h.fn hn _
      · have c1 := Classical.not_not.mp c1
        have c2 := Classical.not_not.mp c2
        exact h.kp (wf_addL h.1.1 c1.1 c1.2.1 c1.2.2 c2.1 (by omega))
theorem wn_out (h : WN A n) (hn : n < 1000) : WN (oOut A).2 (n + 1) := by
  unfold oOut
  split
  · exact h.fn hn _
  · next c => exact h.kp (wf_out h.1.1 c)
theorem wn_face (h : WN A n) (hn : n < 1000) (l w : Int) : WN (oFace A l w).2 (n + 1) := by
  unfold oFace
  split
  · exact h.fn hn _
  · next c =>
    have c := Classical.not_not.mp c
    exact h.kp (wf_face h.1.1 c.1.1 c.2)
theorem wn_lit (h : WN A n) (hn : n < 1000) (f : Int) : WN (oLit A f).2 (n + 1) := by
  unfold oLit
  split
  · exact h.up
  · exact h.fn hn _
theorem wn_bright (h : WN A n) (hn : n < 1000) (f : Int) : WN (oBright A f).2 (n + 1) := by
  unfold oBright
  split
  · exact h.up
  · exact h.fn hn _
theorem wn_opened (h : WN A n) (b : Int) : WN (oOpened A b).2 (n + 1) := h.up
theorem wn_open (h : WN A n) : WN (oOpen A).2 (n + 1) := h.kp (rdF_wf 82 A.1 h.1.1)
theorem wn_turns (h : WN A n) (hn : n < 1000) (l g : Int) : WN (oTurns A l g).2 (n + 1) := by
  unfold oTurns
  split
  · split
    · exact h.fn hn _
    · exact h.up
  · exact h.fn hn _
theorem wn_turn (h : WN A n) (hn : n < 1000) (s : Int) : WN (oTurn A s).2 (n + 1) := by
  unfold oTurn
  split
  · exact h.kp (wf_turn h.1.1 s)
  · exact h.fn hn _
theorem wn_far (h : WN A n) (hn : n < 1000) (a b : Int) : WN (oFar A a b).2 (n + 1) := by
  unfold oFar
  split
  · split
    · exact h.fn hn _
    · exact h.up
  · exact h.fn hn _
theorem wn_first (h : WN A n) (hn : n < 1000) (a b : Int) : WN (oFirst A a b).2 (n + 1) := by
  unfold oFirst
  split
  · split
    · exact h.fn hn _
    · exact h.up
  · exact h.fn hn _
theorem wn_reach (h : WN A n) (hn : n < 1000) (a : Int) : WN (oReach A a).2 (n + 1) := by
  unfold oReach
  split
  · split
    · exact h.up
    · exact h.fn hn _
  · exact h.fn hn _
theorem wn_visit (h : WN A n) (hn : n < 1000) (a b : Int) : WN (oVisit A a b).2 (n + 1) := by
  unfold oVisit
  split
  · split
    · exact h.fn hn _
    · exact h.up
  · exact h.fn hn _
theorem wn_sheet (h : WN A n) (hn : n < 1000) (s b m : Int) : WN (oSheet A s b m).2 (n + 1) := by
  unfold oSheet
  split
  · exact h.fn hn _
  · next c =>
    split
    · exact h.fn hn _
    · next c2 =>
      split
      · exact h.fn hn _
      · next c3 =>
        have c := Classical.not_not.mp c
        obtain ⟨⟨h1, h2, h3, h4, h5⟩, h6⟩ := h
        refine ⟨⟨h1, h2, h3, h4, fun t a b' => ?_⟩, by show A.2.2.2.1 ≤ n + 1; omega⟩
        show ((set1 A.2.2.2.2.1 s b) t = 0 ∨ (set1 A.2.2.2.2.1 s b) t = 8 ∨ (set1 A.2.2.2.2.1 s b) t = 16 ∨ (set1 A.2.2.2.2.1 s b) t = 32) ∧ (0 ≤ (set1 A.2.2.2.2.2.1 s (if b = 0 then 0 else m)) t ∧ (set1 A.2.2.2.2.2.1 s (if b = 0 then 0 else m)) t ≤ 30)
        unfold set1
        by_cases q : t = s
        · rw [if_pos q, if_pos q]
          exact ⟨c.2, by split <;> omega⟩
        · rw [if_neg q, if_neg q]; exact h5 t a b'
theorem wn_sv (h : WN A n) (sv : Int → Int) : WN (shA A A.2.2.2.2.1 A.2.2.2.2.2.1 sv) (n + 1) := ⟨⟨h.1.1, h.1.2.1, h.1.2.2.1, h.1.2.2.2.1, h.1.2.2.2.2⟩, by have := h.2; show A.2.2.2.1 ≤ n + 1; omega⟩
theorem wn_put (h : WN A n) (hn : n < 1000) (s i v : Int) : WN (oPut A s i v).2 (n + 1) := by
  unfold oPut
  split
  · exact h.fn hn _
  · split
    · exact h.fn hn _
    · split
      · exact h.fn hn _
      · exact wn_sv h _
theorem wn_copy (h : WN A n) (hn : n < 1000) (s a t b m : Int) : WN (oCopy A s a t b m).2 (n + 1) := by
  unfold oCopy
  split
  · exact h.fn hn _
  · split
    · exact h.fn hn _
    · split
      · exact h.fn hn _
      · split
        · exact h.fn hn _
        · exact wn_sv h _
theorem wn_row (h : WN A n) (hn : n < 1000) (y s : Int) : WN (oRow A y s).2 (n + 1) := by
  unfold oRow
  split
  · exact h.fn hn _
  · next c =>
    split
    · exact h.fn hn _
    · have c := Classical.not_not.mp c
      refine h.kp (wf_row _ y _ A.1 0 h.1.1 c.1.1 c.1.2 (by omega) ?_)
      have h1 := h.1.1.1
      have h2 := (h.1.2.2.2.2 s c.2.1 c.2.2).2
      unfold rwN
      split <;> omega
theorem wn_undo (h : WN A n) (hn : n < 1000) : WN (oUndo A).2 (n + 1) := by
  unfold oUndo
  split
  · exact h.fn hn _
  · next c =>
    obtain ⟨⟨h1, h2, h3, h4, h5⟩, h6⟩ := h
    exact ⟨⟨h2 (A.2.1 - 1) (by omega) (by omega), fun i a b => h2 i a (by have b : i < A.2.1 - 1 := b; omega), by show 0 ≤ A.2.1 - 1 ∧ A.2.1 - 1 ≤ 20; omega, h4, h5⟩, by show A.2.2.2.1 ≤ n + 1; omega⟩
theorem wn_all (h : WN A n) (hn : n < 1000) (w : Int) : WN (oAll A w).2 (n + 1) := by
  unfold oAll
  split
  · exact h.up
  · split
    · exact h.up
    · split
      · exact h.up
      · split
        · exact h.up
        · split
          · exact h.up
          · split
            · exact h.up
            · exact h.fn hn _
end WNS
section VWS
variable {σ σ' : Sg} {A : AT} {B : Int}
theorem MV.fc (h : MV σ A) (hf : Fr 0 211 σ σ') : MV σ' A := h.cg (fun j a b => hf j (by omega)) (by rw [hf 212 (by omega)]) (by rw [hf 212 (by omega)])
theorem CV.fm (h : CV σ A B) (hf : Fr 212 230 σ σ') : CV σ' A B := ⟨h.1.fr hf (by omega), h.2.1.cg (fun j a b => hf j (by omega)), by rw [hf 0 (by omega)]; exact h.2.2.1, h.2.2.2.1.cg (fun j a b => hf j (by omega)), h.2.2.2.2.1.fr hf (by omega) (Int.le_refl _), h.2.2.2.2.2.1.fr hf (by omega) (Int.le_refl _), h.2.2.2.2.2.2.1.fr hf (by omega) (Int.le_refl _), h.2.2.2.2.2.2.2.fr hf (by omega) (Int.le_refl _)⟩
end VWS
