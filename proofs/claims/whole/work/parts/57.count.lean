-- COUNTING by any predicate; RAYS THAT GO BACK
noncomputable def cP (P : Int → Prop) (i : Int) (n : Nat) : Int := @cn P (fun _ => Classical.propDecidable _) i n
theorem cP_eq (P : Int → Prop) [DecidablePred P] (i : Int) (n : Nat) : cn P i n = cP P i n := by
  unfold cP
  exact @cn_congr P P _ (fun _ => Classical.propDecidable _) i n (fun _ _ _ => Iff.rfl)
theorem cP_congr {P Q : Int → Prop} {i : Int} {n : Nat} (h : ∀ j, i ≤ j → j < i + n → (P j ↔ Q j)) : cP P i n = cP Q i n := @cn_congr P Q (fun _ => Classical.propDecidable _) (fun _ => Classical.propDecidable _) i n h
theorem cP_bd (P : Int → Prop) (i : Int) (n : Nat) : 0 ≤ cP P i n ∧ cP P i n ≤ n := @cn_bd P (fun _ => Classical.propDecidable _) i n
theorem cP_s (P : Int → Prop) (i : Int) (n : Nat) : (P i → cP P i (n + 1) = 1 + cP P (i + 1) n) ∧ (¬ P i → cP P i (n + 1) = cP P (i + 1) n) := by
  constructor
  · intro h
    show (@ite Int (P i) (Classical.propDecidable _) 1 0) + cP P (i + 1) n = _
    rw [if_pos h]
  · intro h
    show (@ite Int (P i) (Classical.propDecidable _) 1 0) + cP P (i + 1) n = _
    rw [if_neg h]
    exact Int.zero_add _
theorem cP_rm (P : Int → Prop) (x : Int) (h : P x) : ∀ (n : Nat) (i : Int), i ≤ x → x < i + n → cP P i n = 1 + cP (fun y => P y ∧ y ≠ x) i n
  | 0, i, a, b => by omega
  | n + 1, i, a, b => by
    by_cases e : x = i
    · subst e
      rw [(cP_s P x n).1 h, (cP_s (fun y => P y ∧ y ≠ x) x n).2 (fun c => c.2 rfl), cP_congr (P := P) (Q := fun y => P y ∧ y ≠ x) (fun j u v => ⟨fun q => ⟨q, by omega⟩, fun q => q.1⟩)]
    · have ih := cP_rm P x h n (i + 1) (by omega) (by omega)
      by_cases q : P i
      · rw [(cP_s P i n).1 q, (cP_s (fun y => P y ∧ y ≠ x) i n).1 ⟨q, fun c => e c.symm⟩, ih]
      · rw [(cP_s P i n).2 q, (cP_s (fun y => P y ∧ y ≠ x) i n).2 (fun c => q c.1), ih]
theorem cP_0 (P : Int → Prop) : ∀ (n : Nat) (i : Int), (∀ j, i ≤ j → j < i + n → ¬ P j) → cP P i n = 0
  | 0, _, _ => rfl
  | n + 1, i, h => by
    rw [(cP_s P i n).2 (h i (by omega) (by omega))]
    exact cP_0 P n (i + 1) (fun j a b => h j (by omega) (by omega))
theorem cP_card (N : Nat) : ∀ (c : Nat) (g : Nat → Int) (P : Int → Prop), (∀ j, j < c → 0 ≤ g j ∧ g j < N) → (∀ i j, i < j → j < c → g i ≠ g j) → (∀ p : Int, 0 ≤ p → p < N → (P p ↔ ∃ j, j < c ∧ g j = p)) → cP P 0 N = c
  | 0, g, P, h1, h2, h3 => cP_0 P N 0 (fun j a b q => by
      obtain ⟨i, u, v⟩ := (h3 j a (by omega)).mp q
      omega)
  | c + 1, g, P, h1, h2, h3 => by
    have hc := h1 c (by omega)
    rw [cP_rm P (g c) ((h3 (g c) hc.1 hc.2).mpr ⟨c, by omega, rfl⟩) N 0 hc.1 (by omega), cP_card N c g (fun y => P y ∧ y ≠ g c) (fun j a => h1 j (by omega)) (fun i j a b => h2 i j a (by omega)) (fun p a b => ?_)]
    · omega
    · rw [h3 p a b]
      constructor
      · intro ⟨⟨j, u, v⟩, e⟩
        have : j ≠ c := fun q => e (by rw [← v, q])
        exact ⟨j, by omega, v⟩
      · intro ⟨j, u, v⟩
        exact ⟨⟨j, by omega, v⟩, fun q => h2 j c u (by omega) (v.trans q)⟩
def opp (w : Int) : Int := (w + 2) % 4
theorem opp_W (w : Int) : isW (opp w) := by unfold opp; omega
theorem opp_d {w : Int} (hw : isW w) : dx (opp w) = - dx w ∧ dy (opp w) = - dy w := by
  have : w = 0 ∨ w = 1 ∨ w = 2 ∨ w = 3 := by omega
  rcases this with h | h | h | h <;> subst h <;> decide
theorem nxf_back {M : Int → Int} (hM : wfB M) {f w : Int} (hf : isF M f) (hw : isW w) (h : 0 ≤ nxf M f w) : nxf M (nxf M f w) (opp w) = f := by
  obtain ⟨d1, d2⟩ := opp_d hw
  rcases nxf_B hM (f := f) (w := w) hf.1 hf.2.1 with q | ⟨q1, q2, q3⟩
  · omega
  · generalize nxf M f w = g at *
    unfold nxf
    rw [d1, d2, if_pos (by omega)]
    omega
theorem wout_opp (M : Int → Int) (f : Int) {w : Int} (hw : isW w) : wout M f (opp (wout M f w)) = opp w := by
  unfold wout
  by_cases h : isMir (M (4 + f))
  · rw [if_pos h, if_pos h]
    by_cases hl : M (85 + f) = 0
    · unfold trn opp
      rw [if_pos hl, if_pos hl]
      omega
    · have : w = 0 ∨ w = 1 ∨ w = 2 ∨ w = 3 := by omega
      rcases this with h | h | h | h <;> subst h <;> simp [trn, opp, hl]
  · rw [if_neg h, if_neg h]
/-- the place from which the ray goes back that went from a -/
def bk (M : Int → Int) (a : Int) : Int := 4 * nx1 M a + opp (a % 4)
theorem bk_dm (M : Int → Int) (a : Int) : bk M a / 4 = nx1 M a ∧ bk M a % 4 = opp (a % 4) := by
  have := opp_W (a % 4)
  unfold bk
  omega
theorem nx1_bk {M : Int → Int} (hM : wfB M) {a : Int} (ha : isF M (a / 4)) (h : 0 ≤ nx1 M a) : nx1 M (bk M a) = a / 4 := by
  obtain ⟨e1, e2⟩ := bk_dm M a
  show nxf M (bk M a / 4) (bk M a % 4) = a / 4
  rw [e1, e2]
  exact nxf_back hM ha (by omega) h
theorem bk_suc {M : Int → Int} (hM : wfB M) {a b : Int} (ha : isP a) (h : sucs M a b) (hb : 0 ≤ nx1 M b) : sucs M (bk M b) (bk M a) := by
  obtain ⟨p1, p2, p3⟩ := sucs_P hM ha h
  obtain ⟨e1, e2⟩ := bk_dm M b
  have e3 := nx1_bk hM p2 hb
  unfold sucs
  rw [e3, e2, p3]
  refine ⟨h.1, h.2.1, ?_⟩
  have hw := wout_W (M := M) (f := nx1 M a) (w := a % 4) (by omega)
  rcases h.2.2 with e | ⟨q, e⟩
  · left
    rw [show b % 4 = wout M (nx1 M a) (a % 4) from by omega, wout_opp M _ (by omega)]
    rfl
  · right
    rw [show b % 4 = a % 4 from by omega]
    exact ⟨q, rfl⟩
theorem bk_rch {M : Int → Int} (hM : wfB M) {r p : Int} (hr : isP r) (hf : isF M (r / 4)) (h : rch M r p) : 0 ≤ nx1 M p → 0 ≤ nx1 M r ∧ rch M (bk M p) (bk M r) :=
  (h (fun p => (isP p ∧ isF M (p / 4)) ∧ (0 ≤ nx1 M p → 0 ≤ nx1 M r ∧ rch M (bk M p) (bk M r))) ⟨⟨hr, hf⟩, fun q => ⟨q, rch_self _ _⟩⟩ (fun a b ha hs => ⟨⟨(sucs_P hM ha.1.1 hs).1, (sucs_P hM ha.1.1 hs).2.1⟩, fun q => ⟨(ha.2 hs.1).1, rch_tr (rch_step (rch_self _ _) (bk_suc hM ha.1.1 hs q)) (ha.2 hs.1).2⟩⟩)).2
theorem seen_iff {M : Int → Int} (hM : wfB M) {f g : Int} (hf : isF M f) (hg : isF M g) (hs : ¬ stopsP M f) : (∃ w, isW w ∧ cmt M (4 * g + w) f) ↔ ∃ w, isW w ∧ (cmt M (4 * f + w) g ∨ ens M (4 * f + w) g) := by
  constructor
  · intro ⟨w, hw, a, h1, h2, h3⟩
    have eg : (4 * g + w) / 4 = g := by omega
    have hfg : isF M ((4 * g + w) / 4) := by rw [eg]; exact hg
    have ha := rch_P hM (r := 4 * g + w) (by omega) hfg h1
    obtain ⟨b1, b2⟩ := bk_rch hM (r := 4 * g + w) (by omega) hfg h1 (by omega)
    have e := nx1_bk hM hfg b1
    rw [eg] at e
    have e2 : bk M a = 4 * f + opp (a % 4) := by unfold bk; rw [h2]
    rw [e2] at b2
    refine ⟨opp (a % 4), opp_W _, ?_⟩
    by_cases q : stopsP M g
    · exact Or.inr ⟨_, b2, e, q⟩
    · exact Or.inl ⟨_, b2, e, q⟩
  · intro ⟨w, hw, h⟩
    have h : ∃ a, rch M (4 * f + w) a ∧ nx1 M a = g := by
      rcases h with ⟨a, h1, h2, h3⟩ | ⟨a, h1, h2, h3⟩
      · exact ⟨a, h1, h2⟩
      · exact ⟨a, h1, h2⟩
    obtain ⟨a, h1, h2⟩ := h
    have ef : (4 * f + w) / 4 = f := by omega
    have hff : isF M ((4 * f + w) / 4) := by rw [ef]; exact hf
    obtain ⟨b1, b2⟩ := bk_rch hM (r := 4 * f + w) (by omega) hff h1 (by omega)
    have e := nx1_bk hM hff b1
    rw [ef] at e
    have e2 : bk M a = 4 * g + opp (a % 4) := by unfold bk; rw [h2]
    rw [e2] at b2
    exact ⟨opp (a % 4), opp_W _, _, b2, e, hs⟩
theorem cmt_F {M : Int → Int} (hM : wfB M) {r f : Int} (hr : isP r) (hf : isF M (r / 4)) (h0 : 0 ≤ f) (h : cmt M r f ∨ ens M r f) : isF M f := by
  have h : ∃ a, rch M r a ∧ nx1 M a = f := by
    rcases h with ⟨a, h1, h2, h3⟩ | ⟨a, h1, h2, h3⟩
    · exact ⟨a, h1, h2⟩
    · exact ⟨a, h1, h2⟩
  obtain ⟨a, h1, h2⟩ := h
  have ha := rch_P hM hr hf h1
  have := nxf_B hM (f := a / 4) (w := a % 4) (by omega) (by omega)
  unfold nx1 at h2
  rw [h2] at this
  rcases this with q | q
  · omega
  · exact q.1
/-- f is among the fields of the spread -/
def atP (M : Int → Int) (r f : Int) : Prop := f = r / 4 ∨ cmt M r f
theorem suc_ex {M : Int → Int} {a : Int} (h0 : 0 ≤ nx1 M a) (h1 : ¬ stopsP M (nx1 M a)) : sucs M a (4 * nx1 M a + wout M (nx1 M a) (a % 4)) := ⟨h0, h1, Or.inl rfl⟩
theorem cmt_iff {M : Int → Int} (hM : wfB M) {r f : Int} (hr : isP r) (hf : isF M (r / 4)) (h0 : 0 ≤ f) : cmt M r f ↔ ∃ w, isW w ∧ ∃ a, rch M r a ∧ sucs M a (4 * f + w) := by
  constructor
  · intro ⟨a, h1, h2, h3⟩
    subst h2
    have ha := rch_P hM hr hf h1
    exact ⟨wout M (nx1 M a) (a % 4), wout_W (by omega), a, h1, suc_ex h0 h3⟩
  · intro ⟨w, hw, a, h1, h2⟩
    have ha := rch_P hM hr hf h1
    have h3 := (sucs_P hM ha.1 h2).2.2
    have h4 : nx1 M a = f := by omega
    exact ⟨a, h1, h4, h4 ▸ h2.2.1⟩
theorem at_iff {M : Int → Int} (hM : wfB M) {r f : Int} (hr : isP r) (hf : isF M (r / 4)) (h0 : 0 ≤ f) : atP M r f ↔ ∃ w, isW w ∧ rch M r (4 * f + w) := by
  unfold atP
  rw [cmt_iff hM hr hf h0]
  constructor
  · intro h
    rcases h with h | ⟨w, hw, a, h1, h2⟩
    · exact ⟨r % 4, by omega, by rw [show 4 * f + r % 4 = r from by omega]; exact rch_self M r⟩
    · exact ⟨w, hw, rch_step h1 h2⟩
  · intro ⟨w, hw, h⟩
    have key := h (fun p => rch M r p ∧ (p = r ∨ ∃ a, rch M r a ∧ sucs M a p)) ⟨rch_self M r, Or.inl rfl⟩ (fun a b ha hs => ⟨rch_step ha.1 hs, Or.inr ⟨a, ha.1, hs⟩⟩)
    rcases key.2 with q | ⟨a, h1, h2⟩
    · left; omega
    · exact Or.inr ⟨w, hw, a, h1, h2⟩
