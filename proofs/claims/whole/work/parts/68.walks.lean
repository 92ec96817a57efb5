-- WALKS: the pure side
abbrev BS : Type := Nat × (Int → Int) × (Int → Int)
/-- a field is told, if it is new and can be walked on -/
def bad1 (M : Int → Int) (g v : Int) (b : BS) : BS := if 0 ≤ g ∧ b.2.2 g < 0 ∧ walkP M g then (b.1 + 1, updI b.2.1 b.1 g, updI b.2.2 g v) else b
def bex (M : Int → Int) (f : Int) : Nat → BS → BS
  | 0, b => b
  | n + 1, b => bad1 M (nxf M f n) ((bex M f n b).2.2 f + 1) (bex M f n b)
def bfs (M : Int → Int) : Nat → Nat → BS → BS
  | 0, _, b => b
  | n + 1, i, b => if i < b.1 then bfs M n (i + 1) (bex M (b.2.1 i) 4 b) else b
def bf0 (M : Int → Int) (a : Int) : BS := bad1 M a 0 (0, fun _ => 0, fun _ => -1)
def bfa (M : Int → Int) (a : Int) : BS := bfs M 81 0 (bf0 M a)
def dst (M : Int → Int) (a f : Int) : Int := (bfa M a).2.2 f
def dct (M : Int → Int) (a : Int) : Int := ((bfa M a).1 : Int)
/-- the smallest set that holds a and where one can walk from it -/
def wr (M : Int → Int) (a f : Int) : Prop := ∀ S : Int → Prop, S a → (∀ x w, S x → isW w → 0 ≤ nxf M x w → walkP M (nxf M x w) → S (nxf M x w)) → S f
theorem wr_self (M : Int → Int) (a : Int) : wr M a a := fun _ h _ => h
theorem wr_step {M : Int → Int} {a x w : Int} (h : wr M a x) (hw : isW w) (h0 : 0 ≤ nxf M x w) (h1 : walkP M (nxf M x w)) : wr M a (nxf M x w) := fun S g1 g2 => g2 x w (h S g1 g2) hw h0 h1
theorem wr_tr {M : Int → Int} {a x y : Int} (h : wr M a x) (g : wr M x y) : wr M a y := g (wr M a) h (fun _ _ a b c d => wr_step a b c d)
theorem wr_ok {M : Int → Int} (hM : wfB M) {a x : Int} (ha : isF M a) (hw : walkP M a) (h : wr M a x) : isF M x ∧ walkP M x ∧ wr M x a := by
  refine h (fun x => isF M x ∧ walkP M x ∧ wr M x a) ⟨ha, hw, wr_self M a⟩ (fun x w h hw h0 h1 => ?_)
  obtain ⟨g1, g2, g3⟩ := h
  have hn : isF M (nxf M x w) := by
    rcases nxf_B hM (f := x) (w := w) g1.1 g1.2.1 with q | q
    · omega
    · exact q.1
  have e := nxf_back hM g1 hw h0
  refine ⟨hn, h1, wr_tr ?_ g3⟩
  have := wr_step (M := M) (wr_self M (nxf M x w)) (opp_W w) (by rw [e]; exact g1.1) (by rw [e]; exact g2)
  rw [e] at this
  exact this
def BX (b b' : BS) : Prop := b.1 ≤ b'.1 ∧ (∀ j : Nat, j < b.1 → b'.2.1 j = b.2.1 j) ∧ ∀ f, 0 ≤ b.2.2 f → b'.2.2 f = b.2.2 f
theorem BX.rf {b : BS} : BX b b := ⟨Nat.le_refl _, fun _ _ => rfl, fun _ _ => rfl⟩
theorem BX.tr {b c d : BS} (h : BX b c) (g : BX c d) : BX b d := ⟨Nat.le_trans h.1 g.1, fun j hj => (g.2.1 j (Nat.lt_of_lt_of_le hj h.1)).trans (h.2.1 j hj), fun f hf => (g.2.2 f (by rw [h.2.2 f hf]; exact hf)).trans (h.2.2 f hf)⟩
def BI (M : Int → Int) (a : Int) (i : Nat) (b : BS) : Prop := (∀ j : Nat, j < b.1 → isF M (b.2.1 j) ∧ (walkP M a ∧ wr M a (b.2.1 j)) ∧ 0 ≤ b.2.2 (b.2.1 j)) ∧ (∀ j l : Nat, j < l → l < b.1 → b.2.1 j ≠ b.2.1 l) ∧ (∀ f, 0 ≤ f → f < 81 → 0 ≤ b.2.2 f → ∃ j : Nat, j < b.1 ∧ b.2.1 j = f) ∧ (∀ f, 0 ≤ f → f < 81 → -1 ≤ b.2.2 f ∧ b.2.2 f < b.1) ∧ ∀ j : Nat, j < i → j < b.1 → ∀ w, isW w → 0 ≤ nxf M (b.2.1 j) w → walkP M (nxf M (b.2.1 j) w) → 0 ≤ b.2.2 (nxf M (b.2.1 j) w)
theorem nodup_b {N c : Nat} {g : Nat → Int} (h : ∀ i, i < c → 0 ≤ g i ∧ g i < N) (hd : ∀ i j, i < j → j < c → g i ≠ g j) : c ≤ N := by
  refine Classical.byContradiction (fun q => ?_)
  obtain ⟨i, j, a, b, e⟩ := php N g (fun i hi => h i (by omega))
  exact hd i j a (by omega) e
theorem BI.bd {M : Int → Int} {a : Int} {i : Nat} {b : BS} (h : BI M a i b) : b.1 ≤ 81 := nodup_b (N := 81) (g := fun j => b.2.1 j) (fun j hj => ⟨(h.1 j hj).1.1, (h.1 j hj).1.2.1⟩) h.2.1
theorem BI.add {M : Int → Int} {a : Int} {i : Nat} {b : BS} (h : BI M a i b) (hi : i ≤ b.1) {g v : Int} (hg : 0 ≤ g → walkP M g → isF M g ∧ walkP M a ∧ wr M a g) (hv : 0 ≤ v ∧ v ≤ b.1) : BI M a i (bad1 M g v b) ∧ BX b (bad1 M g v b) ∧ (0 ≤ g → walkP M g → 0 ≤ (bad1 M g v b).2.2 g) := by
  by_cases q : 0 ≤ g ∧ b.2.2 g < 0 ∧ walkP M g
  · obtain ⟨g1, g2, g3⟩ := hg q.1 q.2.2
    have e : bad1 M g v b = (b.1 + 1, updI b.2.1 b.1 g, updI b.2.2 g v) := if_pos q
    rw [e]
    obtain ⟨h1, h2, h3, h4, h5⟩ := h
    have u1 : ∀ j : Nat, j < b.1 → updI b.2.1 b.1 g j = b.2.1 j := fun j hj => if_neg (by omega)
    have u2 : updI b.2.1 b.1 g b.1 = g := if_pos rfl
    have u3 : updI b.2.2 g v g = v := if_pos rfl
    have u4 : ∀ f, f ≠ g → updI b.2.2 g v f = b.2.2 f := fun f hf => if_neg hf
    have u5 : ∀ f, 0 ≤ b.2.2 f → updI b.2.2 g v f = b.2.2 f := fun f hf => u4 f (fun c => by rw [c] at hf; omega)
    refine ⟨⟨fun j hj => ?_, fun j l x y => ?_, fun f x y z => ?_, fun f x y => ?_, fun j x y w hw n0 n1 => ?_⟩, ⟨Nat.le_succ _, u1, u5⟩, fun _ _ => ?_⟩
    · show isF M (updI b.2.1 b.1 g j) ∧ (walkP M a ∧ wr M a (updI b.2.1 b.1 g j)) ∧ 0 ≤ updI b.2.2 g v (updI b.2.1 b.1 g j)
      have hj : j < b.1 + 1 := hj
      by_cases e : j = b.1
      · rw [e, u2, u3]; exact ⟨g1, ⟨g2, g3⟩, hv.1⟩
      · rw [u1 j (by omega)]
        have := h1 j (by omega)
        exact ⟨this.1, this.2.1, by rw [u5 _ this.2.2]; exact this.2.2⟩
    · show updI b.2.1 b.1 g j ≠ updI b.2.1 b.1 g l
      have y : l < b.1 + 1 := y
      rw [u1 j (by omega)]
      by_cases e : l = b.1
      · rw [e, u2]
        intro c
        have := (h1 j (by omega)).2.2
        rw [c] at this
        omega
      · rw [u1 l (by omega)]; exact h2 j l x (by omega)
    · show ∃ j : Nat, j < b.1 + 1 ∧ updI b.2.1 b.1 g j = f
      have z : 0 ≤ updI b.2.2 g v f := z
      by_cases e : f = g
      · exact ⟨b.1, by omega, by rw [u2, e]⟩
      · rw [u4 f e] at z
        obtain ⟨j, s, t⟩ := h3 f x y z
        exact ⟨j, by omega, by rw [u1 j s]; exact t⟩
    · show -1 ≤ updI b.2.2 g v f ∧ updI b.2.2 g v f < ((b.1 + 1 : Nat) : Int)
      by_cases e : f = g
      · rw [e, u3]; omega
      · rw [u4 f e]
        have := h4 f x y
        omega
    · have n0 : 0 ≤ nxf M (updI b.2.1 b.1 g j) w := n0
      have n1 : walkP M (nxf M (updI b.2.1 b.1 g j) w) := n1
      show 0 ≤ updI b.2.2 g v (nxf M (updI b.2.1 b.1 g j) w)
      rw [u1 j (by omega)] at n0 n1 ⊢
      have := h5 j x (by omega) w hw n0 n1
      rw [u5 _ this]
      exact this
    · show 0 ≤ updI b.2.2 g v g
      rw [u3]; exact hv.1
  · have e : bad1 M g v b = b := if_neg q
    rw [e]
    exact ⟨h, BX.rf, fun a b => by omega⟩
theorem BI.ex {M : Int → Int} (hM : wfB M) {a : Int} (ha : isF M a) {i : Nat} {b : BS} (h : BI M a i b) (hi : i < b.1) : ∀ n : Nat, n ≤ 4 → BI M a i (bex M (b.2.1 i) n b) ∧ BX b (bex M (b.2.1 i) n b) ∧ ∀ w, 0 ≤ w → w < (n : Int) → 0 ≤ nxf M (b.2.1 i) w → walkP M (nxf M (b.2.1 i) w) → 0 ≤ (bex M (b.2.1 i) n b).2.2 (nxf M (b.2.1 i) w)
  | 0, _ => ⟨h, BX.rf, fun w x y => by omega⟩
  | n + 1, hn => by
    obtain ⟨h1, h2, h3⟩ := BI.ex hM ha h hi n (by omega)
    have hf := h.1 i hi
    have hd := h2.2.2 (b.2.1 i) hf.2.2
    have hb := h.2.2.2.1 (b.2.1 i) hf.1.1 hf.1.2.1
    have h21 := h2.1
    obtain ⟨g1, g2, g3⟩ := h1.add (by omega) (g := nxf M (b.2.1 i) n) (v := (bex M (b.2.1 i) n b).2.2 (b.2.1 i) + 1) (fun a1 a2 => by
      have hw := wr_step (w := (n : Int)) hf.2.1.2 (by omega) a1 a2
      exact ⟨(wr_ok hM ha hf.2.1.1 hw).1, hf.2.1.1, hw⟩) (by omega)
    refine ⟨g1, h2.tr g2, fun w x y n0 n1 => ?_⟩
    by_cases e : w = n
    · subst e; exact g3 n0 n1
    · have := h3 w x (by omega) n0 n1
      show 0 ≤ (bad1 M (nxf M (b.2.1 i) n) ((bex M (b.2.1 i) n b).2.2 (b.2.1 i) + 1) (bex M (b.2.1 i) n b)).2.2 (nxf M (b.2.1 i) w)
      rw [g2.2.2 _ this]
      exact this
theorem BI.next {M : Int → Int} (hM : wfB M) {a : Int} (ha : isF M a) {i : Nat} {b : BS} (h : BI M a i b) (hi : i < b.1) : BI M a (i + 1) (bex M (b.2.1 i) 4 b) := by
  obtain ⟨h1, h2, h3⟩ := h.ex hM ha hi 4 (by omega)
  obtain ⟨g1, g2, g3, g4, g5⟩ := h1
  refine ⟨g1, g2, g3, g4, fun j x y w hw n0 n1 => ?_⟩
  by_cases e : j = i
  · subst e
    rw [h2.2.1 j hi] at n0 n1 ⊢
    exact h3 w hw.1 hw.2 n0 n1
  · exact g5 j (by omega) y w hw n0 n1
theorem BI.start {M : Int → Int} {a : Int} (ha : isF M a) : BI M a 0 (bf0 M a) ∧ (walkP M a → 0 ≤ (bf0 M a).2.2 a) := by
  have h0 : BI M a 0 (0, fun _ => 0, fun _ => -1) := ⟨fun j hj => absurd hj (Nat.not_lt_zero _), fun j l x y => absurd y (Nat.not_lt_zero _), fun f x y z => absurd z (by show ¬ (0 : Int) ≤ -1; omega), fun f x y => by show (-1 : Int) ≤ -1 ∧ (-1 : Int) < ((0 : Nat) : Int); omega, fun j x y => by omega⟩
  have h1 := h0.add (Nat.le_refl _) (g := a) (v := 0) (fun _ c => ⟨ha, c, wr_self M a⟩) ⟨Int.le_refl 0, by show (0 : Int) ≤ ((0 : Nat) : Int); omega⟩
  exact ⟨h1.1, h1.2.2 ha.1⟩
theorem bfs_ok {M : Int → Int} (hM : wfB M) {a : Int} (ha : isF M a) : ∀ (n i : Nat) (b : BS), i + n = 81 → BI M a i b → i ≤ b.1 → BI M a (bfs M n i b).1 (bfs M n i b) ∧ BX b (bfs M n i b)
  | 0, i, b, h, hB, hi => by
    have := hB.bd
    have e : i = b.1 := by omega
    subst e
    exact ⟨hB, BX.rf⟩
  | n + 1, i, b, h, hB, hi => by
    unfold bfs
    by_cases q : i < b.1
    · rw [if_pos q]
      have hx := (hB.ex hM ha q 4 (by omega)).2.1
      have hxx := hx.1
      obtain ⟨g1, g2⟩ := bfs_ok hM ha n (i + 1) (bex M (b.2.1 i) 4 b) (by omega) (hB.next hM ha q) (by omega)
      exact ⟨g1, hx.tr g2⟩
    · rw [if_neg q]
      have e : i = b.1 := by omega
      subst e
      exact ⟨hB, BX.rf⟩
theorem dst_ok {M : Int → Int} (hM : wfB M) {a : Int} (ha : isF M a) : (∀ f, 0 ≤ f → f < 81 → (0 ≤ dst M a f ↔ walkP M a ∧ wr M a f)) ∧ (∀ f, 0 ≤ f → f < 81 → -1 ≤ dst M a f ∧ dst M a f < 81) ∧ dct M a = cP (fun f => 0 ≤ dst M a f) 0 81 := by
  obtain ⟨s1, s2⟩ := BI.start (M := M) ha
  obtain ⟨h, hx⟩ := bfs_ok hM ha 81 0 (bf0 M a) (by omega) s1 (Nat.zero_le _)
  have hb := h.bd
  obtain ⟨h1, h2, h3, h4, h5⟩ := h
  have e : ∀ f, dst M a f = (bfs M 81 0 (bf0 M a)).2.2 f := fun f => rfl
  refine ⟨fun f x y => ⟨fun z => ?_, fun z => ?_⟩, fun f x y => ?_, ?_⟩
  · obtain ⟨j, u, v⟩ := h3 f x y z
    have := (h1 j u).2.1
    rw [v] at this
    exact this
  · have hs : 0 ≤ dst M a a := by
      rw [e, hx.2.2 a (s2 z.1)]
      exact s2 z.1
    have key := z.2 (fun f => isF M f ∧ 0 ≤ dst M a f) ⟨ha, hs⟩ (fun t w ht hw n0 n1 => by
      refine ⟨?_, ?_⟩
      · rcases nxf_B hM (f := t) (w := w) ht.1.1 ht.1.2.1 with q | q
        · omega
        · exact q.1
      · obtain ⟨j, u, v⟩ := h3 t ht.1.1 ht.1.2.1 ht.2
        rw [← v] at n0 n1 ⊢
        exact h5 j u u w hw n0 n1)
    exact key.2
  · have := h4 f x y
    rw [e]
    omega
  · exact (cP_card 81 (bfs M 81 0 (bf0 M a)).1 (fun j => (bfs M 81 0 (bf0 M a)).2.1 j) (fun f => 0 ≤ dst M a f) (fun j hj => ⟨(h1 j hj).1.1, (h1 j hj).1.2.1⟩) h2 (fun p x y => ⟨fun z => h3 p x y z, fun ⟨j, u, v⟩ => by rw [e, ← v]; exact (h1 j u).2.2⟩)).symm
theorem dst_sym {M : Int → Int} (hM : wfB M) {a b : Int} (ha : isF M a) (hb : isF M b) : 0 ≤ dst M a b ↔ 0 ≤ dst M b a := by
  rw [(dst_ok hM ha).1 b hb.1 hb.2.1, (dst_ok hM hb).1 a ha.1 ha.2.1]
  constructor
  · intro h
    have := wr_ok hM ha h.1 h.2
    exact ⟨this.2.1, this.2.2⟩
  · intro h
    have := wr_ok hM hb h.1 h.2
    exact ⟨this.2.1, this.2.2⟩
