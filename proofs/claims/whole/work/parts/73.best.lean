-- TURNS: bits and the best of sets
theorem bts {x : Int} (h0 : 0 ≤ x) (h1 : x < 1024) : x = bt x 0 + 2 * bt x 1 + 4 * bt x 2 + 8 * bt x 3 + 16 * bt x 4 + 32 * bt x 5 + 64 * bt x 6 + 128 * bt x 7 + 256 * bt x 8 + 512 * bt x 9 := by
  have e0 : bt x 0 = x / 1 % 2 := rfl
  have e1 : bt x 1 = x / 2 % 2 := rfl
  have e2 : bt x 2 = x / 4 % 2 := rfl
  have e3 : bt x 3 = x / 8 % 2 := rfl
  have e4 : bt x 4 = x / 16 % 2 := rfl
  have e5 : bt x 5 = x / 32 % 2 := rfl
  have e6 : bt x 6 = x / 64 % 2 := rfl
  have e7 : bt x 7 = x / 128 % 2 := rfl
  have e8 : bt x 8 = x / 256 % 2 := rfl
  have e9 : bt x 9 = x / 512 % 2 := rfl
  rw [e0, e1, e2, e3, e4, e5, e6, e7, e8, e9]
  omega
theorem bt01 (x i : Int) : bt x i = 0 ∨ bt x i = 1 := by
  unfold bt
  have := Int.emod_nonneg (x / 2 ^ i.toNat) (by omega : (2 : Int) ≠ 0)
  have := Int.emod_lt_of_pos (x / 2 ^ i.toNat) (by omega : (0 : Int) < 2)
  omega
theorem pop10 (x : Int) : pop x = bt x 0 + (bt x 1 + (bt x 2 + (bt x 3 + (bt x 4 + (bt x 5 + (bt x 6 + (bt x 7 + (bt x 8 + (bt x 9 + 0))))))))) := rfl
theorem pop_bd (x : Int) : 0 ≤ pop x ∧ pop x ≤ 10 := by
  have := sm_bd (bt x) 1 (by omega) 0 10 (fun j _ _ => by have := bt01 x j; omega)
  unfold pop
  omega
/-- more bits make it no less -/
theorem sub_le {x y : Int} (h0 : 0 ≤ x) (h1 : x < 1024) (g0 : 0 ≤ y) (g1 : y < 1024) (h : ∀ i, 0 ≤ i → i < 10 → bt x i = 1 → bt y i = 1) : pop x ≤ pop y ∧ x ≤ y := by
  have key : ∀ i, 0 ≤ i → i < 10 → 0 ≤ bt x i ∧ bt x i ≤ bt y i := fun i a b => by
    have := bt01 x i
    have := bt01 y i
    have := h i a b
    omega
  have k0 := key 0 (by omega) (by omega)
  have k1 := key 1 (by omega) (by omega)
  have k2 := key 2 (by omega) (by omega)
  have k3 := key 3 (by omega) (by omega)
  have k4 := key 4 (by omega) (by omega)
  have k5 := key 5 (by omega) (by omega)
  have k6 := key 6 (by omega) (by omega)
  have k7 := key 7 (by omega) (by omega)
  have k8 := key 8 (by omega) (by omega)
  have k9 := key 9 (by omega) (by omega)
  have ex := bts h0 h1
  have ey := bts g0 g1
  rw [pop10, pop10]
  omega
theorem lt_pow {x c : Int} (h0 : 0 ≤ x) (c0 : 0 ≤ c) (c1 : c ≤ 10) : x < 2 ^ c.toNat ↔ x < 1024 ∧ ∀ i, c ≤ i → i < 10 → bt x i = 0 := by
  constructor
  · intro h
    have hp := two_pow c0 c1
    refine ⟨by omega, fun i a b => ?_⟩
    have : (2 : Int) ^ c.toNat ≤ 2 ^ i.toNat := by
      have h3 := Nat.pow_le_pow_right (n := 2) (by omega) (show c.toNat ≤ i.toNat by omega)
      have e1 : ((2 ^ c.toNat : Nat) : Int) = (2 : Int) ^ c.toNat := by simp
      have e2 : ((2 ^ i.toNat : Nat) : Int) = (2 : Int) ^ i.toNat := by simp
      omega
    unfold bt
    rw [Int.ediv_eq_zero_of_lt h0 (by omega)]
    rfl
  · intro ⟨h1, h⟩
    have ex := bts h0 h1
    have b : ∀ i, 0 ≤ bt x i ∧ bt x i ≤ 1 := fun i => by have := bt01 x i; omega
    have k0 := b 0
    have k1 := b 1
    have k2 := b 2
    have k3 := b 3
    have k4 := b 4
    have k5 := b 5
    have k6 := b 6
    have k7 := b 7
    have k8 := b 8
    have k9 := b 9
    clear b
    have hc : c = 0 ∨ c = 1 ∨ c = 2 ∨ c = 3 ∨ c = 4 ∨ c = 5 ∨ c = 6 ∨ c = 7 ∨ c = 8 ∨ c = 9 ∨ c = 10 := by omega
    rcases hc with q | q | q | q | q | q | q | q | q | q | q <;> subst q
    · show x < 1
      have g0 := h 0 (by omega) (by omega)
      have g1 := h 1 (by omega) (by omega)
      have g2 := h 2 (by omega) (by omega)
      have g3 := h 3 (by omega) (by omega)
      have g4 := h 4 (by omega) (by omega)
      have g5 := h 5 (by omega) (by omega)
      have g6 := h 6 (by omega) (by omega)
      have g7 := h 7 (by omega) (by omega)
      have g8 := h 8 (by omega) (by omega)
      have g9 := h 9 (by omega) (by omega)
      clear h
      omega
    · show x < 2
      have g1 := h 1 (by omega) (by omega)
      have g2 := h 2 (by omega) (by omega)
      have g3 := h 3 (by omega) (by omega)
      have g4 := h 4 (by omega) (by omega)
      have g5 := h 5 (by omega) (by omega)
      have g6 := h 6 (by omega) (by omega)
      have g7 := h 7 (by omega) (by omega)
      have g8 := h 8 (by omega) (by omega)
      have g9 := h 9 (by omega) (by omega)
      clear h
      omega
    · show x < 4
      have g2 := h 2 (by omega) (by omega)
      have g3 := h 3 (by omega) (by omega)
      have g4 := h 4 (by omega) (by omega)
      have g5 := h 5 (by omega) (by omega)
      have g6 := h 6 (by omega) (by omega)
      have g7 := h 7 (by omega) (by omega)
      have g8 := h 8 (by omega) (by omega)
      have g9 := h 9 (by omega) (by omega)
      clear h
      omega
    · show x < 8
      have g3 := h 3 (by omega) (by omega)
      have g4 := h 4 (by omega) (by omega)
      have g5 := h 5 (by omega) (by omega)
      have g6 := h 6 (by omega) (by omega)
      have g7 := h 7 (by omega) (by omega)
      have g8 := h 8 (by omega) (by omega)
      have g9 := h 9 (by omega) (by omega)
      clear h
      omega
    · show x < 16
      have g4 := h 4 (by omega) (by omega)
      have g5 := h 5 (by omega) (by omega)
      have g6 := h 6 (by omega) (by omega)
      have g7 := h 7 (by omega) (by omega)
      have g8 := h 8 (by omega) (by omega)
      have g9 := h 9 (by omega) (by omega)
      clear h
      omega
    · show x < 32
      have g5 := h 5 (by omega) (by omega)
      have g6 := h 6 (by omega) (by omega)
      have g7 := h 7 (by omega) (by omega)
      have g8 := h 8 (by omega) (by omega)
      have g9 := h 9 (by omega) (by omega)
      clear h
      omega
    · show x < 64
      have g6 := h 6 (by omega) (by omega)
      have g7 := h 7 (by omega) (by omega)
      have g8 := h 8 (by omega) (by omega)
      have g9 := h 9 (by omega) (by omega)
      clear h
      omega
    · show x < 128
      have g7 := h 7 (by omega) (by omega)
      have g8 := h 8 (by omega) (by omega)
      have g9 := h 9 (by omega) (by omega)
      clear h
      omega
    · show x < 256
      have g8 := h 8 (by omega) (by omega)
      have g9 := h 9 (by omega) (by omega)
      clear h
      omega
    · show x < 512
      have g9 := h 9 (by omega) (by omega)
      clear h
      omega
    · show x < 1024
      clear h
      omega
def orOK (i s : Nat) : Bool := bt (s : Int) (i : Int) == 1 || (decide (bor (s : Int) (bshl 1 (i : Int)) = (s : Int) + 2 ^ i ∧ (s : Int) + 2 ^ i < 1024) && (List.range 10).all (fun j => decide (bt ((s : Int) + 2 ^ i) (j : Int) = if j = i then 1 else bt (s : Int) (j : Int))))
set_option maxRecDepth 100000 in
theorem or10_all : (List.range 10).all (fun i => (List.range 1024).all (fun s => orOK i s)) = true := by decide +kernel
theorem or10 {i s : Int} (i0 : 0 ≤ i) (i1 : i < 10) (s0 : 0 ≤ s) (s1 : s < 1024) (h : bt s i = 0) : bor s (bshl 1 i) = s + 2 ^ i.toNat ∧ s + 2 ^ i.toNat < 1024 ∧ ∀ j, 0 ≤ j → j < 10 → bt (s + 2 ^ i.toNat) j = if j = i then 1 else bt s j := by
  have h1 := List.all_eq_true.mp (List.all_eq_true.mp or10_all i.toNat (List.mem_range.mpr (by omega))) s.toNat (List.mem_range.mpr (by omega))
  unfold orOK at h1
  rw [Int.toNat_of_nonneg i0, Int.toNat_of_nonneg s0] at h1
  rw [Bool.or_eq_true] at h1
  rcases h1 with h1 | h1
  · have := eq_of_beq h1
    omega
  · rw [Bool.and_eq_true] at h1
    have h2 := of_decide_eq_true h1.1
    refine ⟨h2.1, h2.2, fun j j0 j1 => ?_⟩
    have h3 := of_decide_eq_true (List.all_eq_true.mp h1.2 j.toNat (List.mem_range.mpr (by omega)))
    rw [Int.toNat_of_nonneg j0] at h3
    rw [h3]
    by_cases e : j = i
    · rw [if_pos e, if_pos (by omega)]
    · rw [if_neg e, if_neg (by omega)]
/-- b is the best of C: the fewest, then the least; -1: there is none -/
def IsB (C : Int → Prop) (b : Int) : Prop := (b = -1 ∧ ∀ s, ¬ C s) ∨ (C b ∧ ∀ s, C s → pop b < pop s ∨ (pop b = pop s ∧ b ≤ s))
theorem IsB.uniq {C : Int → Prop} (h0 : ∀ s, C s → 0 ≤ s) {a b : Int} (ha : IsB C a) (hb : IsB C b) : a = b := by
  rcases ha with ⟨a1, a2⟩ | ⟨a1, a2⟩ <;> rcases hb with ⟨b1, b2⟩ | ⟨b1, b2⟩
  · omega
  · exact absurd b1 (a2 b)
  · exact absurd a1 (b2 a)
  · have := a2 b b1
    have := b2 a a1
    omega
theorem IsB.cg {C C' : Int → Prop} {b : Int} (h : IsB C b) (e : ∀ s, C s ↔ C' s) : IsB C' b := by
  rcases h with ⟨a1, a2⟩ | ⟨a1, a2⟩
  · exact Or.inl ⟨a1, fun s c => a2 s ((e s).mpr c)⟩
  · exact Or.inr ⟨(e b).mp a1, fun s c => a2 s ((e s).mpr c)⟩
/-- what is no better changes nothing -/
theorem IsB.skip {C E : Int → Prop} {b : Int} (h : IsB C b) (hE : ∀ s, E s → C b ∧ (pop b < pop s ∨ (pop b = pop s ∧ b ≤ s))) (hn : b = -1 → ∀ s, ¬ E s) : IsB (fun s => C s ∨ E s) b := by
  rcases h with ⟨a1, a2⟩ | ⟨a1, a2⟩
  · exact Or.inl ⟨a1, fun s c => c.elim (a2 s) (hn a1 s)⟩
  · exact Or.inr ⟨Or.inl a1, fun s c => c.elim (a2 s) (fun c => (hE s c).2)⟩
theorem IsB.take {C E : Int → Prop} {b x : Int} (h : IsB C b) (hx : E x) (hb : b = -1 ∨ pop x < pop b ∨ (pop x = pop b ∧ x < b)) (hE : ∀ s, E s → pop x ≤ pop s ∧ x ≤ s) (h0 : ∀ s, C s → 0 ≤ s) : IsB (fun s => C s ∨ E s) x := by
  refine Or.inr ⟨Or.inr hx, fun s c => ?_⟩
  rcases c with c | c
  · rcases h with ⟨a1, a2⟩ | ⟨a1, a2⟩
    · exact absurd c (a2 s)
    · have := a2 s c
      have := h0 b a1
      omega
  · have := hE s c
    omega
theorem IsB.none : IsB (fun _ => False) (-1) := Or.inl ⟨rfl, fun _ c => c⟩
