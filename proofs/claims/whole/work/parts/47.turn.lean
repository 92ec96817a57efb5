-- TURN: tables of a set
def bt (x i : Int) : Int := x / 2 ^ i.toNat % 2
def pop (x : Int) : Int := sm (bt x) 0 10
def bc1 (x : Int) : Int := x - band (bushr x 1) 1431655765
def bc2 (x : Int) : Int := band (bc1 x) 858993459 + band (bushr (bc1 x) 2) 858993459
def bc3 (x : Int) : Int := band (bc2 x + bushr (bc2 x) 4) 252645135
def bc4 (x : Int) : Int := bc3 x + bushr (bc3 x) 8
def bc5 (x : Int) : Int := bc4 x + bushr (bc4 x) 16
def bcOK (x v : Int) : Bool := inRb (bc1 x) && inRb (bc2 x) && inRb (bc2 x + bushr (bc2 x) 4) && inRb (bc4 x) && inRb (bc5 x) && decide (band (bc5 x) 63 = v)
set_option maxRecDepth 100000 in
theorem bc_all : (List.range 1024).all (fun n => bcOK (n : Int) (pop (n : Int))) = true := by decide +kernel
theorem bc_neg : bcOK (-1) 32 = true := by decide +kernel
section TURN
variable {X : Cx} {σ : Sg} {A : AT} {B : Int} {M : Int → Int}
theorem j_bitCount (x v : Int) (h : bcOK x v = true) : C0 X 1 177 [vi x] σ (rI v σ) := by
  simp only [bcOK, Bool.and_eq_true, decide_eq_true_eq] at h
  obtain ⟨⟨⟨⟨⟨h1, h2⟩, h3⟩, h4⟩, h5⟩, h6⟩ := h
  refine C0.intro md177 (by decide) rfl (by decide) (Nat.le_of_ble_eq_true rfl) ?_
  intro hin hav
  show S0 X _ 177 _ 0 [vi x] [] _
  refine S0.run 177 md177 pp177 1 rfl rfl rfl 60 0 ?_
  simp only [ev_s, ev_hd, ev_sf, ev_hd0, ev_sf0, ev_0, ev_1, ev_34, ev_li, ev_lr, ev_lx, ev_2, ev_35, ev_3, ev_4, ev_b0, ev_b1, ev_b2, ev_b3, ev_b4, ev_b5, ev_b6, ev_b7, ev_b8, ev_b9, ev_b10, ev_5, ev_6, ev_c0, ev_c1, ev_c2, ev_c3, ev_c4, ev_c5, ev_7, ev_8, ev_9, ev_33, ev_11, ev_12, ev_12x, ev_13, ev_14, ev_15, ev_16, ev_18, ev_18x, ev_22, ev_23, ev_24, ev_32, ev_25, ev_26, ev_27, ev_28, ev_31, ev_w1, ev_w2, ev_p1, ev_p2, ev_p3, ev_p4, ev_p5, ev_p6, ev_p0, ev_n0, ev_n1, ev_n2, ev_n3, ev_n4, ev_n5, ev_n6, ev_n7, ev_m0, ev_m1, ev_m2, ev_m3, ev_m4, ev_m5, ev_m6, ev_m7, ev_r0, ev_r1, ev_r2, ev16, ev30, cond_true, cond_false, true_and, and_true, Int.cast_ofNat_Int, Nat.reduceLT, Nat.reduceLeDiff, Nat.reduceBEq, Int.reduceLT, Int.reduceLE, Int.reduceEq, Int.reduceAdd, Nat.reduceEqDiff, not_true_eq_false, not_false_eq_true, false_implies, forall_const, eq_self, Nat.reduceAdd, Option.toList_some, Option.toList_none, List.cons_append, List.nil_append, List.length_cons, List.length_nil, Bool.false_eq_true, reduceCtorEq, true_or, or_true, false_or, or_false, Int.reduceNeg, implies_true, true_implies, xl1, xl2, xl3, xf1, xf2, xf3, p177_0, sq177_0]
  exact ⟨inRb_ok h1, inRb_ok h2, inRb_ok h3, inRb_ok h4, inRb_ok h5, rI_mk h6⟩
theorem bc_pop {x : Int} (h0 : 0 ≤ x) (h1 : x < 1024) : bcOK x (pop x) = true := by
  have h := List.all_eq_true.mp bc_all x.toNat (List.mem_range.mpr (by omega))
  rw [Int.toNat_of_nonneg h0] at h
  exact h
theorem two_pow {c : Int} (h0 : 0 ≤ c) (h1 : c ≤ 10) : (2 : Int) ^ c.toNat ≤ 1024 ∧ 1 ≤ (2 : Int) ^ c.toNat := by
  have : c = 0 ∨ c = 1 ∨ c = 2 ∨ c = 3 ∨ c = 4 ∨ c = 5 ∨ c = 6 ∨ c = 7 ∨ c = 8 ∨ c = 9 ∨ c = 10 := by omega
  rcases this with h | h | h | h | h | h | h | h | h | h | h <;> subst h <;> decide
theorem ushr_0 {x c : Int} (hx : InR x) (h0 : 0 ≤ c) (h1 : c ≤ 10) : bushr x c = 0 ↔ 0 ≤ x ∧ x < 2 ^ c.toNat := by
  have hb : (Int32.ofInt x).toBitVec.toNat < 4294967296 := (Int32.ofInt x).toBitVec.isLt
  have ht := ltI (Int32.ofInt x)
  rw [tI hx] at ht
  have key : ∀ k : Nat, ((Int32.ofInt c).toUInt32 &&& Int32.toUInt32 31).toBitVec.toNat % 32 = k → bushr x c = 0 ↔ (Int32.ofInt x).toBitVec.toNat / 2 ^ k = 0 := by
    sorry
  sorry
theorem shl_1 {c : Int} (h0 : 0 ≤ c) (h1 : c ≤ 10) : bshl 1 c = 2 ^ c.toNat := by
  have : c = 0 ∨ c = 1 ∨ c = 2 ∨ c = 3 ∨ c = 4 ∨ c = 5 ∨ c = 6 ∨ c = 7 ∨ c = 8 ∨ c = 9 ∨ c = 10 := by omega
  rcases this with h | h | h | h | h | h | h | h | h | h | h <;> subst h <;> decide +kernel
end TURN
