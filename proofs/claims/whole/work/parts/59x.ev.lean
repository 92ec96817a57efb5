-- rows of the evaluation, from the front
section EVF
variable {X : Cx} {sh : Nat → Shp} {S : Nat → List AV → List AV → Sg → Prop} {R : Option AV → Sg → Prop} {CK : Nat → List AV → Nat → List AV → List AV → Sg → Prop} {rb : Bool} {P E : List EN} {f pc nx a b x k : Nat} {z i v w y : Int} {L St rest : List AV} {σ : Sg} {K : List AV → List AV → Sg → Prop} {J : Nat → List AV → List AV → Sg → Prop} {e : EN} {v0 v1 v2 v3 v4 v5 v6 v7 v8 : AV} {KI : Int → Prop} {KR : Nat ⊕ Nat → Prop} {KS : List AV → List AV → Prop} {p q : Prop} {fl : Bool} {t : Nat} {JN : Nat → Prop} {ts : List Nat} {lo : Int} {t1 t2 : Nat}
theorem fl_0 : stp X sh R CK rb nx K J 1 z 0 b (vi v :: L) St σ = K (vi v :: L) (vi v :: St) σ := Eq.trans rfl rfl
theorem fr_0 : stp X sh R CK rb nx K J 34 z 0 b (vr k :: L) St σ = K (vr k :: L) (vr k :: St) σ := Eq.trans rfl rfl
theorem fs_0 : stp X sh R CK rb nx K J 2 z 0 b (v8 :: L) (vi v :: St) σ = K (vi v :: L) St σ := Eq.trans rfl rfl
theorem ft_0 {u : Nat ⊕ Nat} : stp X sh R CK rb nx K J 35 z 0 b (v8 :: L) (.inr u :: St) σ = K (.inr u :: L) St σ := Eq.trans rfl rfl
theorem fc_0 : stp X sh R CK rb nx K J 3 z 0 b (vi v :: L) St σ = (InR (v + z) ∧ K (vi (v + z) :: L) St σ) := Eq.trans rfl rfl
theorem fl_1 : stp X sh R CK rb nx K J 1 z 1 b (v0 :: vi v :: L) St σ = K (v0 :: vi v :: L) (vi v :: St) σ := Eq.trans rfl rfl
theorem fr_1 : stp X sh R CK rb nx K J 34 z 1 b (v0 :: vr k :: L) St σ = K (v0 :: vr k :: L) (vr k :: St) σ := Eq.trans rfl rfl
theorem fs_1 : stp X sh R CK rb nx K J 2 z 1 b (v0 :: v8 :: L) (vi v :: St) σ = K (v0 :: vi v :: L) St σ := Eq.trans rfl rfl
theorem ft_1 {u : Nat ⊕ Nat} : stp X sh R CK rb nx K J 35 z 1 b (v0 :: v8 :: L) (.inr u :: St) σ = K (v0 :: .inr u :: L) St σ := Eq.trans rfl rfl
theorem fc_1 : stp X sh R CK rb nx K J 3 z 1 b (v0 :: vi v :: L) St σ = (InR (v + z) ∧ K (v0 :: vi (v + z) :: L) St σ) := Eq.trans rfl rfl
theorem fl_2 : stp X sh R CK rb nx K J 1 z 2 b (v0 :: v1 :: vi v :: L) St σ = K (v0 :: v1 :: vi v :: L) (vi v :: St) σ := Eq.trans rfl rfl
theorem fr_2 : stp X sh R CK rb nx K J 34 z 2 b (v0 :: v1 :: vr k :: L) St σ = K (v0 :: v1 :: vr k :: L) (vr k :: St) σ := Eq.trans rfl rfl
theorem fs_2 : stp X sh R CK rb nx K J 2 z 2 b (v0 :: v1 :: v8 :: L) (vi v :: St) σ = K (v0 :: v1 :: vi v :: L) St σ := Eq.trans rfl rfl
theorem ft_2 {u : Nat ⊕ Nat} : stp X sh R CK rb nx K J 35 z 2 b (v0 :: v1 :: v8 :: L) (.inr u :: St) σ = K (v0 :: v1 :: .inr u :: L) St σ := Eq.trans rfl rfl
theorem fc_2 : stp X sh R CK rb nx K J 3 z 2 b (v0 :: v1 :: vi v :: L) St σ = (InR (v + z) ∧ K (v0 :: v1 :: vi (v + z) :: L) St σ) := Eq.trans rfl rfl
theorem fl_3 : stp X sh R CK rb nx K J 1 z 3 b (v0 :: v1 :: v2 :: vi v :: L) St σ = K (v0 :: v1 :: v2 :: vi v :: L) (vi v :: St) σ := Eq.trans rfl rfl
theorem fr_3 : stp X sh R CK rb nx K J 34 z 3 b (v0 :: v1 :: v2 :: vr k :: L) St σ = K (v0 :: v1 :: v2 :: vr k :: L) (vr k :: St) σ := Eq.trans rfl rfl
theorem fs_3 : stp X sh R CK rb nx K J 2 z 3 b (v0 :: v1 :: v2 :: v8 :: L) (vi v :: St) σ = K (v0 :: v1 :: v2 :: vi v :: L) St σ := Eq.trans rfl rfl
theorem ft_3 {u : Nat ⊕ Nat} : stp X sh R CK rb nx K J 35 z 3 b (v0 :: v1 :: v2 :: v8 :: L) (.inr u :: St) σ = K (v0 :: v1 :: v2 :: .inr u :: L) St σ := Eq.trans rfl rfl
theorem fc_3 : stp X sh R CK rb nx K J 3 z 3 b (v0 :: v1 :: v2 :: vi v :: L) St σ = (InR (v + z) ∧ K (v0 :: v1 :: v2 :: vi (v + z) :: L) St σ) := Eq.trans rfl rfl
theorem fl_4 : stp X sh R CK rb nx K J 1 z 4 b (v0 :: v1 :: v2 :: v3 :: vi v :: L) St σ = K (v0 :: v1 :: v2 :: v3 :: vi v :: L) (vi v :: St) σ := Eq.trans rfl rfl
theorem fr_4 : stp X sh R CK rb nx K J 34 z 4 b (v0 :: v1 :: v2 :: v3 :: vr k :: L) St σ = K (v0 :: v1 :: v2 :: v3 :: vr k :: L) (vr k :: St) σ := Eq.trans rfl rfl
theorem fs_4 : stp X sh R CK rb nx K J 2 z 4 b (v0 :: v1 :: v2 :: v3 :: v8 :: L) (vi v :: St) σ = K (v0 :: v1 :: v2 :: v3 :: vi v :: L) St σ := Eq.trans rfl rfl
theorem ft_4 {u : Nat ⊕ Nat} : stp X sh R CK rb nx K J 35 z 4 b (v0 :: v1 :: v2 :: v3 :: v8 :: L) (.inr u :: St) σ = K (v0 :: v1 :: v2 :: v3 :: .inr u :: L) St σ := Eq.trans rfl rfl
theorem fc_4 : stp X sh R CK rb nx K J 3 z 4 b (v0 :: v1 :: v2 :: v3 :: vi v :: L) St σ = (InR (v + z) ∧ K (v0 :: v1 :: v2 :: v3 :: vi (v + z) :: L) St σ) := Eq.trans rfl rfl
theorem fl_5 : stp X sh R CK rb nx K J 1 z 5 b (v0 :: v1 :: v2 :: v3 :: v4 :: vi v :: L) St σ = K (v0 :: v1 :: v2 :: v3 :: v4 :: vi v :: L) (vi v :: St) σ := Eq.trans rfl rfl
theorem fr_5 : stp X sh R CK rb nx K J 34 z 5 b (v0 :: v1 :: v2 :: v3 :: v4 :: vr k :: L) St σ = K (v0 :: v1 :: v2 :: v3 :: v4 :: vr k :: L) (vr k :: St) σ := Eq.trans rfl rfl
theorem fs_5 : stp X sh R CK rb nx K J 2 z 5 b (v0 :: v1 :: v2 :: v3 :: v4 :: v8 :: L) (vi v :: St) σ = K (v0 :: v1 :: v2 :: v3 :: v4 :: vi v :: L) St σ := Eq.trans rfl rfl
theorem ft_5 {u : Nat ⊕ Nat} : stp X sh R CK rb nx K J 35 z 5 b (v0 :: v1 :: v2 :: v3 :: v4 :: v8 :: L) (.inr u :: St) σ = K (v0 :: v1 :: v2 :: v3 :: v4 :: .inr u :: L) St σ := Eq.trans rfl rfl
theorem fc_5 : stp X sh R CK rb nx K J 3 z 5 b (v0 :: v1 :: v2 :: v3 :: v4 :: vi v :: L) St σ = (InR (v + z) ∧ K (v0 :: v1 :: v2 :: v3 :: v4 :: vi (v + z) :: L) St σ) := Eq.trans rfl rfl
theorem fl_6 : stp X sh R CK rb nx K J 1 z 6 b (v0 :: v1 :: v2 :: v3 :: v4 :: v5 :: vi v :: L) St σ = K (v0 :: v1 :: v2 :: v3 :: v4 :: v5 :: vi v :: L) (vi v :: St) σ := Eq.trans rfl rfl
theorem fr_6 : stp X sh R CK rb nx K J 34 z 6 b (v0 :: v1 :: v2 :: v3 :: v4 :: v5 :: vr k :: L) St σ = K (v0 :: v1 :: v2 :: v3 :: v4 :: v5 :: vr k :: L) (vr k :: St) σ := Eq.trans rfl rfl
theorem fs_6 : stp X sh R CK rb nx K J 2 z 6 b (v0 :: v1 :: v2 :: v3 :: v4 :: v5 :: v8 :: L) (vi v :: St) σ = K (v0 :: v1 :: v2 :: v3 :: v4 :: v5 :: vi v :: L) St σ := Eq.trans rfl rfl
theorem ft_6 {u : Nat ⊕ Nat} : stp X sh R CK rb nx K J 35 z 6 b (v0 :: v1 :: v2 :: v3 :: v4 :: v5 :: v8 :: L) (.inr u :: St) σ = K (v0 :: v1 :: v2 :: v3 :: v4 :: v5 :: .inr u :: L) St σ := Eq.trans rfl rfl
theorem fc_6 : stp X sh R CK rb nx K J 3 z 6 b (v0 :: v1 :: v2 :: v3 :: v4 :: v5 :: vi v :: L) St σ = (InR (v + z) ∧ K (v0 :: v1 :: v2 :: v3 :: v4 :: v5 :: vi (v + z) :: L) St σ) := Eq.trans rfl rfl
theorem fl_7 : stp X sh R CK rb nx K J 1 z 7 b (v0 :: v1 :: v2 :: v3 :: v4 :: v5 :: v6 :: vi v :: L) St σ = K (v0 :: v1 :: v2 :: v3 :: v4 :: v5 :: v6 :: vi v :: L) (vi v :: St) σ := Eq.trans rfl rfl
theorem fr_7 : stp X sh R CK rb nx K J 34 z 7 b (v0 :: v1 :: v2 :: v3 :: v4 :: v5 :: v6 :: vr k :: L) St σ = K (v0 :: v1 :: v2 :: v3 :: v4 :: v5 :: v6 :: vr k :: L) (vr k :: St) σ := Eq.trans rfl rfl
theorem fs_7 : stp X sh R CK rb nx K J 2 z 7 b (v0 :: v1 :: v2 :: v3 :: v4 :: v5 :: v6 :: v8 :: L) (vi v :: St) σ = K (v0 :: v1 :: v2 :: v3 :: v4 :: v5 :: v6 :: vi v :: L) St σ := Eq.trans rfl rfl
theorem ft_7 {u : Nat ⊕ Nat} : stp X sh R CK rb nx K J 35 z 7 b (v0 :: v1 :: v2 :: v3 :: v4 :: v5 :: v6 :: v8 :: L) (.inr u :: St) σ = K (v0 :: v1 :: v2 :: v3 :: v4 :: v5 :: v6 :: .inr u :: L) St σ := Eq.trans rfl rfl
theorem fc_7 : stp X sh R CK rb nx K J 3 z 7 b (v0 :: v1 :: v2 :: v3 :: v4 :: v5 :: v6 :: vi v :: L) St σ = (InR (v + z) ∧ K (v0 :: v1 :: v2 :: v3 :: v4 :: v5 :: v6 :: vi (v + z) :: L) St σ) := Eq.trans rfl rfl
theorem fb_0 : stp X sh R CK rb nx K J 4 z 0 b L (vi y :: vi v :: St) σ = (InR (v + y) ∧ K L (vi (v + y) :: St) σ) := Eq.trans rfl rfl
theorem fb_1 : stp X sh R CK rb nx K J 4 z 1 b L (vi y :: vi v :: St) σ = (InR (v - y) ∧ K L (vi (v - y) :: St) σ) := Eq.trans rfl rfl
theorem fb_2 : stp X sh R CK rb nx K J 4 z 2 b L (vi y :: vi v :: St) σ = (InR (v * y) ∧ K L (vi (v * y) :: St) σ) := Eq.trans rfl rfl
theorem fb_3 : stp X sh R CK rb nx K J 4 z 3 b L (vi y :: vi v :: St) σ = ((0 ≤ v ∧ 0 < y) ∧ K L (vi (v / y) :: St) σ) := Eq.trans rfl rfl
theorem fb_4 : stp X sh R CK rb nx K J 4 z 4 b L (vi y :: vi v :: St) σ = ((0 ≤ v ∧ 0 < y) ∧ K L (vi (v % y) :: St) σ) := Eq.trans rfl rfl
theorem fb_5 : stp X sh R CK rb nx K J 4 z 5 b L (vi y :: vi v :: St) σ = K L (vi (bshl v y) :: St) σ := Eq.trans rfl rfl
theorem fb_6 : stp X sh R CK rb nx K J 4 z 6 b L (vi y :: vi v :: St) σ = K L (vi (bshr v y) :: St) σ := Eq.trans rfl rfl
theorem fb_7 : stp X sh R CK rb nx K J 4 z 7 b L (vi y :: vi v :: St) σ = K L (vi (bushr v y) :: St) σ := Eq.trans rfl rfl
theorem fb_8 : stp X sh R CK rb nx K J 4 z 8 b L (vi y :: vi v :: St) σ = K L (vi (band v y) :: St) σ := Eq.trans rfl rfl
theorem fb_9 : stp X sh R CK rb nx K J 4 z 9 b L (vi y :: vi v :: St) σ = K L (vi (bor v y) :: St) σ := Eq.trans rfl rfl
theorem fb_10 : stp X sh R CK rb nx K J 4 z 10 b L (vi y :: vi v :: St) σ = K L (vi (bxor v y) :: St) σ := Eq.trans rfl rfl
theorem f5_0 : stp X sh R CK rb nx K J 5 z 0 b L (vi v :: St) σ = ((v = 0 → J b L St σ) ∧ (¬ (v = 0) → K L St σ)) := Eq.trans rfl rfl
theorem f6_0 : stp X sh R CK rb nx K J 6 z 0 b L (vi y :: vi v :: St) σ = ((v = y → J b L St σ) ∧ (¬ (v = y) → K L St σ)) := Eq.trans rfl rfl
theorem f5_1 : stp X sh R CK rb nx K J 5 z 1 b L (vi v :: St) σ = ((¬ v = 0 → J b L St σ) ∧ (¬ (¬ v = 0) → K L St σ)) := Eq.trans rfl rfl
theorem f6_1 : stp X sh R CK rb nx K J 6 z 1 b L (vi y :: vi v :: St) σ = ((¬ v = y → J b L St σ) ∧ (¬ (¬ v = y) → K L St σ)) := Eq.trans rfl rfl
theorem f5_2 : stp X sh R CK rb nx K J 5 z 2 b L (vi v :: St) σ = ((v < 0 → J b L St σ) ∧ (¬ (v < 0) → K L St σ)) := Eq.trans rfl rfl
theorem f6_2 : stp X sh R CK rb nx K J 6 z 2 b L (vi y :: vi v :: St) σ = ((v < y → J b L St σ) ∧ (¬ (v < y) → K L St σ)) := Eq.trans rfl rfl
theorem f5_3 : stp X sh R CK rb nx K J 5 z 3 b L (vi v :: St) σ = ((0 ≤ v → J b L St σ) ∧ (¬ (0 ≤ v) → K L St σ)) := Eq.trans rfl rfl
theorem f6_3 : stp X sh R CK rb nx K J 6 z 3 b L (vi y :: vi v :: St) σ = ((y ≤ v → J b L St σ) ∧ (¬ (y ≤ v) → K L St σ)) := Eq.trans rfl rfl
theorem f5_4 : stp X sh R CK rb nx K J 5 z 4 b L (vi v :: St) σ = ((0 < v → J b L St σ) ∧ (¬ (0 < v) → K L St σ)) := Eq.trans rfl rfl
theorem f6_4 : stp X sh R CK rb nx K J 6 z 4 b L (vi y :: vi v :: St) σ = ((y < v → J b L St σ) ∧ (¬ (y < v) → K L St σ)) := Eq.trans rfl rfl
theorem f5_5 : stp X sh R CK rb nx K J 5 z 5 b L (vi v :: St) σ = ((v ≤ 0 → J b L St σ) ∧ (¬ (v ≤ 0) → K L St σ)) := Eq.trans rfl rfl
theorem f6_5 : stp X sh R CK rb nx K J 6 z 5 b L (vi y :: vi v :: St) σ = ((v ≤ y → J b L St σ) ∧ (¬ (v ≤ y) → K L St σ)) := Eq.trans rfl rfl
theorem f_s : wq X sh S R CK rb P (f + 1) ((pc, fl, k, z, a, b, x) :: E) L St σ = stp X sh R CK rb (hd E) (fun L St σ => bif sf E then S (hd E) L St σ else wq X sh S R CK rb P f E L St σ) (fun t L St σ => bif sf (seek P t) then S t L St σ else wq X sh S R CK rb P f (seek P t) L St σ) k z a b L St σ := Eq.trans rfl rfl
theorem f_cf (h : sf E = false) : (bif sf E then p else q) = q := by rw [h]; rfl
theorem f_ct (h : sf E = true) : (bif sf E then p else q) = p := by rw [h]; rfl
end EVF
