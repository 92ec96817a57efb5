-- THE LAW, behind its two objects
theorem rz2_2 : ∀ (n : Nat) (N : Int → Int) (l : Int), 0 ≤ N 2 → N 2 ≤ rz2 N l n 2 ∧ rz2 N l n 2 ≤ N 2 + n
  | 0, N, l, h => by show N 2 ≤ N 2 ∧ N 2 ≤ N 2 + ((0 : Nat) : Int); omega
  | n + 1, N, l, h => by
    unfold rz2
    by_cases q : isF N (N (247 + 3 * l))
    · rw [if_pos q]
      have e2 : addL N (N (247 + 3 * l)) (N (248 + 3 * l)) (N (249 + 3 * l)) 2 = N 2 + 1 := by unfold addL; rw [if_neg (by omega), if_neg (by omega), if_neg (by omega), if_pos rfl]
      have := rz2_2 n (addL N (N (247 + 3 * l)) (N (248 + 3 * l)) (N (249 + 3 * l))) (l + 1) (by omega)
      omega
    · rw [if_neg q]
      have := rz2_2 n N (l + 1) h
      omega
theorem rsz_2 {A : AT} (h : WA A) (w d : Int) : 0 ≤ rsz A.1 w d 2 ∧ rsz A.1 w d 2 ≤ 6 := by
  have h2 := h.1.2.2.1
  have := rz2_2 (A.1 2).toNat (set1 (rz1 (set1 (set1 A.1 0 w) 1 d) 0 81) 2 0) 0 (Int.le_refl 0)
  have e : set1 (rz1 (set1 (set1 A.1 0 w) 1 d) 0 81) 2 0 2 = 0 := if_pos rfl
  rw [e] at this
  unfold rsz
  omega
section LAW
variable {X : Cx} {Z : FC}
def LW (X : Cx) (Z : FC) (pc : Nat) (L St : List AV) (σ : Sg) : Prop := SW X 4 Z pc L St NN SH σ 231 20539
def LK (X : Cx) (Z : FC) (callee : Nat) (args : List AV) (nx : Nat) (L rest : List AV) (σ : Sg) : Prop := CKs X md0 Z NN SH 231 20539 callee args nx L rest σ
/-- the law's own frame -/
def LZ (X : Cx) (Z : FC) : Prop := Bd X md0 Z ∧ Z.2.2.2.1 = room_1 ∧ RetOK X md0 Z NN SH 231 20539 true (fun r _ => r = some (vi 1)) ∧ xl X 0 ≤ 384
theorem LW.run (hZ : LZ X Z) {L St : List AV} {σ : Sg} (f pc : Nat) (h : wq X SH (LW X Z) (fun r _ => r = some (vi 1)) (LK X Z) true pp0 f (seek pp0 pc) L St σ) : LW X Z pc L St σ := by
  have hok : okP md0 pp0 = true := okp_all (i := 0) (q := md0) rfl
  have h3 := wq_sound (Z := Z) (md := md0) (n := NN) (sh := SH) (ce := 231) (sl := 20539) hZ.1 hok (fun t L St σ hS => hS) hZ.2.2.1 (fun mid args nx L rest σ hC => hC) f (seek pp0 pc) L St σ (seek_ok pp0 pc hok) h
  cases hsk : seek pp0 pc with
  | nil =>
    rw [hsk] at h
    cases f <;> exact h.elim
  | cons q F =>
    rw [hsk] at h3
    have e1 : hd (q :: F) = pc := seek_hd pp0 pc hsk
    rw [e1] at h3
    exact h3
theorem LK.use (hZ : LZ X Z) {callee : Nat} {args : List AV} {nx : Nat} {L rest : List AV} {σ : Sg} {d : Nat} {Q1 : Option AV → Sg → Prop} (hC : C0 X d callee args σ Q1) (hd : d ≤ 100) (hr : rest.length ≤ 8) (h : ∀ r σ', Q1 r σ' → LW X Z nx L (r.toList ++ rest) σ') : LK X Z callee args nx L rest σ := by
  have e := hZ.2.1
  refine ⟨d, 0, 0, q0 Q1, by rw [e]; show d + 1 ≤ 2048; omega, by rw [e]; show 64 * d + 64 ≤ 84000; omega, by rw [e]; show 231 + 0 ≤ 600000; omega, by rw [e]; show 20539 + 0 ≤ 7302249; omega, hr, hC, fun r n' sh' σ' _ _ c => ?_⟩
  obtain ⟨rfl, rfl, c⟩ := c
  exact h r σ' c
theorem fx_0 {sh : Nat → Shp} {R : Option AV → Sg → Prop} {CK : Nat → List AV → Nat → List AV → List AV → Sg → Prop} {rb : Bool} {nx : Nat} {K : List AV → List AV → Sg → Prop} {J : Nat → List AV → List AV → Sg → Prop} {z : Int} {b : Nat} {L St : List AV} {σ : Sg} : stp X sh R CK rb nx K J 34 z 0 b (vx 0 :: L) St σ = K (vx 0 :: L) (vx 0 :: St) σ := propext ⟨fun q => q.2, fun q => ⟨by omega, q⟩⟩
theorem PC.go {σ : Sg} {B : Int} {o : Int × AT} {A : AT} (hM : MV σ A) {r : Option AV} {σ1 : Sg} (h : PC σ B o r σ1) : r = some (vi o.1) ∧ CV σ1 o.2 (B + 5000) ∧ MV σ1 A := ⟨h.1, h.2.1, hM.fc h.2.2⟩
theorem PM.go {σ : Sg} {B : Int} {o : Int × AT} (hC : CV σ o.2 B) {r : Option AV} {σ1 : Sg} (h : PM σ o r σ1) : r = some (vi o.1) ∧ CV σ1 o.2 B ∧ MV σ1 o.2 := ⟨h.1, hC.fm h.2.2, h.2.1⟩
end LAW
