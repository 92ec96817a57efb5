-- WHAT MAKES THINGS, at the level of contracts
def rl0 (ci : Nat) : List (Option (Option Nat)) := match ci with
  | 0 => [some none, none, none, some none]
  | 1 => [none, none, some none, some none, some none, none, some none, some none, some none]
  | 2 => [some none, none, none]
  | 3 => [some none, none, none]
  | 4 => [some none, some none, none, some none, some none]
  | 5 => [some none, some none, some none]
  | 6 => [some none, none, some none, some none, some none, none, none, some none]
  | 7 => [some none, some none, some none, none, none, none, none]
  | 8 => [some none, some none, some none]
  | 9 => [some none, none, some none]
  | 10 => [some none, some none, some none, some none, some none, some none, some none, some none, some none, some none, some none, none]
  | 11 => [some none, some none, none, some none, some none, some none, none, none, some none, none, some none, some none, some none, some none, none, some none, some none, some none, none, some none, some none, some none, some none, some none]
  | _ => []
def rlck (N : Nat) (ty : Nat → FieldType) (rl : List (Option (Option Nat))) : Bool := (List.range N).all (fun j => match rl[j]? with | some none => decide (ty j = .int ∨ ty j = .boolean) | some (some none) => (match defaultValue (ty j) with | .null => true | _ => false) | _ => false)
theorem rlck_ok {N : Nat} {ty ty0 : Nat → FieldType} {T : u_T} {rl : List (Option (Option Nat))} (h : rlck N ty rl = true) (h1 : ∀ k, k < N → parseFieldDescriptor (T k).2.2.1 = some (ty k)) (h0 : ∀ k, k < N → parseFieldDescriptor (T k).2.2.1 = some (ty0 k)) (j : Nat) (hj : j < N) : ∃ o, rl[j]? = some o ∧ ((o = none ∧ (ty0 j = .int ∨ ty0 j = .boolean)) ∨ (o = some none ∧ defaultValue (ty0 j) = .null)) := by
  have e : ty j = ty0 j := Option.some.inj ((h1 j hj).symm.trans (h0 j hj))
  have h2 := List.all_eq_true.mp h j (List.mem_range.mpr hj)
  rw [e] at h2
  split at h2
  · next q => exact ⟨none, q, Or.inl ⟨rfl, of_decide_eq_true h2⟩⟩
  · next q =>
    refine ⟨some none, q, Or.inr ⟨rfl, ?_⟩⟩
    split at h2
    · next q2 => exact q2
    · cases h2
  · cases h2
theorem rl0_ok : ∀ (ci : Nat) (q : vw_C), vwCl[ci]? = some q → ∀ ty0 : Nat → FieldType, (∀ k, k < q.2.2 → parseFieldDescriptor (q.2.1 k).2.2.1 = some (ty0 k)) → ∀ j, j < q.2.2 → ∃ o, (rl0 ci)[j]? = some o ∧ ((o = none ∧ (ty0 j = .int ∨ ty0 j = .boolean)) ∨ (o = some none ∧ defaultValue (ty0 j) = .null)) := by
  intro ci q h
  match ci, h with
  | 0, h => cases h; exact fun ty0 h0 j hj => rlck_ok (N := 4) (ty := tyX0) (T := TX0) (by decide +kernel) tyX0_ok h0 j hj
  | 1, h => cases h; exact fun ty0 h0 j hj => rlck_ok (N := 9) (ty := tyX1) (T := TX1) (by decide +kernel) tyX1_ok h0 j hj
  | 2, h => cases h; exact fun ty0 h0 j hj => rlck_ok (N := 3) (ty := tyX2) (T := TX2) (by decide +kernel) tyX2_ok h0 j hj
  | 3, h => cases h; exact fun ty0 h0 j hj => rlck_ok (N := 3) (ty := tyX3) (T := TX3) (by decide +kernel) tyX3_ok h0 j hj
  | 4, h => cases h; exact fun ty0 h0 j hj => rlck_ok (N := 5) (ty := tyX4) (T := TX4) (by decide +kernel) tyX4_ok h0 j hj
  | 5, h => cases h; exact fun ty0 h0 j hj => rlck_ok (N := 3) (ty := tyX5) (T := TX5) (by decide +kernel) tyX5_ok h0 j hj
  | 6, h => cases h; exact fun ty0 h0 j hj => rlck_ok (N := 8) (ty := tyX6) (T := TX6) (by decide +kernel) tyX6_ok h0 j hj
  | 7, h => cases h; exact fun ty0 h0 j hj => rlck_ok (N := 7) (ty := tyX7) (T := TX7) (by decide +kernel) tyX7_ok h0 j hj
  | 8, h => cases h; exact fun ty0 h0 j hj => rlck_ok (N := 3) (ty := tyX8) (T := TX8) (by decide +kernel) tyX8_ok h0 j hj
  | 9, h => cases h; exact fun ty0 h0 j hj => rlck_ok (N := 3) (ty := tyX9) (T := TX9) (by decide +kernel) tyX9_ok h0 j hj
  | 10, h => cases h; exact fun ty0 h0 j hj => rlck_ok (N := 12) (ty := tyX10) (T := TX10) (by decide +kernel) tyX10_ok h0 j hj
  | 11, h => cases h; exact fun ty0 h0 j hj => rlck_ok (N := 24) (ty := tyX11) (T := TX11) (by decide +kernel) tyX11_ok h0 j hj
  | k + 12, h => simp [vwCl] at h
theorem inst_ok : ∀ (ci : Nat) (q : vw_C), vwCl[ci]? = some q → Cond.instantiable q.1 q.2.2 ∈ gtbl ∧ Cond.initialized q.1 ∈ gtbl := by
  intro ci q h
  match ci, h with
  | 0, h => cases h; exact ⟨g_mem 221 (by decide +kernel) rfl, g_mem 47 (by decide +kernel) rfl⟩
  | 1, h => cases h; exact ⟨g_mem 64 (by decide +kernel) rfl, g_mem 41 (by decide +kernel) rfl⟩
  | 2, h => cases h; exact ⟨g_mem 120 (by decide +kernel) rfl, g_mem 43 (by decide +kernel) rfl⟩
  | 3, h => cases h; exact ⟨g_mem 140 (by decide +kernel) rfl, g_mem 44 (by decide +kernel) rfl⟩
  | 4, h => cases h; exact ⟨g_mem 194 (by decide +kernel) rfl, g_mem 46 (by decide +kernel) rfl⟩
  | 5, h => cases h; exact ⟨g_mem 316 (by decide +kernel) rfl, g_mem 51 (by decide +kernel) rfl⟩
  | 6, h => cases h; exact ⟨g_mem 162 (by decide +kernel) rfl, g_mem 45 (by decide +kernel) rfl⟩
  | 7, h => cases h; exact ⟨g_mem 245 (by decide +kernel) rfl, g_mem 48 (by decide +kernel) rfl⟩
  | 8, h => cases h; exact ⟨g_mem 296 (by decide +kernel) rfl, g_mem 50 (by decide +kernel) rfl⟩
  | 9, h => cases h; exact ⟨g_mem 277 (by decide +kernel) rfl, g_mem 49 (by decide +kernel) rfl⟩
  | 10, h => cases h; exact ⟨g_mem 56 (by decide +kernel) rfl, g_mem 40 (by decide +kernel) rfl⟩
  | 11, h => cases h; exact ⟨g_mem 811 (by decide +kernel) rfl, g_mem 52 (by decide +kernel) rfl⟩
  | k + 12, h => simp [vwCl] at h
theorem fin_ref : ∀ (ci : Nat) (q : vw_C), vwCl[ci]? = some q → ∀ b, b < q.2.2 → (q.2.1 b).2.2.2 = true → ∃ ty, parseFieldDescriptor (q.2.1 b).2.2.1 = some ty ∧ (∀ a, narrow ty (.ref a) = .ref a) ∧ ∀ a, fits ty (.ref a) = true := by
  intro ci q h
  match ci, h with
  | 0, h =>
    cases h
    intro b hb hf
    match b, hb, hf with
    | 0, hb, _ => exact ⟨tyX0 0, tyX0_ok 0 hb, fun _ => rfl, fun _ => rfl⟩
    | 1, _, hf => cases hf
    | 2, _, hf => cases hf
    | 3, hb, _ => exact ⟨tyX0 3, tyX0_ok 3 hb, fun _ => rfl, fun _ => rfl⟩
    | k + 4, hb, _ => exact absurd hb (by show ¬ k + 4 < 4; omega)
  | 1, h =>
    cases h
    intro b hb hf
    match b, hb, hf with
    | 0, _, hf => cases hf
    | 1, _, hf => cases hf
    | 2, hb, _ => exact ⟨tyX1 2, tyX1_ok 2 hb, fun _ => rfl, fun _ => rfl⟩
    | 3, hb, _ => exact ⟨tyX1 3, tyX1_ok 3 hb, fun _ => rfl, fun _ => rfl⟩
    | 4, hb, _ => exact ⟨tyX1 4, tyX1_ok 4 hb, fun _ => rfl, fun _ => rfl⟩
    | 5, _, hf => cases hf
    | 6, hb, _ => exact ⟨tyX1 6, tyX1_ok 6 hb, fun _ => rfl, fun _ => rfl⟩
    | 7, hb, _ => exact ⟨tyX1 7, tyX1_ok 7 hb, fun _ => rfl, fun _ => rfl⟩
    | 8, hb, _ => exact ⟨tyX1 8, tyX1_ok 8 hb, fun _ => rfl, fun _ => rfl⟩
    | k + 9, hb, _ => exact absurd hb (by show ¬ k + 9 < 9; omega)
  | 2, h =>
    cases h
    intro b hb hf
    match b, hb, hf with
    | 0, hb, _ => exact ⟨tyX2 0, tyX2_ok 0 hb, fun _ => rfl, fun _ => rfl⟩
    | 1, _, hf => cases hf
    | 2, _, hf => cases hf
    | k + 3, hb, _ => exact absurd hb (by show ¬ k + 3 < 3; omega)
  | 3, h =>
    cases h
    intro b hb hf
    match b, hb, hf with
    | 0, hb, _ => exact ⟨tyX3 0, tyX3_ok 0 hb, fun _ => rfl, fun _ => rfl⟩
    | 1, _, hf => cases hf
    | 2, _, hf => cases hf
    | k + 3, hb, _ => exact absurd hb (by show ¬ k + 3 < 3; omega)
  | 4, h =>
    cases h
    intro b hb hf
    match b, hb, hf with
    | 0, hb, _ => exact ⟨tyX4 0, tyX4_ok 0 hb, fun _ => rfl, fun _ => rfl⟩
    | 1, hb, _ => exact ⟨tyX4 1, tyX4_ok 1 hb, fun _ => rfl, fun _ => rfl⟩
    | 2, _, hf => cases hf
    | 3, hb, _ => exact ⟨tyX4 3, tyX4_ok 3 hb, fun _ => rfl, fun _ => rfl⟩
    | 4, hb, _ => exact ⟨tyX4 4, tyX4_ok 4 hb, fun _ => rfl, fun _ => rfl⟩
    | k + 5, hb, _ => exact absurd hb (by show ¬ k + 5 < 5; omega)
  | 5, h =>
    cases h
    intro b hb hf
    match b, hb, hf with
    | 0, hb, _ => exact ⟨tyX5 0, tyX5_ok 0 hb, fun _ => rfl, fun _ => rfl⟩
    | 1, hb, _ => exact ⟨tyX5 1, tyX5_ok 1 hb, fun _ => rfl, fun _ => rfl⟩
    | 2, hb, _ => exact ⟨tyX5 2, tyX5_ok 2 hb, fun _ => rfl, fun _ => rfl⟩
    | k + 3, hb, _ => exact absurd hb (by show ¬ k + 3 < 3; omega)
  | 6, h =>
    cases h
    intro b hb hf
    match b, hb, hf with
    | 0, hb, _ => exact ⟨tyX6 0, tyX6_ok 0 hb, fun _ => rfl, fun _ => rfl⟩
    | 1, _, hf => cases hf
    | 2, hb, _ => exact ⟨tyX6 2, tyX6_ok 2 hb, fun _ => rfl, fun _ => rfl⟩
    | 3, hb, _ => exact ⟨tyX6 3, tyX6_ok 3 hb, fun _ => rfl, fun _ => rfl⟩
    | 4, hb, _ => exact ⟨tyX6 4, tyX6_ok 4 hb, fun _ => rfl, fun _ => rfl⟩
    | 5, _, hf => cases hf
    | 6, _, hf => cases hf
    | 7, hb, _ => exact ⟨tyX6 7, tyX6_ok 7 hb, fun _ => rfl, fun _ => rfl⟩
    | k + 8, hb, _ => exact absurd hb (by show ¬ k + 8 < 8; omega)
  | 7, h =>
    cases h
    intro b hb hf
    match b, hb, hf with
    | 0, hb, _ => exact ⟨tyX7 0, tyX7_ok 0 hb, fun _ => rfl, fun _ => rfl⟩
    | 1, hb, _ => exact ⟨tyX7 1, tyX7_ok 1 hb, fun _ => rfl, fun _ => rfl⟩
    | 2, hb, _ => exact ⟨tyX7 2, tyX7_ok 2 hb, fun _ => rfl, fun _ => rfl⟩
    | 3, _, hf => cases hf
    | 4, _, hf => cases hf
    | 5, _, hf => cases hf
    | 6, _, hf => cases hf
    | k + 7, hb, _ => exact absurd hb (by show ¬ k + 7 < 7; omega)
  | 8, h =>
    cases h
    intro b hb hf
    match b, hb, hf with
    | 0, hb, _ => exact ⟨tyX8 0, tyX8_ok 0 hb, fun _ => rfl, fun _ => rfl⟩
    | 1, hb, _ => exact ⟨tyX8 1, tyX8_ok 1 hb, fun _ => rfl, fun _ => rfl⟩
    | 2, hb, _ => exact ⟨tyX8 2, tyX8_ok 2 hb, fun _ => rfl, fun _ => rfl⟩
    | k + 3, hb, _ => exact absurd hb (by show ¬ k + 3 < 3; omega)
  | 9, h =>
    cases h
    intro b hb hf
    match b, hb, hf with
    | 0, hb, _ => exact ⟨tyX9 0, tyX9_ok 0 hb, fun _ => rfl, fun _ => rfl⟩
    | 1, _, hf => cases hf
    | 2, hb, _ => exact ⟨tyX9 2, tyX9_ok 2 hb, fun _ => rfl, fun _ => rfl⟩
    | k + 3, hb, _ => exact absurd hb (by show ¬ k + 3 < 3; omega)
  | 10, h =>
    cases h
    intro b hb hf
    match b, hb, hf with
    | 0, hb, _ => exact ⟨tyX10 0, tyX10_ok 0 hb, fun _ => rfl, fun _ => rfl⟩
    | 1, hb, _ => exact ⟨tyX10 1, tyX10_ok 1 hb, fun _ => rfl, fun _ => rfl⟩
    | 2, hb, _ => exact ⟨tyX10 2, tyX10_ok 2 hb, fun _ => rfl, fun _ => rfl⟩
    | 3, hb, _ => exact ⟨tyX10 3, tyX10_ok 3 hb, fun _ => rfl, fun _ => rfl⟩
    | 4, hb, _ => exact ⟨tyX10 4, tyX10_ok 4 hb, fun _ => rfl, fun _ => rfl⟩
    | 5, hb, _ => exact ⟨tyX10 5, tyX10_ok 5 hb, fun _ => rfl, fun _ => rfl⟩
    | 6, hb, _ => exact ⟨tyX10 6, tyX10_ok 6 hb, fun _ => rfl, fun _ => rfl⟩
    | 7, hb, _ => exact ⟨tyX10 7, tyX10_ok 7 hb, fun _ => rfl, fun _ => rfl⟩
    | 8, hb, _ => exact ⟨tyX10 8, tyX10_ok 8 hb, fun _ => rfl, fun _ => rfl⟩
    | 9, hb, _ => exact ⟨tyX10 9, tyX10_ok 9 hb, fun _ => rfl, fun _ => rfl⟩
    | 10, hb, _ => exact ⟨tyX10 10, tyX10_ok 10 hb, fun _ => rfl, fun _ => rfl⟩
    | 11, _, hf => cases hf
    | k + 12, hb, _ => exact absurd hb (by show ¬ k + 12 < 12; omega)
  | 11, h =>
    cases h
    intro b hb hf
    match b, hb, hf with
    | 0, hb, _ => exact ⟨tyX11 0, tyX11_ok 0 hb, fun _ => rfl, fun _ => rfl⟩
    | 1, hb, _ => exact ⟨tyX11 1, tyX11_ok 1 hb, fun _ => rfl, fun _ => rfl⟩
    | 2, _, hf => cases hf
    | 3, hb, _ => exact ⟨tyX11 3, tyX11_ok 3 hb, fun _ => rfl, fun _ => rfl⟩
    | 4, hb, _ => exact ⟨tyX11 4, tyX11_ok 4 hb, fun _ => rfl, fun _ => rfl⟩
    | 5, hb, _ => exact ⟨tyX11 5, tyX11_ok 5 hb, fun _ => rfl, fun _ => rfl⟩
    | 6, _, hf => cases hf
    | 7, _, hf => cases hf
    | 8, hb, _ => exact ⟨tyX11 8, tyX11_ok 8 hb, fun _ => rfl, fun _ => rfl⟩
    | 9, _, hf => cases hf
    | 10, hb, _ => exact ⟨tyX11 10, tyX11_ok 10 hb, fun _ => rfl, fun _ => rfl⟩
    | 11, hb, _ => exact ⟨tyX11 11, tyX11_ok 11 hb, fun _ => rfl, fun _ => rfl⟩
    | 12, hb, _ => exact ⟨tyX11 12, tyX11_ok 12 hb, fun _ => rfl, fun _ => rfl⟩
    | 13, hb, _ => exact ⟨tyX11 13, tyX11_ok 13 hb, fun _ => rfl, fun _ => rfl⟩
    | 14, _, hf => cases hf
    | 15, hb, _ => exact ⟨tyX11 15, tyX11_ok 15 hb, fun _ => rfl, fun _ => rfl⟩
    | 16, hb, _ => exact ⟨tyX11 16, tyX11_ok 16 hb, fun _ => rfl, fun _ => rfl⟩
    | 17, hb, _ => exact ⟨tyX11 17, tyX11_ok 17 hb, fun _ => rfl, fun _ => rfl⟩
    | 18, _, hf => cases hf
    | 19, hb, _ => exact ⟨tyX11 19, tyX11_ok 19 hb, fun _ => rfl, fun _ => rfl⟩
    | 20, hb, _ => exact ⟨tyX11 20, tyX11_ok 20 hb, fun _ => rfl, fun _ => rfl⟩
    | 21, hb, _ => exact ⟨tyX11 21, tyX11_ok 21 hb, fun _ => rfl, fun _ => rfl⟩
    | 22, hb, _ => exact ⟨tyX11 22, tyX11_ok 22 hb, fun _ => rfl, fun _ => rfl⟩
    | 23, hb, _ => exact ⟨tyX11 23, tyX11_ok 23 hb, fun _ => rfl, fun _ => rfl⟩
    | k + 24, hb, _ => exact absurd hb (by show ¬ k + 24 < 24; omega)
  | k + 12, h => simp [vwCl] at h
theorem arrc_ok (z : Bool) : Cond.arrayClass (newarray.typeOf (if z then .boolean else .int)) ∈ gtbl := by
  cases z
  · exact g_mem 118 (by decide +kernel) rfl
  · exact g_mem 889 (by decide +kernel) rfl
theorem obj_w : Cond.instanceMethod Lib.objectInit ∈ gtbl ∧ Cond.code Lib.objectInit ⟨#[0xb1]⟩ 1 none ∈ gtbl := ⟨g_mem 61 (by decide +kernel) rfl, g_mem 62 (by decide +kernel) rfl⟩
section ALC
variable {X : Cx} {d mc ms mid : Nat} {Q : QT} {L St : List AV} {n : Nat} {sh : Nat → Shp} {σ : Sg} {ce sl : Nat} {md : MD} {P E : List EN} {pc a b x : Nat} {fl : Bool} {z : Int}
theorem ent_ok {c : Nat} (hmd : MTL[mid]? = some md) (hP : md.2.2.2.2.2.2 = P) (hs : seek P pc = (pc, fl, c, z, a, b, x) :: E) : ∃ op len, decode md.2.1 pc = .ok (op, len) ∧ okO md (hd E) pc len op c z a b x = true := by
  have hok : okP md P = true := by rw [← hP]; exact okp_all hmd
  have h := seek_ok P pc hok
  rw [hs] at h
  have h2 : (okE md (hd E) (pc, fl, c, z, a, b, x) && okP md E) = true := h
  rw [Bool.and_eq_true] at h2
  have h3 := h2.1
  unfold okE at h3
  split at h3
  · next op len hdc => exact ⟨op, len, hdc, h3⟩
  · cases h3
theorem ok_newa {nx len : Nat} {op : Jvm.ClassFile.Instr} (h : okO md nx pc len op 19 z a b x = true) : op = .newarray (if (a == 1) then .boolean else .int) ∧ len = 2 ∧ nx = pc + 2 := by
  cases op with
  | newarray t =>
    simp only [okO, decide_eq_true_eq] at h
    obtain ⟨-, h1, h2, h3⟩ := h
    rcases h1 with ⟨rfl, rfl⟩ | ⟨rfl, rfl⟩
    · exact ⟨rfl, h2, h3⟩
    · exact ⟨rfl, h2, h3⟩
  | _ => exfalso; revert h; simp only [okO]; (repeat' split) <;> simp
theorem ok_anew {nx len : Nat} {op : Jvm.ClassFile.Instr} (h : okO md nx pc len op 20 z a b x = true) : ∃ i, op = .anewarray i ∧ lw_tbl[x]? = some (.classLink md.1.cls i "MirrorMaze$Maze") ∧ len = 3 ∧ nx = pc + 3 := by
  cases op with
  | anewarray i =>
    simp only [okO, decide_eq_true_eq] at h
    exact ⟨i, rfl, h.2⟩
  | _ => exfalso; revert h; simp only [okO]; (repeat' split) <;> simp
theorem ok_new {nx len : Nat} {op : Jvm.ClassFile.Instr} (h : okO md nx pc len op 21 z a b x = true) : ∃ i q, op = .new i ∧ vwCl[a]? = some q ∧ lw_tbl[x]? = some (.classLink md.1.cls i q.1) ∧ len = 3 ∧ nx = pc + 3 := by
  cases op with
  | new i =>
    simp only [okO] at h
    split at h
    · next q hq =>
      simp only [decide_eq_true_eq] at h
      exact ⟨i, q, rfl, hq, h.2⟩
    · cases h
  | _ => exfalso; revert h; simp only [okO]; (repeat' split) <;> simp
theorem ok_putF {nx len : Nat} {op : Jvm.ClassFile.Instr} (h : okO md nx pc len op 10 z a b x = true) : ∃ i q, op = .putfield i ∧ vwCl[a]? = some q ∧ ((q.2.1 b).2.2.2 = true ∧ md.1.name = "<init>" ∧ (q.2.1 b).1 = md.1.cls) ∧ b < q.2.2 ∧ lw_tbl[x]? = some (.fieldLink md.1.cls i (q.2.1 b).1 (q.2.1 b).2.1 (q.2.1 b).2.2.1) ∧ len = 3 ∧ nx = pc + 3 := by
  cases op with
  | putfield i =>
    simp only [okO] at h
    split at h
    · next q hq =>
      simp only [decide_eq_true_eq] at h
      obtain ⟨h1, h2⟩ := h
      rcases h1 with ⟨c, -⟩ | ⟨c, -⟩ | ⟨-, h1⟩
      · cases c
      · cases c
      · exact ⟨i, q, rfl, hq, h1, h2⟩
    · cases h
  | _ => exfalso; revert h; simp only [okO]; (repeat' split) <;> simp
theorem ok_aast {nx len : Nat} {op : Jvm.ClassFile.Instr} (h : okO md nx pc len op 17 z a b x = true) : op = .aastore ∧ len = 1 ∧ nx = pc + 1 := by
  cases op with
  | aastore =>
    simp only [okO, decide_eq_true_eq] at h
    exact ⟨rfl, h.2⟩
  | _ => exfalso; revert h; simp only [okO]; (repeat' split) <;> simp
theorem ok_obj {nx len : Nat} {op : Jvm.ClassFile.Instr} (h : okO md nx pc len op 29 z a b x = true) : ∃ i, op = .invokespecial i ∧ lw_tbl[x]? = some (.methodLink md.1.cls i Lib.objectInit) ∧ len = 3 ∧ nx = pc + 3 := by
  cases op with
  | invokespecial i =>
    simp only [okO] at h
    split at h
    · simp only [Bool.or_eq_true, decide_eq_true_eq] at h
      rcases h with h | h
      · exact ⟨i, rfl, h.2⟩
      · cases h.1
    · cases h
  | _ => exfalso; revert h; simp only [okO]; (repeat' split) <;> simp
theorem Sat.newa (hmd : MTL[mid]? = some md) (hP : md.2.2.2.2.2.2 = P) (hs : seek P pc = (pc, fl, 19, z, a, b, x) :: E) {N : Nat} (hN : N < 100000) (h1 : ce + 1 ≤ mc) (h2 : sl + N ≤ ms)
    (k : ∀ (sh2 : Nat → Shp) (σ2 : Sg), sh2 n = .inl ((a == 1), N) → (∀ j, j ≠ n → sh2 j = sh j) → σ2 n = (fun _ => 0) → (∀ j, j ≠ n → σ2 j = σ j) → Sat X d mc ms mid Q (hd E) L (vr n :: St) (n + 1) sh2 σ2 (ce + 1) (sl + N)) : Sat X d mc ms mid Q pc L (vi (N : Int) :: St) n sh σ ce sl := by
  intro md' hmd' Z hZ
  cases hmd.symm.trans hmd'
  obtain ⟨op, len, hdc, hok⟩ := ent_ok hmd hP hs
  obtain ⟨rfl, rfl, hnx⟩ := ok_newa hok
  have k2 := k (fun j => if j = n then .inl ((a == 1), N) else sh j) (zrow σ n) (if_pos rfl) (fun j hj => if_neg hj) (by funext i; simp [zrow]) (fun j hj => by funext i; simp [zrow, hj]) md hmd Z hZ
  rw [hnx] at k2
  obtain ⟨hB, hRm, -⟩ := hZ
  obtain ⟨hx, hb, hml, hown, hnm, hts, hst, hbs, hfr, hlo⟩ := hB
  intro hL hS H locs ls hl hW hv
  refine my_newa hx hb hst hW hv (a == 1) (hts _ (arrc_ok _)) hN (by rw [hRm]; exact h1) (by rw [hRm]; exact h2) hdc fun H1 w1 w2 => ?_
  exact k2 hL (fc (v := vr n) trivial (List.forall_mem_cons.mp hS).2) H1 locs ls hl w1 w2
theorem Sat.anew (hmd : MTL[mid]? = some md) (hP : md.2.2.2.2.2.2 = P) (hs : seek P pc = (pc, fl, 20, z, a, b, x) :: E) {N : Nat} (hN : N < 100000) (h1 : ce + 1 ≤ mc) (h2 : sl + N ≤ ms)
    (k : ∀ (sh2 : Nat → Shp), sh2 n = .inr (.inl (N, fun _ => none)) → (∀ j, j ≠ n → sh2 j = sh j) → Sat X d mc ms mid Q (hd E) L (vr n :: St) (n + 1) sh2 σ (ce + 1) (sl + N)) : Sat X d mc ms mid Q pc L (vi (N : Int) :: St) n sh σ ce sl := by
  intro md' hmd' Z hZ
  cases hmd.symm.trans hmd'
  obtain ⟨op, len, hdc, hok⟩ := ent_ok hmd hP hs
  obtain ⟨i, rfl, hw, rfl, hnx⟩ := ok_anew hok
  have k2 := k (fun j => if j = n then .inr (.inl (N, fun _ => none)) else sh j) (if_pos rfl) (fun j hj => if_neg hj) md hmd Z hZ
  rw [hnx] at k2
  obtain ⟨hB, hRm, -⟩ := hZ
  obtain ⟨hx, hb, hml, hown, hnm, hts, hst, hbs, hfr, hlo⟩ := hB
  intro hL hS H locs ls hl hW hv
  refine my_anew hx hb hown (hts _ (g_mem x hw rfl)) hst hW hv hN (by rw [hRm]; exact h1) (by rw [hRm]; exact h2) hdc fun H1 w1 w2 => ?_
  exact k2 hL (fc (v := vr n) trivial (List.forall_mem_cons.mp hS).2) H1 locs ls hl w1 w2
theorem Sat.new (hmd : MTL[mid]? = some md) (hP : md.2.2.2.2.2.2 = P) (hs : seek P pc = (pc, fl, 21, z, a, b, x) :: E) {q : vw_C} (hq : vwCl[a]? = some q) (h1 : ce + 1 ≤ mc) (h2 : sl + q.2.2 ≤ ms)
    (k : ∀ (sh2 : Nat → Shp) (σ2 : Sg), sh2 n = .inr (.inr (a, rl0 a)) → (∀ j, j ≠ n → sh2 j = sh j) → σ2 n = (fun _ => 0) → (∀ j, j ≠ n → σ2 j = σ j) → Sat X d mc ms mid Q (hd E) L (vr n :: St) (n + 1) sh2 σ2 (ce + 1) (sl + q.2.2)) : Sat X d mc ms mid Q pc L St n sh σ ce sl := by
  intro md' hmd' Z hZ
  cases hmd.symm.trans hmd'
  obtain ⟨op, len, hdc, hok⟩ := ent_ok hmd hP hs
  obtain ⟨i, q', rfl, hq', hw, rfl, hnx⟩ := ok_new hok
  cases hq.symm.trans hq'
  have k2 := k (fun j => if j = n then .inr (.inr (a, rl0 a)) else sh j) (zrow σ n) (if_pos rfl) (fun j hj => if_neg hj) (by funext i; simp [zrow]) (fun j hj => by funext i; simp [zrow, hj]) md hmd Z hZ
  rw [hnx] at k2
  obtain ⟨hB, hRm, -⟩ := hZ
  obtain ⟨hx, hb, hml, hown, hnm, hts, hst, hbs, hfr, hlo⟩ := hB
  intro hL hS H locs ls hl hW hv
  refine my_new hx hb hts hown hq (hts _ (g_mem x hw rfl)) (hts _ (inst_ok a q hq).1) (hts _ (inst_ok a q hq).2) hst hW hv (rl := rl0 a) (rl0_ok a q hq) (by rw [hRm]; exact h1) (by rw [hRm]; exact h2) hdc fun H1 w1 w2 => ?_
  exact k2 hL (fc (v := vr n) trivial hS) H1 locs ls hl w1 w2
theorem Sat.putF (hmd : MTL[mid]? = some md) (hP : md.2.2.2.2.2.2 = P) (hs : seek P pc = (pc, fl, 10, z, a, b, x) :: E) {r k : Nat} {rl : List (Option (Option Nat))} (hk : sh k = .inr (.inr (a, rl))) (hb2 : b < rl.length)
    (kk : ∀ (sh2 : Nat → Shp), sh2 k = .inr (.inr (a, rl.set b (some (some r)))) → (∀ j, j ≠ k → sh2 j = sh j) → Sat X d mc ms mid Q (hd E) L St n sh2 σ ce sl) : Sat X d mc ms mid Q pc L (vr r :: vr k :: St) n sh σ ce sl := by
  intro md' hmd' Z hZ
  cases hmd.symm.trans hmd'
  obtain ⟨op, len, hdc, hok⟩ := ent_ok hmd hP hs
  obtain ⟨i, q, rfl, hq, ⟨hf, hn, hcl⟩, hbq, hw, rfl, hnx⟩ := ok_putF hok
  have k2 := kk (fun j => if j = k then .inr (.inr (a, rl.set b (some (some r)))) else sh j) (if_pos rfl) (fun j hj => if_neg hj) md hmd Z hZ
  rw [hnx] at k2
  obtain ⟨hB, hRm, -⟩ := hZ
  obtain ⟨hx, hb, hml, hown, hnm, hts, hst, hbs, hfr, hlo⟩ := hB
  obtain ⟨ty, t1, t2, t3⟩ := fin_ref a q hq b hbq hf
  intro hL hS H locs ls hl hW hv
  refine my_putF hx hb hts hown hst hW hv hk hq hbq (g_mem x hw rfl) hb2 hf (hnm.trans hn) hcl t1 t2 t3 hdc fun H1 locs1 w1 w2 => ?_
  exact k2 hL (List.forall_mem_cons.mp (List.forall_mem_cons.mp hS).2).2 H1 locs1 ls hl w1 w2
theorem Sat.aast (hmd : MTL[mid]? = some md) (hP : md.2.2.2.2.2.2 = P) (hs : seek P pc = (pc, fl, 17, z, a, b, x) :: E) {k len kv : Nat} {g : Nat → Option Nat} {rl : List (Option (Option Nat))} (hk : sh k = .inr (.inl (len, g))) (hkv : sh kv = .inr (.inr (1, rl))) {i : Int} (h0 : 0 ≤ i) (h1 : i < len)
    (kk : ∀ (sh2 : Nat → Shp), sh2 k = .inr (.inl (len, va_up g i.toNat (some kv))) → (∀ j, j ≠ k → sh2 j = sh j) → Sat X d mc ms mid Q (hd E) L St n sh2 σ ce sl) : Sat X d mc ms mid Q pc L (vr kv :: vi i :: vr k :: St) n sh σ ce sl := by
  intro md' hmd' Z hZ
  cases hmd.symm.trans hmd'
  obtain ⟨op, len', hdc, hok⟩ := ent_ok hmd hP hs
  obtain ⟨rfl, rfl, hnx⟩ := ok_aast hok
  have k2 := kk (fun j => if j = k then .inr (.inl (len, va_up g i.toNat (some kv))) else sh j) (if_pos rfl) (fun j hj => if_neg hj) md hmd Z hZ
  rw [hnx] at k2
  obtain ⟨hB, hRm, -⟩ := hZ
  obtain ⟨hx, hb, hml, hown, hnm, hts, hst, hbs, hfr, hlo⟩ := hB
  intro hL hS H locs ls hl hW hv
  have hS1 := List.forall_mem_cons.mp (List.forall_mem_cons.mp hS).2
  refine my_aast hx hb hst hW hv hk hkv (i := i) hS1.1 h0 h1 hdc fun H1 locs1 w1 w2 => ?_
  exact k2 hL (List.forall_mem_cons.mp hS1.2).2 H1 locs1 ls hl w1 w2
theorem Sat.obj (hmd : MTL[mid]? = some md) (hP : md.2.2.2.2.2.2 = P) (hs : seek P pc = (pc, fl, 29, z, a, b, x) :: E) {k : Nat} (hr : St.length ≤ 8)
    (kk : Sat X d mc ms mid Q (hd E) L St n sh σ ce sl) : Sat X d mc ms mid Q pc L (vr k :: St) n sh σ ce sl := by
  intro md' hmd' Z hZ
  cases hmd.symm.trans hmd'
  obtain ⟨op, len', hdc, hok⟩ := ent_ok hmd hP hs
  obtain ⟨i, rfl, hw, rfl, hnx⟩ := ok_obj hok
  have k2 := kk md hmd Z hZ
  rw [hnx] at k2
  obtain ⟨hB, hRm, -⟩ := hZ
  obtain ⟨hx, hb, hml, hown, hnm, hts, hst, hbs, hfr, hlo⟩ := hB
  intro hL hS H locs ls hl hW hv
  refine W.objInit hx hb hown (hts _ (g_mem x hw rfl)) (hts _ obj_w.1) (hts _ obj_w.2) rfl (by rw [hml]; exact hl.1) rfl hdc hfr ?_ ?_
  · show 2 * 0 + ((St.map (cv X)).map fun v => v.category).sum + 12 ≤ _
    rw [nsum]
    omega
  · exact k2 hL (List.forall_mem_cons.mp hS).2 H locs ls hl hW hv
theorem Sat.dsh (h : (∀ k, n ≤ k → sh k = dSh) → Sat X d mc ms mid Q pc L St n sh σ ce sl) : Sat X d mc ms mid Q pc L St n sh σ ce sl :=
  fun md hmd Z hZ hL hS H locs ls hl hW hv => h hW.2.2.2 md hmd Z hZ hL hS H locs ls hl hW hv
end ALC
