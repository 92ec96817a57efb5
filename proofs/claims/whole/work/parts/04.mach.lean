-- THE ABSTRACT MACHINE, part one: values, cells, worlds, the frame's context
abbrev AV : Type := Int ⊕ (Nat ⊕ Nat)
abbrev Shp : Type := (Bool × Nat) ⊕ ((Nat × (Nat → Option Nat)) ⊕ (Nat × List (Option (Option Nat))))
abbrev Sg : Type := Nat → Int → Int
abbrev Cx : Type := Nat × va_G × (ClassId × ClassId × ClassId) × (Nat → Nat) × Nat × (Nat → Int32)
def InR (x : Int) : Prop := -2147483648 ≤ x ∧ x ≤ 2147483647
abbrev vi (x : Int) : AV := .inl x
abbrev vr (k : Nat) : AV := .inr (.inl k)
abbrev vx (e : Nat) : AV := .inr (.inr e)
def xl (X : Cx) (e : Nat) : Nat := match e with | 0 => X.2.2.2.2.1 | 1 => 5 | _ => 4
def xf (X : Cx) (e : Nat) (i : Int) : Int := match e with
  | 0 => (X.2.2.2.2.2 i.toNat).toInt
  | 1 => if i = 0 then -1 else if i = 2 ∨ i = 4 then 1 else 0
  | 2 => if i = 0 then 1 else if i = 2 then -1 else 0
  | _ => if i = 1 then 1 else if i = 3 then -1 else 0
def cv (X : Cx) : AV → Value
  | .inl x => .int (Int32.ofInt x)
  | .inr (.inl k) => .ref (X.1 + k)
  | .inr (.inr e) => .ref (X.2.2.2.1 e)
def okv : AV → Prop
  | .inl x => InR x
  | .inr _ => True
def kn : AV → Bool
  | .inl _ => true
  | .inr (.inl _) => true
  | .inr (.inr e) => decide (e < 4)
theorem cv_cat (X : Cx) (v : AV) : (cv X v).category = 1 := by
  rcases v with x | k | e <;> rfl
theorem inr_toInt (a : Int32) : InR a.toInt := by
  have h1 := Int32.le_toInt a
  have h2 := Int32.toInt_lt a
  unfold InR
  omega
theorem tI {x : Int} (h : InR x) : (Int32.ofInt x).toInt = x := by
  unfold InR at h
  exact Int32.toInt_ofInt_of_le (by omega) (by omega)
theorem oI (a : Int32) : Int32.ofInt a.toInt = a := Int32.ofInt_toInt a
theorem i_lt {x y : Int} (hx : InR x) (hy : InR y) : Int32.ofInt x < Int32.ofInt y ↔ x < y := by
  rw [Int32.lt_iff_toInt_lt, tI hx, tI hy]
theorem i_le {x y : Int} (hx : InR x) (hy : InR y) : Int32.ofInt x ≤ Int32.ofInt y ↔ x ≤ y := by
  rw [Int32.le_iff_toInt_le, tI hx, tI hy]
theorem i_eq {x y : Int} (hx : InR x) (hy : InR y) : Int32.ofInt x = Int32.ofInt y ↔ x = y := by
  rw [← Int32.toInt_inj, tI hx, tI hy]
theorem i_0 : Int32.ofInt 0 = 0 := rfl
theorem in_0 : InR 0 := by unfold InR; omega
theorem i_clamp {x : Int} (hx : InR x) : (Int32.ofInt x).toNatClampNeg = x.toNat := by
  show (Int32.ofInt x).toInt.toNat = x.toNat
  rw [tI hx]
theorem i_in {x : Int} {n : Nat} (hx : InR x) (h0 : 0 ≤ x) (h : x < n) : vp_in (Int32.ofInt x) n := by
  rw [vp_in_iff, tI hx]
  exact ⟨h0, h⟩
theorem i_nat (n : Nat) : Int32.ofInt (n : Int) = Int32.ofNat n := Int32.ofInt_eq_ofNat
-- fields, cells, worlds
def fld (b : Nat) (f : Int → Int) : List (Option (Option Nat)) → Nat → List Value
  | [], _ => []
  | none :: r, j => .int (Int32.ofInt (f j)) :: fld b f r (j + 1)
  | some o :: r, j => va_rf (o.map (b + ·)) :: fld b f r (j + 1)
def fv (b : Nat) (f : Int → Int) (j : Nat) : Option (Option Nat) → Value
  | none => .int (Int32.ofInt (f j))
  | some o => va_rf (o.map (b + ·))
theorem fld_get (b : Nat) (f : Int → Int) : ∀ (rl : List (Option (Option Nat))) (j k : Nat), (fld b f rl j)[k]? = (rl[k]?).map (fv b f (j + k))
  | [], j, k => by simp [fld]
  | none :: r, j, 0 => by simp [fld, fv]
  | some o :: r, j, 0 => by simp [fld, fv]
  | none :: r, j, k + 1 => by
    simp only [fld, List.getElem?_cons_succ]
    rw [fld_get b f r (j + 1) k, show j + 1 + k = j + (k + 1) by omega]
  | some o :: r, j, k + 1 => by
    simp only [fld, List.getElem?_cons_succ]
    rw [fld_get b f r (j + 1) k, show j + 1 + k = j + (k + 1) by omega]
theorem fld_len (b : Nat) (f : Int → Int) : ∀ (rl : List (Option (Option Nat))) (j : Nat), (fld b f rl j).length = rl.length
  | [], j => rfl
  | none :: r, j => by simp [fld, fld_len b f r]
  | some o :: r, j => by simp [fld, fld_len b f r]
def updI (f : Int → Int) (i x : Int) : Int → Int := fun j => if j = i then x else f j
def st (σ : Sg) (k : Nat) (i x : Int) : Sg := fun k' j => if k' = k ∧ j = i then x else σ k' j
theorem st_row (σ : Sg) (k : Nat) (i x : Int) : st σ k i x k = updI (σ k) i x := by
  funext j
  simp [st, updI]
theorem st_off (σ : Sg) {k k' : Nat} (i x : Int) (h : k' ≠ k) : st σ k i x k' = σ k' := by
  funext j
  simp [st, h]
theorem fld_seti (b : Nat) (f : Int → Int) (rl : List (Option (Option Nat))) (k : Nat) (x : Int) (h : rl[k]? = some none) : (fld b f rl 0).set k (.int (Int32.ofInt x)) = fld b (updI f k x) rl 0 := by
  apply List.ext_getElem?
  intro j
  by_cases hj : j = k
  · subst hj
    have hl : j < (fld b f rl 0).length := by
      rw [fld_len]
      exact (List.getElem?_eq_some_iff.mp h).1
    rw [List.getElem?_set_self hl, fld_get, h]
    simp [fv, updI]
  · rw [List.getElem?_set_ne (Ne.symm hj), fld_get, fld_get]
    cases hr : rl[j]? with
    | none => rfl
    | some o =>
      cases o with
      | none =>
        have : ¬ ((0 + j : Nat) : Int) = (k : Int) := by omega
        simp only [fv, updI, Option.map_some]
        rw [if_neg this]
      | some o => rfl
theorem fld_setr (b : Nat) (f : Int → Int) (rl : List (Option (Option Nat))) (k : Nat) (o : Option Nat) (h : k < rl.length) : (fld b f rl 0).set k (va_rf (o.map (b + ·))) = fld b f (rl.set k (some o)) 0 := by
  apply List.ext_getElem?
  intro j
  by_cases hj : j = k
  · subst hj
    have hl : j < (fld b f rl 0).length := by
      rw [fld_len]
      exact h
    rw [List.getElem?_set_self hl, fld_get, List.getElem?_set_self h]
    simp [fv]
  · rw [List.getElem?_set_ne (Ne.symm hj), fld_get, fld_get, List.getElem?_set_ne (Ne.symm hj)]
def cel (X : Cx) (sp : Shp) (f : Int → Int) : va_E := match sp with
  | .inl (z, len) => .inl (if z then X.2.2.1.2.1 else X.2.2.1.1, len, .inl (fun j => Int32.ofInt (f j)))
  | .inr (.inl (len, g)) => .inl (X.2.2.1.2.2, len, .inr (.inr (.inr (.inr (fun j => (g j).map (X.1 + ·))))))
  | .inr (.inr (ci, rl)) => .inr (ci, fld X.1 f rl 0)
def wl (X : Cx) (n : Nat) (sh : Nat → Shp) (σ : Sg) : va_W := (List.range n).map fun k => (X.1 + k, cel X (sh k) (σ k))
theorem wl_get {X : Cx} {n : Nat} {sh : Nat → Shp} {σ : Sg} {k : Nat} (h : k < n) : (wl X n sh σ)[k]? = some (X.1 + k, cel X (sh k) (σ k)) := by
  simp [wl, h]
theorem wl_none {X : Cx} {n : Nat} {sh : Nat → Shp} {σ : Sg} {k : Nat} (h : ¬ k < n) : (wl X n sh σ)[k]? = none := by
  simp [wl]
  omega
theorem wl_len {X : Cx} {n : Nat} {sh : Nat → Shp} {σ : Sg} : (wl X n sh σ).length = n := by simp [wl]
theorem wl_set {X : Cx} {n : Nat} {sh sh' : Nat → Shp} {σ σ' : Sg} {k : Nat} (h : k < n) (ho : ∀ j, j ≠ k → sh' j = sh j ∧ σ' j = σ j) : (wl X n sh σ).set k (X.1 + k, cel X (sh' k) (σ' k)) = wl X n sh' σ' := by
  apply List.ext_getElem?
  intro j
  by_cases hj : j = k
  · subst hj
    rw [List.getElem?_set_self (by rw [wl_len]; exact h), wl_get h]
  · rw [List.getElem?_set_ne (Ne.symm hj)]
    by_cases hn : j < n
    · rw [wl_get hn, wl_get hn, (ho j hj).1, (ho j hj).2]
    · rw [wl_none hn, wl_none hn]
theorem wl_push {X : Cx} {n : Nat} {sh sh' : Nat → Shp} {σ σ' : Sg} (ho : ∀ j, j < n → sh' j = sh j ∧ σ' j = σ j) : wl X n sh σ ++ [(X.1 + n, cel X (sh' n) (σ' n))] = wl X (n + 1) sh' σ' := by
  unfold wl
  rw [List.range_succ, List.map_append]
  congr 1
  apply List.map_congr_left
  intro k hk
  have hk := List.mem_range.mp hk
  rw [(ho k hk).1, (ho k hk).2]
def Ab (X : Cx) : Nat → Prop := fun q => X.1 ≤ q
theorem wl_D (X : Cx) (n : Nat) (sh : Nat → Shp) (σ : Sg) : va_D (Ab X) (wl X n sh σ) := by
  have key : ∀ (k : Nat) (q : Nat × va_E), (wl X n sh σ)[k]? = some q → q.1 = X.1 + k := by
    intro k q h
    by_cases hk : k < n
    · rw [wl_get hk] at h
      cases h
      rfl
    · rw [wl_none hk] at h
      cases h
  refine ⟨fun i j a b hi hj h => ?_, fun k q h => ?_⟩
  · have h1 := key i a hi
    have h2 := key j b hj
    omega
  · rw [key k q h]
    exact Nat.le_add_right _ _
def dSh : Shp := .inr (.inr (99, []))
def Whp (X : Cx) (n : Nat) (sh : Nat → Shp) (σ : Sg) (H : Heap) : Prop := H.size = X.1 + n ∧ va_P X.2.1 vwCl (wl X n sh σ) H ∧ (∀ k j, InR (σ k j)) ∧ ∀ k, n ≤ k → sh k = dSh
def tysX (X : Cx) : List (ClassId × FieldType) := [(X.2.2.1.1, .int), (X.2.2.1.2.1, .boolean), (X.2.2.1.2.2, .object "MirrorMaze$Maze")]
abbrev nw1 : Cond := .fieldLinkNest "MirrorMaze$Maze" 52 "MirrorMaze" "X_OF_WAY" "[I" "MirrorMaze"
abbrev nw2 : Cond := .fieldLinkNest "MirrorMaze$Maze" 55 "MirrorMaze" "Y_OF_WAY" "[I" "MirrorMaze"
abbrev nw3 : Cond := .methodLinkNest "MirrorMaze$Maze" 62 ⟨"MirrorMaze", "isMirrorKind", "(I)Z"⟩ "MirrorMaze"
def xn (e : Nat) : String := match e with | 1 => "KIND_ABOVE" | 2 => "X_OF_WAY" | _ => "Y_OF_WAY"
def Wst (X : Cx) (U : State) : Prop := va_K X.2.1 vwCl (tysX X) U ∧ va_AO "MirrorMaze$Maze" U ∧ va_Nw nw1 U ∧ va_Nw nw2 U ∧ va_Nw nw3 U
  ∧ (∀ e, 1 ≤ e → e < 4 → va_Z "MirrorMaze" (xn e) "[I" (.ref (X.2.2.2.1 e)) (Ab X) U U.heap)
  ∧ ∀ e, e < 4 → va_T .int (X.2.2.2.1 e) (xl X e) (fun j => .int (Int32.ofInt (xf X e j))) (Ab X) U U.heap
theorem xf_in (X : Cx) (e : Nat) (i : Int) : InR (xf X e i) := by
  unfold xf
  match e with
  | 0 => exact inr_toInt _
  | 1 => show InR (if i = 0 then -1 else if i = 2 ∨ i = 4 then 1 else 0); unfold InR; split <;> (try split) <;> omega
  | 2 => show InR (if i = 0 then 1 else if i = 2 then -1 else 0); unfold InR; split <;> (try split) <;> omega
  | e + 3 => show InR (if i = 1 then 1 else if i = 3 then -1 else 0); unfold InR; split <;> (try split) <;> omega
theorem Wst.warm {X : Cx} {s U : State} {H : Heap} {locs : List Loc} (h : Wst X s) (hS : va_S (Ab X) s.heap H locs) (hU : U.heap = H) (hW : s.WarmedH U.vm) : Wst X U := by
  obtain ⟨h1, h2, h3, h4, h5, h6, h7⟩ := h
  refine ⟨va_K.moved hW.alike h1, va_AO.moved hW.alike h2, va_Nw.warmF hW h3, va_Nw.warmF hW h4, va_Nw.warmM hW h5, fun e a b => ?_, fun e a => ?_⟩
  · rw [hU]
    exact va_Z.moved hW.alike ((h6 e a b).kept hS.2.1)
  · rw [hU]
    exact va_T.moved hW.alike ((h7 e a).kept hS.2.1)
theorem Wst.blind {X : Cx} {U : State} {g : JFrame} {mk : MethodId} {a : Array Value} (h : Wst X U) : Wst X (U.calling g mk a) := by
  obtain ⟨h1, h2, h3, h4, h5, h6, h7⟩ := h
  have hv : U.vm.Alike (U.calling g mk a).vm := Vm.Alike.refl U.vm
  have hr : U.vm = (U.calling g mk a).vm := rfl
  exact ⟨va_K.moved hv h1, va_AO.moved hv h2, va_Nw.same rfl hr h3, va_Nw.same rfl hr h4, va_Nw.same rfl hr h5, fun e x y => va_Z.moved hv (h6 e x y), fun e x => va_T.moved hv (h7 e x)⟩
-- the good words
def gtbl : List Cond := lw_tbl.filter goodWord
theorem g_mem {w : Cond} (pos : Nat) (h : lw_tbl[pos]? = some w) (hg : goodWord w = true) : w ∈ gtbl := List.mem_filter.mpr ⟨List.mem_of_getElem? h, hg⟩
theorem gt_good : ∀ w ∈ gtbl, goodWord w = true := fun _ h => (List.mem_filter.mp h).2
theorem gt_in (ws : List Cond) (h : ∀ w ∈ ws, w ∈ gtbl) : GoodIn gtbl ws := fun w hw => ⟨h w hw, good_of_word (gt_good w (h w hw))⟩
-- locals
def lr (X : Cx) (ls : Array Slot) (nL : Nat) (L : List AV) : Prop := ls.size = nL ∧ lv_wf ls ∧ L.length = nL ∧ ∀ (i : Nat) (v : AV), L[i]? = some v → kn v = true → ls[i]? = some (.val (cv X v))
def prs (X : Cx) (L : List AV) : List (Nat × Value) := L.zipIdx.filterMap (fun q => if kn q.1 then some (q.2, cv X q.1) else none)
theorem lr_has {X : Cx} {ls : Array Slot} {nL : Nat} {L : List AV} (h : lr X ls nL L) : lv_has ls nL (prs X L) := by
  refine ⟨h.1, h.2.1, fun q hq => ?_⟩
  obtain ⟨⟨v, i⟩, h1, h2⟩ := List.mem_filterMap.mp hq
  have h3 : L[i]? = some v := by
    rw [List.mem_zipIdx_iff_getElem?] at h1
    exact h1
  by_cases hk : kn v = true
  · simp only [hk, if_true] at h2
    cases h2
    exact h.2.2.2 i v h3 hk
  · simp [hk] at h2
theorem lr_in {X : Cx} {L : List AV} {i : Nat} {v : AV} (h : L[i]? = some v) (hk : kn v = true) : (i, cv X v) ∈ prs X L := by
  refine List.mem_filterMap.mpr ⟨(v, i), ?_, ?_⟩
  · rw [List.mem_zipIdx_iff_getElem?]
    exact h
  · simp [hk]
theorem lr_set {X : Cx} {ls ls' : Array Slot} {nL : Nat} {L : List AV} {i : Nat} {v : AV} (h : lr X ls nL L) (hi : i < nL)
    (h' : lv_has ls' nL ((i, cv X v) :: (prs X L).filter (fun q => !(q.1 == i) && !(q.1 + 1 == i && q.2.category == 2)))) : lr X ls' nL (L.set i v) := by
  refine ⟨h'.1, h'.2.1, by rw [List.length_set]; exact h.2.2.1, fun j w hj hk => ?_⟩
  by_cases e : j = i
  · subst e
    rw [List.getElem?_set_self (by rw [h.2.2.1]; exact hi)] at hj
    cases hj
    exact h'.2.2 _ List.mem_cons_self
  · rw [List.getElem?_set_ne (Ne.symm e)] at hj
    refine h'.2.2 (j, cv X w) (List.mem_cons_of_mem _ (List.mem_filter.mpr ⟨lr_in hj hk, ?_⟩))
    simp [e, cv_cat]
-- the frame's context
abbrev FC : Type _ := Program × Launch × Env × Room × State × MethodId × Array Value × List Frame × Method × Code × (State → Prop)
def SW (X : Cx) (nL : Nat) (Z : FC) (pc : Nat) (L St : List AV) (n : Nat) (sh : Nat → Shp) (σ : Sg) (ce sl : Nat) : Prop :=
  (∀ v ∈ L, okv v) → (∀ v ∈ St, okv v) → ∀ (H : Heap) (locs : List Loc) (ls : Array Slot), lr X ls nL L → Whp X n sh σ H → va_S (Ab X) Z.2.2.2.2.1.heap H locs →
    W Z.1 Z.2.1 Z.2.2.1 Z.2.2.2.1 Z.2.2.2.2.1 Z.2.2.2.2.2.1 Z.2.2.2.2.2.2.1 Z.2.2.2.2.2.2.2.1 Z.2.2.2.2.2.2.2.2.1 Z.2.2.2.2.2.2.2.2.2.1 H locs ce sl Z.2.2.2.2.2.2.2.2.2.2 (F0 Z.2.2.2.2.2.1 pc ls (St.map (cv X)))
def Bd (X : Cx) (md : MD) (Z : FC) : Prop := Z.1.tables.exec = Jvm.exec ∧ Z.2.2.2.2.2.2.2.2.2.1.code = md.2.1 ∧ Z.2.2.2.2.2.2.2.2.2.1.maxLocals = md.2.2.1 ∧ Z.2.2.2.2.1.vm.findClass md.1.cls = some Z.2.2.2.2.2.1.cls ∧ Z.2.2.2.2.2.2.2.2.1.name = md.1.name ∧ (∀ w ∈ gtbl, w.before Z.2.2.2.2.2.2.1 Z.2.2.2.2.1 = true) ∧ Wst X Z.2.2.2.2.1 ∧ X.1 ≤ Z.2.2.2.2.1.heap.size ∧ 1 ≤ Z.2.2.2.1.frames ∧ 64 ≤ Z.2.2.2.1.locals
