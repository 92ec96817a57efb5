-- THE ABSTRACT MACHINE, part two: what an instruction asks (stp), what a stretch of code asks (wp)
def bshl (x y : Int) : Int := (Int32.ofInt x <<< (Int32.ofInt y &&& 31)).toInt
def bshr (x y : Int) : Int := (Int32.ofInt x >>> (Int32.ofInt y &&& 31)).toInt
def bushr (x y : Int) : Int := ((Int32.ofInt x).toUInt32 >>> ((Int32.ofInt y).toUInt32 &&& Int32.toUInt32 31)).toInt32.toInt
def band (x y : Int) : Int := (Int32.ofInt x &&& Int32.ofInt y).toInt
def bor (x y : Int) : Int := (Int32.ofInt x ||| Int32.ofInt y).toInt
def bxor (x y : Int) : Int := (Int32.ofInt x ^^^ Int32.ofInt y).toInt
def b2b (x : Int) : Int := (Int32.ofInt x).toInt8.toInt32.toInt
def b2s (x : Int) : Int := (Int32.ofInt x).toInt16.toInt32.toInt
def bop (a : Nat) (x y : Int) (K : Int → Prop) : Prop := match a with
  | 0 => InR (x + y) ∧ K (x + y)
  | 1 => InR (x - y) ∧ K (x - y)
  | 2 => InR (x * y) ∧ K (x * y)
  | 3 => (0 ≤ x ∧ 0 < y) ∧ K (x / y)
  | 4 => (0 ≤ x ∧ 0 < y) ∧ K (x % y)
  | 5 => K (bshl x y)
  | 6 => K (bshr x y)
  | 7 => K (bushr x y)
  | 8 => K (band x y)
  | 9 => K (bor x y)
  | 10 => K (bxor x y)
  | _ => False
def cnd (a : Nat) (x y : Int) : Prop := match a with
  | 0 => x = y
  | 1 => ¬ x = y
  | 2 => x < y
  | 3 => y ≤ x
  | 4 => y < x
  | 5 => x ≤ y
  | _ => False
def nth : List AV → Nat → AV
  | [], _ => vx 9
  | v :: _, 0 => v
  | _ :: l, n + 1 => nth l n
def sn : List AV → Nat → AV → List AV
  | [], _, _ => []
  | _ :: l, 0, v => v :: l
  | w :: l, n + 1, v => w :: sn l n v
def ldi (v : AV) (K : Int → Prop) : Prop := match v with
  | .inl x => K x
  | .inr _ => False
def ldr (v : AV) (K : Nat ⊕ Nat → Prop) : Prop := match v with
  | .inl _ => False
  | .inr (.inl k) => K (.inl k)
  | .inr (.inr e) => e < 4 ∧ K (.inr e)
def spl (b : Nat) (St : List AV) (K : List AV → List AV → Prop) : Prop := match b, St with
  | 0, St => K [] St
  | 1, a :: St => K [a] St
  | 2, b :: a :: St => K [a, b] St
  | 3, c :: b :: a :: St => K [a, b, c] St
  | 4, d :: c :: b :: a :: St => K [a, b, c, d] St
  | 5, e :: d :: c :: b :: a :: St => K [a, b, c, d, e] St
  | 6, f :: e :: d :: c :: b :: a :: St => K [a, b, c, d, e, f] St
  | _, _ => False
def gfl (sp : Shp) (ci b : Nat) (f : Int → Int) (K : AV → Prop) : Prop := match sp with
  | .inr (.inr (c, rl)) => c = ci ∧ (match rl[b]? with
    | some none => K (vi (f b))
    | some (some (some r)) => K (vr r)
    | _ => False)
  | _ => False
def pfl (sp : Shp) (ci b : Nat) (K : Prop) : Prop := match sp with
  | .inr (.inr (c, rl)) => c = ci ∧ rl[b]? = some none ∧ K
  | _ => False
def isC (sp : Shp) (z : Int) : Prop := match sp with
  | .inr (.inr (c, _)) => (c : Int) = z
  | _ => False
def arr (sp : Shp) (z : Bool) (i : Int) (K : Prop) : Prop := match sp with
  | .inl (z', len) => z' = z ∧ (0 ≤ i ∧ i < len) ∧ K
  | _ => False
def arq (sp : Shp) (i : Int) (K : AV → Prop) : Prop := match sp with
  | .inr (.inl (len, g)) => (0 ≤ i ∧ i < len) ∧ (match g i.toNat with | some r => K (vr r) | none => False)
  | _ => False
def aln (sp : Shp) (K : Int → Prop) : Prop := match sp with
  | .inl (_, len) => K len
  | _ => False
def cpy (σ : Sg) (ks : Nat) (sp : Int) (kd : Nat) (dp n : Int) : Sg := fun k j => if k = kd ∧ dp ≤ j ∧ j < dp + n then σ ks (sp + (j - dp)) else σ k j
def swp (x : Int) : Int → List Nat → (Nat → Prop) → Prop
  | _, [], _ => False
  | _, [d], J => J d
  | lo, t :: ts, J => (x = lo → J t) ∧ (¬ x = lo → swp x (lo + 1) ts J)
def stp (X : Cx) (sh : Nat → Shp) (R : Option AV → Sg → Prop) (CK : Nat → List AV → Nat → List AV → List AV → Sg → Prop) (rb : Bool) (nx : Nat) (K : List AV → List AV → Sg → Prop) (J : Nat → List AV → List AV → Sg → Prop) (c : Nat) (z : Int) (a b : Nat) (L St : List AV) (σ : Sg) : Prop := match c, St with
  | 0, St => K L (vi z :: St) σ
  | 1, St => ldi (nth L a) (fun v => K L (vi v :: St) σ)
  | 34, St => ldr (nth L a) (fun v => K L (.inr v :: St) σ)
  | 2, .inl v :: St => K (sn L a (vi v)) St σ
  | 35, .inr v :: St => K (sn L a (.inr v)) St σ
  | 3, St => ldi (nth L a) (fun x => InR (x + z) ∧ K (sn L a (vi (x + z))) St σ)
  | 4, .inl y :: .inl x :: St => bop a x y (fun w => K L (vi w :: St) σ)
  | 5, .inl x :: St => (cnd a x 0 → J b L St σ) ∧ (¬ cnd a x 0 → K L St σ)
  | 6, .inl y :: .inl x :: St => (cnd a x y → J b L St σ) ∧ (¬ cnd a x y → K L St σ)
  | 7, St => J b L St σ
  | 8, .inr (.inl k) :: St => gfl (sh k) a b (σ k) (fun v => K L (v :: St) σ)
  | 9, .inl x :: .inr (.inl k) :: St => pfl (sh k) a b (K L St (st σ k b x))
  | 33, .inl x :: .inr (.inl k) :: St => (x = 0 ∨ x = 1) ∧ pfl (sh k) a b (K L St (st σ k b x))
  | 11, St => (1 ≤ a ∧ a < 4) ∧ K L (vx a :: St) σ
  | 12, .inl i :: .inr (.inl k) :: St => arr (sh k) false i (K L (vi (σ k i) :: St) σ)
  | 12, .inl i :: .inr (.inr e) :: St => e < 4 ∧ (0 ≤ i ∧ i < xl X e) ∧ K L (vi (xf X e i) :: St) σ
  | 13, .inl x :: .inl i :: .inr (.inl k) :: St => arr (sh k) false i (K L St (st σ k i x))
  | 14, .inl i :: .inr (.inl k) :: St => arr (sh k) true i (K L (vi (σ k i) :: St) σ)
  | 15, .inl x :: .inl i :: .inr (.inl k) :: St => (x = 0 ∨ x = 1) ∧ arr (sh k) true i (K L St (st σ k i x))
  | 16, .inl i :: .inr (.inl k) :: St => arq (sh k) i (fun v => K L (v :: St) σ)
  | 18, .inr (.inl k) :: St => aln (sh k) (fun v => InR v ∧ K L (vi v :: St) σ)
  | 18, .inr (.inr e) :: St => e < 4 ∧ InR (xl X e) ∧ K L (vi (xl X e) :: St) σ
  | 22, v :: St => K L (v :: v :: St) σ
  | 23, v :: w :: St => K L (v :: w :: v :: w :: St) σ
  | 24, St => spl b St (fun args rest => CK a args nx L rest σ)
  | 32, St => spl b St (fun args rest => (match args with | .inr (.inl k) :: _ => isC (sh k) z | _ => False) ∧ CK a args nx L rest σ)
  | 25, [.inl x] => (rb = true → x = 0 ∨ x = 1) ∧ R (some (vi x)) σ
  | 26, [] => R none σ
  | 27, .inl x :: St => K L (vi (b2b x) :: St) σ
  | 28, .inl x :: St => K L (vi (b2s x) :: St) σ
  | 30, .inl n :: .inl dp :: .inr (.inl kd) :: .inl sp :: .inr (.inl ks) :: St => St.length ≤ 8 ∧ (0 ≤ n ∧ 0 ≤ dp ∧ 0 ≤ sp) ∧ aln (sh ks) (fun l1 => sp + n ≤ l1) ∧ aln (sh kd) (fun l2 => dp + n ≤ l2) ∧ (sh ks = .inl (false, (match sh ks with | .inl (_, q) => q | _ => 0)) ∧ sh kd = .inl (false, (match sh kd with | .inl (_, q) => q | _ => 0))) ∧ K L St (cpy σ ks sp kd dp n)
  | 31, .inl x :: St => swp x z (SWT.getD b []) (fun t => J t L St σ)
  | _, _ => False
def hd : List EN → Nat
  | [] => 0
  | e :: _ => e.1
def sf : List EN → Bool
  | [] => false
  | e :: _ => e.2.1
def seek : List EN → Nat → List EN
  | [], _ => []
  | e :: E, t => bif e.1 == t then e :: E else seek E t
def wp (X : Cx) (sh : Nat → Shp) (S : Nat → List AV → List AV → Sg → Prop) (R : Option AV → Sg → Prop) (CK : Nat → List AV → Nat → List AV → List AV → Sg → Prop) (rb : Bool) (P : List EN) : Nat → List EN → List AV → List AV → Sg → Prop
  | 0, E, L, St, σ => S (hd E) L St σ
  | _ + 1, [], _, _, _ => False
  | f + 1, e :: E, L, St, σ => stp X sh R CK rb (hd E) (fun L St σ => bif sf E then S (hd E) L St σ else wp X sh S R CK rb P f E L St σ) (fun t L St σ => bif sf (seek P t) then S t L St σ else wp X sh S R CK rb P f (seek P t) L St σ) e.2.2.1 e.2.2.2.1 e.2.2.2.2.1 e.2.2.2.2.2.1 L St σ
