-- THE CHECKS: an entry of a program is what the bytes say
def inRb (z : Int) : Bool := decide (-2147483648 ≤ z) && decide (z ≤ 2147483647)
def cno : Jvm.ClassFile.Cond → Nat
  | .eq => 0
  | .ne => 1
  | .lt => 2
  | .ge => 3
  | .gt => 4
  | .le => 5
def okO (md : MD) (nx pc len : Nat) (op : Jvm.ClassFile.Instr) (c : Nat) (z : Int) (a b x : Nat) : Bool := match op with
  | .iconst n => decide (c = 0 ∧ Int32.ofInt n = Int32.ofInt z ∧ len = 1 ∧ nx = pc + 1) && inRb z
  | .bipush n => decide (c = 0 ∧ (Int8.ofInt n).toInt32 = Int32.ofInt z ∧ len = 2 ∧ nx = pc + 2) && inRb z
  | .sipush n => decide (c = 0 ∧ (Int16.ofInt n).toInt32 = Int32.ofInt z ∧ len = 3 ∧ nx = pc + 3) && inRb z
  | .ldc i => decide (c = 0 ∧ lw_tbl[x]? = some (.constant md.1.cls i (Int32.ofInt z)) ∧ len = 2 ∧ nx = pc + 2) && inRb z
  | .ldc_w i => decide (c = 0 ∧ lw_tbl[x]? = some (.constant md.1.cls i (Int32.ofInt z)) ∧ len = 3 ∧ nx = pc + 3) && inRb z
  | .iload_n k => decide (c = 1 ∧ k.val = a ∧ len = 1 ∧ nx = pc + 1)
  | .iload i => decide (c = 1 ∧ i = a ∧ len = 2 ∧ nx = pc + 2)
  | .aload_n k => decide (c = 34 ∧ k.val = a ∧ len = 1 ∧ nx = pc + 1)
  | .aload i => decide (c = 34 ∧ i = a ∧ len = 2 ∧ nx = pc + 2)
  | .istore_n k => decide (c = 2 ∧ k.val = a ∧ a < md.2.2.1 ∧ len = 1 ∧ nx = pc + 1)
  | .istore i => decide (c = 2 ∧ i = a ∧ a < md.2.2.1 ∧ len = 2 ∧ nx = pc + 2)
  | .astore_n k => decide (c = 35 ∧ k.val = a ∧ a < md.2.2.1 ∧ len = 1 ∧ nx = pc + 1)
  | .astore i => decide (c = 35 ∧ i = a ∧ a < md.2.2.1 ∧ len = 2 ∧ nx = pc + 2)
  | .iinc i n => decide (c = 3 ∧ i = a ∧ a < md.2.2.1 ∧ n = z ∧ len = 3 ∧ nx = pc + 3)
  | .iadd => decide (c = 4 ∧ a = 0 ∧ len = 1 ∧ nx = pc + 1)
  | .isub => decide (c = 4 ∧ a = 1 ∧ len = 1 ∧ nx = pc + 1)
  | .imul => decide (c = 4 ∧ a = 2 ∧ len = 1 ∧ nx = pc + 1)
  | .idiv => decide (c = 4 ∧ a = 3 ∧ len = 1 ∧ nx = pc + 1)
  | .irem => decide (c = 4 ∧ a = 4 ∧ len = 1 ∧ nx = pc + 1)
  | .ishl => decide (c = 4 ∧ a = 5 ∧ len = 1 ∧ nx = pc + 1)
  | .ishr => decide (c = 4 ∧ a = 6 ∧ len = 1 ∧ nx = pc + 1)
  | .iushr => decide (c = 4 ∧ a = 7 ∧ len = 1 ∧ nx = pc + 1)
  | .iand => decide (c = 4 ∧ a = 8 ∧ len = 1 ∧ nx = pc + 1)
  | .ior => decide (c = 4 ∧ a = 9 ∧ len = 1 ∧ nx = pc + 1)
  | .ixor => decide (c = 4 ∧ a = 10 ∧ len = 1 ∧ nx = pc + 1)
  | .ifCond cd off => decide (c = 5 ∧ cno cd = a ∧ (pc : Int) + off = (b : Int) ∧ len = 3 ∧ nx = pc + 3)
  | .if_icmp cd off => decide (c = 6 ∧ cno cd = a ∧ (pc : Int) + off = (b : Int) ∧ len = 3 ∧ nx = pc + 3)
  | .goto off => decide (c = 7 ∧ (pc : Int) + off = (b : Int) ∧ len = 3)
  | .getfield i => (match vwCl[a]? with
    | some q => decide (c = 8 ∧ b < q.2.2 ∧ lw_tbl[x]? = some (.fieldLink md.1.cls i (q.2.1 b).1 (q.2.1 b).2.1 (q.2.1 b).2.2.1) ∧ len = 3 ∧ nx = pc + 3)
    | none => false)
  | .putfield i => (match vwCl[a]? with
    | some q => decide (((c = 9 ∧ (q.2.1 b).2.2.2 = false ∧ parseFieldDescriptor (q.2.1 b).2.2.1 = some .int) ∨ (c = 33 ∧ (q.2.1 b).2.2.2 = false ∧ parseFieldDescriptor (q.2.1 b).2.2.1 = some .boolean) ∨ (c = 10 ∧ (q.2.1 b).2.2.2 = true ∧ md.1.name = "<init>" ∧ (q.2.1 b).1 = md.1.cls)) ∧ b < q.2.2 ∧ lw_tbl[x]? = some (.fieldLink md.1.cls i (q.2.1 b).1 (q.2.1 b).2.1 (q.2.1 b).2.2.1) ∧ len = 3 ∧ nx = pc + 3)
    | none => false)
  | .getstatic i => decide (c = 11 ∧ 1 ≤ a ∧ a < 4 ∧ ((b = 0 ∧ lw_tbl[x]? = some (.fieldLink md.1.cls i "MirrorMaze" (xn a) "[I")) ∨ (b = 1 ∧ md.1.cls = "MirrorMaze$Maze" ∧ ((i = 52 ∧ a = 2) ∨ (i = 55 ∧ a = 3)))) ∧ len = 3 ∧ nx = pc + 3)
  | .iaload => decide (c = 12 ∧ len = 1 ∧ nx = pc + 1)
  | .iastore => decide (c = 13 ∧ len = 1 ∧ nx = pc + 1)
  | .baload => decide (c = 14 ∧ len = 1 ∧ nx = pc + 1)
  | .bastore => decide (c = 15 ∧ len = 1 ∧ nx = pc + 1)
  | .aaload => decide (c = 16 ∧ len = 1 ∧ nx = pc + 1)
  | .aastore => decide (c = 17 ∧ len = 1 ∧ nx = pc + 1)
  | .arraylength => decide (c = 18 ∧ len = 1 ∧ nx = pc + 1)
  | .newarray t => decide (c = 19 ∧ ((a = 0 ∧ t = .int) ∨ (a = 1 ∧ t = .boolean)) ∧ len = 2 ∧ nx = pc + 2)
  | .anewarray i => decide (c = 20 ∧ lw_tbl[x]? = some (.classLink md.1.cls i "MirrorMaze$Maze") ∧ len = 3 ∧ nx = pc + 3)
  | .new i => (match vwCl[a]? with
    | some q => decide (c = 21 ∧ lw_tbl[x]? = some (.classLink md.1.cls i q.1) ∧ len = 3 ∧ nx = pc + 3)
    | none => false)
  | .dup => decide (c = 22 ∧ len = 1 ∧ nx = pc + 1)
  | .dup2 => decide (c = 23 ∧ len = 1 ∧ nx = pc + 1)
  | .invokestatic i => (match MTL[a]? with
    | some q => (decide (c = 24 ∧ 0 < a) && (q.2.2.2.2.1 && (decide (b = q.2.2.2.2.2.1 ∧ b ≤ 6 ∧ lw_tbl[x]? = some (.methodLink md.1.cls i q.1) ∧ len = 3 ∧ nx = pc + 3) || decide (b = q.2.2.2.2.2.1 ∧ b ≤ 6 ∧ md.1.cls = "MirrorMaze$Maze" ∧ i = 62 ∧ q.1 = ⟨"MirrorMaze", "isMirrorKind", "(I)Z"⟩ ∧ len = 3 ∧ nx = pc + 3)))) || decide (c = 30 ∧ lw_tbl[x]? = some (.methodLink md.1.cls i arraycopyName) ∧ len = 3 ∧ nx = pc + 3)
    | none => false)
  | .invokevirtual i => (match MTL[a]?, vwCl[z.toNat]? with
    | some q, some r => decide (c = 32 ∧ 0 < a ∧ 0 ≤ z ∧ r.1 = q.1.cls ∧ q.2.2.2.2.1 = false ∧ q.1.name ≠ "<init>" ∧ b = q.2.2.2.2.2.1 + 1 ∧ b ≤ 6 ∧ lw_tbl[x]? = some (.methodLink md.1.cls i q.1) ∧ len = 3 ∧ nx = pc + 3)
    | _, _ => false)
  | .invokespecial i => (match MTL[a]? with
    | some q => decide (c = 29 ∧ lw_tbl[x]? = some (.methodLink md.1.cls i Lib.objectInit) ∧ len = 3 ∧ nx = pc + 3) || decide (c = 32 ∧ 0 < a ∧ q.2.2.2.2.1 = false ∧ q.1.name = "<init>" ∧ q.2.2.2.1 = none ∧ b = q.2.2.2.2.2.1 + 1 ∧ b ≤ 6 ∧ lw_tbl[x]? = some (.methodLink md.1.cls i q.1) ∧ len = 3 ∧ nx = pc + 3)
    | none => false)
  | .ireturn => decide (c = 25 ∧ len = 1)
  | .return_ => decide (c = 26 ∧ len = 1)
  | .i2b => decide (c = 27 ∧ len = 1 ∧ nx = pc + 1)
  | .i2s => decide (c = 28 ∧ len = 1 ∧ nx = pc + 1)
  | .tableswitch dflt lo hi offs => decide (c = 31 ∧ lo = z ∧ (hi - lo + 1) = (offs.size : Int) ∧ (offs.toList.map (fun o => (pc : Int) + o) ++ [(pc : Int) + dflt]) = (SWT.getD b []).map (fun t : Nat => (t : Int)))
  | _ => false
def okE (md : MD) (nx : Nat) (e : EN) : Bool := match decode md.2.1 e.1 with
  | .ok (op, len) => okO md nx e.1 len op e.2.2.1 e.2.2.2.1 e.2.2.2.2.1 e.2.2.2.2.2.1 e.2.2.2.2.2.2
  | .error _ => false
def okP (md : MD) : List EN → Bool
  | [] => true
  | e :: E => okE md (hd E) e && okP md E
