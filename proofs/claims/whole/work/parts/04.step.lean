/-! one instruction as a function: an instruction with its place, what a program resolved of it (word, class, field, kind) and its constant -/
abbrev xI : Type := Nat × Instr × (Nat × Nat × Nat × Nat) × Int32 × Int64
abbrev xLv : Type := List (Nat × Value)
abbrev xFr : Type := Nat × xLv × List Value × xMem
def xAll : List Prop → Prop
  | [] => True
  | [p] => p
  | p :: q :: l => p ∧ xAll (q :: l)
def xLd (lv : xLv) (i : Nat) : Option Value := (lv.find? (fun q => q.1 == i)).map (fun q => q.2)
def xSt1 (lv : xLv) (i : Nat) (v : Value) : xLv := (i, v) :: lv.filter (fun q => !(q.1 == i) && !(q.1 + 1 == i && q.2.category == 2))
def xSt2 (lv : xLv) (i : Nat) (v : Value) : xLv := (i, v) :: lv.filter (fun q => !(q.1 == i) && (!(q.1 == i + 1) && !(q.1 + 1 == i && q.2.category == 2)))
abbrev xRes : Type := List Prop × xFr
def xP1i (st : List Value) (f : Int32 → List Value → Option xRes) : Option xRes := match st with
  | .int x :: r => f x r
  | _ => none
def xP2i (st : List Value) (f : Int32 → Int32 → List Value → Option xRes) : Option xRes := match st with
  | .int y :: .int x :: r => f x y r
  | _ => none
def xP1l (st : List Value) (f : Int64 → List Value → Option xRes) : Option xRes := match st with
  | .long x :: r => f x r
  | _ => none
def xP2l (st : List Value) (f : Int64 → Int64 → List Value → Option xRes) : Option xRes := match st with
  | .long y :: .long x :: r => f x y r
  | _ => none
def xP1a (st : List Value) (f : Nat → List Value → Option xRes) : Option xRes := match st with
  | .ref q :: r => f q r
  | _ => none
def xPai (st : List Value) (f : Nat → Int32 → List Value → Option xRes) : Option xRes := match st with
  | .int x :: .ref q :: r => f q x r
  | _ => none
def xPaii (st : List Value) (f : Nat → Int32 → Int32 → List Value → Option xRes) : Option xRes := match st with
  | .int x :: .int i :: .ref q :: r => f q i x r
  | _ => none
theorem xP1i_of {st : List Value} {f : Int32 → List Value → Option xRes} {r : xRes} (h : xP1i st f = some r) : ∃ x s, st = .int x :: s ∧ f x s = some r := by
  unfold xP1i at h; split at h
  · exact ⟨_, _, rfl, h⟩
  · cases h
theorem xP2i_of {st : List Value} {f : Int32 → Int32 → List Value → Option xRes} {r : xRes} (h : xP2i st f = some r) : ∃ x y s, st = .int y :: .int x :: s ∧ f x y s = some r := by
  unfold xP2i at h; split at h
  · exact ⟨_, _, _, rfl, h⟩
  · cases h
theorem xP1l_of {st : List Value} {f : Int64 → List Value → Option xRes} {r : xRes} (h : xP1l st f = some r) : ∃ x s, st = .long x :: s ∧ f x s = some r := by
  unfold xP1l at h; split at h
  · exact ⟨_, _, rfl, h⟩
  · cases h
theorem xP2l_of {st : List Value} {f : Int64 → Int64 → List Value → Option xRes} {r : xRes} (h : xP2l st f = some r) : ∃ x y s, st = .long y :: .long x :: s ∧ f x y s = some r := by
  unfold xP2l at h; split at h
  · exact ⟨_, _, _, rfl, h⟩
  · cases h
theorem xP1a_of {st : List Value} {f : Nat → List Value → Option xRes} {r : xRes} (h : xP1a st f = some r) : ∃ x s, st = .ref x :: s ∧ f x s = some r := by
  unfold xP1a at h; split at h
  · exact ⟨_, _, rfl, h⟩
  · cases h
theorem xPai_of {st : List Value} {f : Nat → Int32 → List Value → Option xRes} {r : xRes} (h : xPai st f = some r) : ∃ q x s, st = .int x :: .ref q :: s ∧ f q x s = some r := by
  unfold xPai at h; split at h
  · exact ⟨_, _, _, rfl, h⟩
  · cases h
theorem xPaii_of {st : List Value} {f : Nat → Int32 → Int32 → List Value → Option xRes} {r : xRes} (h : xPaii st f = some r) : ∃ q i x s, st = .int x :: .int i :: .ref q :: s ∧ f q i x s = some r := by
  unfold xPaii at h; split at h
  · exact ⟨_, _, _, _, rfl, h⟩
  · cases h
/-- a constant of the kind that the instruction takes, or a load -/
def xPush (pc : Nat) (lv : xLv) (st : List Value) (z : xMem) (v : Value) : Option xRes := some ([], pc, lv, v :: st, z)
def xLoad (pc : Nat) (lv : xLv) (st : List Value) (z : xMem) (i : Nat) (k : Nat) : Option xRes := match xLd lv i, k with
  | some (.int x), 0 => some ([], pc, lv, .int x :: st, z)
  | some (.ref x), 1 => some ([], pc, lv, .ref x :: st, z)
  | some .null, 1 => some ([], pc, lv, .null :: st, z)
  | some (.long x), 2 => some ([], pc, lv, .long x :: st, z)
  | _, _ => none
def xStore (nL : Nat) (pc : Nat) (lv : xLv) (st : List Value) (z : xMem) (i : Nat) (k : Nat) : Option xRes := match st, k with
  | .int x :: r, 0 => if i < nL then some ([], pc, xSt1 lv i (.int x), r, z) else none
  | .ref x :: r, 1 => if i < nL then some ([], pc, xSt1 lv i (.ref x), r, z) else none
  | .null :: r, 1 => if i < nL then some ([], pc, xSt1 lv i .null, r, z) else none
  | .long x :: r, 2 => if i + 1 < nL then some ([], pc, xSt2 lv i (.long x), r, z) else none
  | _, _ => none
/-- the tables: static int rows that nobody writes -/
def xTabL (k : Nat) : List Int32 := match k with
  | 0 => [0, 1, 0, 0, 0, 0, 0, 0]
  | 1 => [9, 9, 999, 255, 99, 9, 99, 99]
  | 2 => [-1, 0, 0, 1, 2, 0]
  | _ => [999, 999, 99]
def xTab (k : Nat) (j : Nat) : Int32 := (xTabL k).getD j 0
def xTabN (k : Nat) : Nat := match k with
  | 0 => 8
  | 1 => 8
  | 2 => 6
  | _ => 3
def xGet (sh : xSh) (pc : Nat) (lv : xLv) (z : xMem) (a b q : Nat) (r : List Value) : Option xRes := match sh[q]? with
  | some (0, ci, fs) => if ci = a then match fs[b]? with
    | some 0 => some ([], pc, lv, .int (z.1 q b) :: r, z)
    | some 3 => some ([], pc, lv, .int (z.1 q b) :: r, z)
    | some 1 => some ([], pc, lv, .long (z.2.1 q b) :: r, z)
    | some (c + 4) => some ([], pc, lv, .ref c :: r, z)
    | _ => none
    else none
  | _ => none
def xPut (sh : xSh) (pc : Nat) (lv : xLv) (z : xMem) (a b t q : Nat) (v : Value) (r : List Value) : Option xRes := match sh[q]? with
  | some (0, ci, fs) => if ci = a then match fs[b]?, t, v with
    | some 0, 0, .int x => some ([], pc, lv, r, (xUp z.1 q (upd (z.1 q) b x), z.2))
    | some 3, 3, .int x => some ([x = 0 ∨ x = 1], pc, lv, r, (xUp z.1 q (upd (z.1 q) b x), z.2))
    | some 1, 1, .long x => some ([], pc, lv, r, (z.1, xUp z.2.1 q (vp_updL (z.2.1 q) b x), z.2.2))
    | _, _, _ => none
    else none
  | _ => none
def xIald (sh : xSh) (pc : Nat) (lv : xLv) (z : xMem) (q : Nat) (i : Int32) (r : List Value) : Option xRes := match sh[q]? with
  | some (1, n, _) => some ([vp_in i n], pc, lv, .int (z.1 q i.toNatClampNeg) :: r, z)
  | some _ => none
  | none => if q = 1000 ∨ q = 1001 ∨ q = 1002 ∨ q = 1003 then some ([vp_in i (xTabN (q - 1000))], pc, lv, .int (xTab (q - 1000) i.toNatClampNeg) :: r, z) else none
def xBald (sh : xSh) (pc : Nat) (lv : xLv) (z : xMem) (q : Nat) (i : Int32) (r : List Value) : Option xRes := match sh[q]? with
  | some (2, n, _) => some ([vp_in i n], pc, lv, .int (z.1 q i.toNatClampNeg) :: r, z)
  | _ => none
def xIast (sh : xSh) (pc : Nat) (lv : xLv) (z : xMem) (q : Nat) (i x : Int32) (r : List Value) : Option xRes := match sh[q]? with
  | some (1, n, _) => some ([vp_in i n], pc, lv, r, (xUp z.1 q (upd (z.1 q) i.toNatClampNeg x), z.2))
  | _ => none
def xBast (sh : xSh) (pc : Nat) (lv : xLv) (z : xMem) (q : Nat) (i x : Int32) (r : List Value) : Option xRes := match sh[q]? with
  | some (2, n, _) => some ([vp_in i n, x = 0 ∨ x = 1], pc, lv, r, (xUp z.1 q (upd (z.1 q) i.toNatClampNeg x), z.2))
  | _ => none
def xAald (sh : xSh) (pc : Nat) (lv : xLv) (z : xMem) (q : Nat) (i : Int32) (r : List Value) : Option xRes := match sh[q]? with
  | some (3, n, l) => match l[i.toNatClampNeg]? with
    | some a => some ([vp_in i n], pc, lv, .ref a :: r, z)
    | none => none
  | some (4, n, l) => match l[i.toNatClampNeg]? with
    | some a => some ([vp_in i n], pc, lv, .ref a :: r, z)
    | none => none
  | _ => none
def xAlen (sh : xSh) (pc : Nat) (lv : xLv) (z : xMem) (v : Int32) (q : Nat) (r : List Value) : Option xRes := match sh[q]? with
  | some (1, n, _) => if Int32.ofNat n = v then some ([], pc, lv, .int v :: r, z) else none
  | _ => none
def xTg (pc : Nat) (off : Int) : Nat := ((pc : Int) + off).toNat
def xGo (pc : Nat) (lv : xLv) (st : List Value) (z : xMem) (off : Int) : Option xRes := if 0 ≤ (pc : Int) + off then some ([], xTg pc off, lv, st, z) else none
def xCopy (sh : xSh) (pc : Nat) (lv : xLv) (z : xMem) (st : List Value) : Option xRes := match st with
  | [.int n, .int dp, .ref q1, .int sp, .ref q0] => match sh[q0]?, sh[q1]? with
    | some (1, n0, _), some (1, n1, _) => some ([¬ sp < 0, ¬ dp < 0, ¬ n < 0, sp.toNatClampNeg + n.toNatClampNeg ≤ n0, dp.toNatClampNeg + n.toNatClampNeg ≤ n1], pc, lv, [], (xUp z.1 q1 (va_cpy (z.1 q0) (z.1 q1) sp.toNatClampNeg dp.toNatClampNeg n.toNatClampNeg), z.2))
    | _, _ => none
  | _ => none
/-- one instruction: what must hold, and the frame behind it -/
def xS1 (sh : xSh) (nL : Nat) (x : xI) (lv : xLv) (st : List Value) (z : xMem) : Option xRes := match x with
  | (pc, i, (w, a, b, t), v, u) => match i with
    | .iconst _ => xPush (pc + 1) lv st z (.int v)
    | .bipush _ => xPush (pc + 2) lv st z (.int v)
    | .sipush _ => xPush (pc + 3) lv st z (.int v)
    | .lconst _ => xPush (pc + 1) lv st z (.long u)
    | .ldc _ => if a = 0 then xPush (pc + 2) lv st z (.int v) else xPush (pc + 2) lv st z (.ref (2000 + b))
    | .ldc_w _ => xPush (pc + 3) lv st z (.int v)
    | .ldc2_w _ => xPush (pc + 3) lv st z (.long u)
    | .aconst_null => xPush (pc + 1) lv st z .null
    | .iload_n k => xLoad (pc + 1) lv st z k 0
    | .iload k => xLoad (pc + 2) lv st z k 0
    | .aload_n k => xLoad (pc + 1) lv st z k 1
    | .aload k => xLoad (pc + 2) lv st z k 1
    | .lload_n k => xLoad (pc + 1) lv st z k 2
    | .lload k => xLoad (pc + 2) lv st z k 2
    | .istore_n k => xStore nL (pc + 1) lv st z k 0
    | .istore k => xStore nL (pc + 2) lv st z k 0
    | .astore_n k => xStore nL (pc + 1) lv st z k 1
    | .astore k => xStore nL (pc + 2) lv st z k 1
    | .lstore_n k => xStore nL (pc + 1) lv st z k 2
    | .lstore k => xStore nL (pc + 2) lv st z k 2
    | .iinc k _ => match xLd lv k with
      | some (.int y) => if k < nL then some ([], pc + 3, xSt1 lv k (.int (y + v)), st, z) else none
      | _ => none
    | .iadd => xP2i st fun x y r => some ([], pc + 1, lv, .int (x + y) :: r, z)
    | .isub => xP2i st fun x y r => some ([], pc + 1, lv, .int (x - y) :: r, z)
    | .imul => xP2i st fun x y r => some ([], pc + 1, lv, .int (x * y) :: r, z)
    | .iand => xP2i st fun x y r => some ([], pc + 1, lv, .int (x &&& y) :: r, z)
    | .ior => xP2i st fun x y r => some ([], pc + 1, lv, .int (x ||| y) :: r, z)
    | .ixor => xP2i st fun x y r => some ([], pc + 1, lv, .int (x ^^^ y) :: r, z)
    | .idiv => xP2i st fun x y r => some ([¬ y = 0], pc + 1, lv, .int (x / y) :: r, z)
    | .irem => xP2i st fun x y r => some ([¬ y = 0], pc + 1, lv, .int (x - x / y * y) :: r, z)
    | .ishl => xP2i st fun x y r => some ([], pc + 1, lv, .int (x <<< (y &&& 31)) :: r, z)
    | .ishr => xP2i st fun x y r => some ([], pc + 1, lv, .int (x >>> (y &&& 31)) :: r, z)
    | .iushr => xP2i st fun x y r => some ([], pc + 1, lv, .int ((x.toUInt32 >>> (y.toUInt32 &&& Int32.toUInt32 31)).toInt32) :: r, z)
    | .ineg => xP1i st fun x r => some ([], pc + 1, lv, .int (-x) :: r, z)
    | .i2l => xP1i st fun x r => some ([], pc + 1, lv, .long x.toInt64 :: r, z)
    | .i2b => xP1i st fun x r => some ([], pc + 1, lv, .int x.toInt8.toInt32 :: r, z)
    | .i2s => xP1i st fun x r => some ([], pc + 1, lv, .int x.toInt16.toInt32 :: r, z)
    | .l2i => xP1l st fun x r => some ([], pc + 1, lv, .int x.toInt32 :: r, z)
    | .ladd => xP2l st fun x y r => some ([], pc + 1, lv, .long (x + y) :: r, z)
    | .lsub => xP2l st fun x y r => some ([], pc + 1, lv, .long (x - y) :: r, z)
    | .lmul => xP2l st fun x y r => some ([], pc + 1, lv, .long (x * y) :: r, z)
    | .ldiv => xP2l st fun x y r => some ([¬ y = 0], pc + 1, lv, .long (x / y) :: r, z)
    | .lrem => xP2l st fun x y r => some ([¬ y = 0], pc + 1, lv, .long (x - x / y * y) :: r, z)
    | .lcmp => xP2l st fun x y r => some ([], pc + 1, lv, .int (lg_cmp x y) :: r, z)
    | .dup => match st with
      | .int x :: r => some ([], pc + 1, lv, .int x :: .int x :: r, z)
      | .ref x :: r => some ([], pc + 1, lv, .ref x :: .ref x :: r, z)
      | _ => none
    | .dup2 => match st with
      | .int x :: .ref y :: r => some ([], pc + 1, lv, .int x :: .ref y :: .int x :: .ref y :: r, z)
      | _ => none
    | .pop => match st with
      | .int x :: r => some ([], pc + 1, lv, r, z)
      | .ref x :: r => some ([], pc + 1, lv, r, z)
      | _ => none
    | .goto off => xGo pc lv st z off
    | .ifnull off => match st with
      | .ref _ :: r => some ([], pc + 3, lv, r, z)
      | .null :: r => xGo pc lv r z off
      | _ => none
    | .ifnonnull off => match st with
      | .null :: r => some ([], pc + 3, lv, r, z)
      | .ref _ :: r => xGo pc lv r z off
      | _ => none
    | .getfield _ => xP1a st fun q r => xGet sh (pc + 3) lv z a b q r
    | .putfield _ => match st with
      | v :: .ref q :: r => xPut sh (pc + 3) lv z a b t q v r
      | _ => none
    | .getstatic _ => if a < 4 then xPush (pc + 3) lv st z (.ref (1000 + a)) else none
    | .iaload => xPai st fun q i r => xIald sh (pc + 1) lv z q i r
    | .iastore => xPaii st fun q i x r => xIast sh (pc + 1) lv z q i x r
    | .baload => xPai st fun q i r => xBald sh (pc + 1) lv z q i r
    | .bastore => xPaii st fun q i x r => xBast sh (pc + 1) lv z q i x r
    | .aaload => xPai st fun q i r => xAald sh (pc + 1) lv z q i r
    | .arraylength => xP1a st fun q r => xAlen sh (pc + 1) lv z v q r
    | .invokestatic _ => match a with
      | 0 => xP2i st fun x y r => if (r.map Value.category).sum ≤ 8 then some ([], pc + 3, lv, .int (if x < y then y else x) :: r, z) else none
      | 1 => xP2i st fun x y r => if (r.map Value.category).sum ≤ 8 then some ([], pc + 3, lv, .int (if y < x then y else x) :: r, z) else none
      | 2 => xCopy sh (pc + 3) lv z st
      | _ => none
    | _ => none
def xRun (sh : xSh) (nL : Nat) : List xI → Nat → xLv → List Value → xMem → Option xRes
  | [], pc, lv, st, z => some ([], pc, lv, st, z)
  | x :: l, pc, lv, st, z => if x.1 = pc then match xS1 sh nL x lv st z with
    | some (p, pc', lv', st', z') => match xRun sh nL l pc' lv' st' z' with
      | some (p2, fr) => some (p ++ p2, fr)
      | none => none
    | none => none
    else none
/-- what a program looked up of an instruction, checked -/
def xOkI (own : String) (i : Instr) (x : Nat × Nat × Nat × Nat) (v : Int32) (u : Int64) : Bool := match i, x with
  | .iconst k, _ => decide (Int32.ofInt k = v)
  | .bipush k, _ => decide ((Int8.ofInt k).toInt32 = v)
  | .sipush k, _ => decide ((Int16.ofInt k).toInt32 = v)
  | .lconst k, _ => decide (Int64.ofNat (k : Nat) = u)
  | .iinc _ k, _ => decide (Int32.ofInt k = v)
  | .ldc ix, (w, a, b, _) => if a = 0 then decide (lw_tbl[w]? = some (.constant own ix v)) else decide (own = RX3 ∧ b < 12 ∧ lw_tbl[w]? = some (.stringRef own ix (["harm", "laws", "number", "year", "served", "alive", "dares", "harms", "sits", "or", "and", "not"].getD b "")))
  | .ldc_w ix, (w, _, _, _) => decide (lw_tbl[w]? = some (.constant own ix v))
  | .ldc2_w ix, (w, _, _, _) => decide (lw_tbl[w]? = some (.constantLong own ix u))
  | .getfield ix, (w, a, b, _) => match classes[a]? with
    | some (_, T, N) => decide (b < N) && (decide (lw_tbl[w]? = some (.fieldLink own ix (T b).1 (T b).2.1 (T b).2.2.1)) || decide (lw_tbl[w]? = some (.fieldLinkNest own ix (T b).1 (T b).2.1 (T b).2.2.1 "LawsLapse")))
    | none => false
  | .putfield ix, (w, a, b, t) => match classes[a]? with
    | some (_, T, N) => decide (b < N) && (decide (lw_tbl[w]? = some (.fieldLink own ix (T b).1 (T b).2.1 (T b).2.2.1)) || decide (lw_tbl[w]? = some (.fieldLinkNest own ix (T b).1 (T b).2.1 (T b).2.2.1 "LawsLapse"))) && !(T b).2.2.2 && decide (parseFieldDescriptor (T b).2.2.1 = some (match t with | 0 => .int | 1 => .long | 9 => .array .int | _ => .boolean))
    | none => false
  | .getstatic ix, (w, a, _, _) => decide (own = RX5 ∧ a < 3 ∧ lw_tbl[w]? = some (.fieldLink own ix "LawsLapse" (["LOWEST", "HIGHEST", "PARENT", "MOST_TOLD"].getD a "") "[I")) || decide (own = RX4 ∧ a = 3 ∧ lw_tbl[w]? = some (.fieldLinkNest own ix "LawsLapse" (["LOWEST", "HIGHEST", "PARENT", "MOST_TOLD"].getD a "") "[I" "LawsLapse"))
  | .invokestatic ix, (w, a, _, _) => match a with
    | 0 => decide (lw_tbl[w]? = some (.methodLink own ix Lib.Math.max.name))
    | 1 => decide (lw_tbl[w]? = some (.methodLink own ix Lib.Math.min.name))
    | 2 => decide (lw_tbl[w]? = some (.methodLink own ix arraycopyName))
    | _ => true
  | _, _ => true
def xLen (pc : Nat) : Instr → Nat
  | .tableswitch _ _ _ offs => 1 + (3 - pc % 4) + 12 + 4 * offs.size
  | .lookupswitch _ ps => 1 + (3 - pc % 4) + 8 + 8 * ps.size
  | .bipush _ => 2
  | .ldc _ => 2
  | .iload _ => 2
  | .aload _ => 2
  | .lload _ => 2
  | .istore _ => 2
  | .astore _ => 2
  | .lstore _ => 2
  | .newarray _ => 2
  | .sipush _ => 3
  | .ldc_w _ => 3
  | .ldc2_w _ => 3
  | .iinc _ _ => 3
  | .goto _ => 3
  | .ifnull _ => 3
  | .ifnonnull _ => 3
  | .ifCond _ _ => 3
  | .if_icmp _ _ => 3
  | .getfield _ => 3
  | .putfield _ => 3
  | .getstatic _ => 3
  | .invokestatic _ => 3
  | .invokevirtual _ => 3
  | .invokespecial _ => 3
  | .new _ => 3
  | .anewarray _ => 3
  | .multianewarray _ _ => 4
  | _ => 1
/-- an instruction of a method's code, at its place, looked up rightly -/
def xOk (own : String) (cc : ByteArray) (x : xI) : Bool := decide (decode cc x.1 = .ok (x.2.1, xLen x.1 x.2.1)) && xOkI own x.2.1 x.2.2.1 x.2.2.2.1 x.2.2.2.2
theorem xOk_d {own : String} {cc : ByteArray} {x : xI} (h : xOk own cc x = true) : decode cc x.1 = .ok (x.2.1, xLen x.1 x.2.1) := by
  simp only [xOk, Bool.and_eq_true, decide_eq_true_eq] at h
  exact h.1
theorem xOk_i {own : String} {cc : ByteArray} {x : xI} (h : xOk own cc x = true) : xOkI own x.2.1 x.2.2.1 x.2.2.2.1 x.2.2.2.2 = true := by
  simp only [xOk, Bool.and_eq_true, decide_eq_true_eq] at h
  exact h.2
