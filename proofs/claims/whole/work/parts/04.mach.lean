-- THE INTERPRETER: cells are numbered from 0 on (as they are made), a reference is a cell's number
def cv (b0 : Nat) : Value → Value
  | .ref k => .ref (b0 + k)
  | .int x => .int x
  | .long x => .long x
  | .float x => .float x
  | .double x => .double x
  | .null => .null
  | .retAddr x => .retAddr x
def cE (b0 : Nat) (cA : Nat → ClassId) : va_E → va_E
  | .inl (t, n, .inl f) => .inl (cA t, n, .inl f)
  | .inl (t, n, .inr (.inl f)) => .inl (cA t, n, .inr (.inl f))
  | .inl (t, n, .inr (.inr (.inl f))) => .inl (cA t, n, .inr (.inr (.inl f)))
  | .inl (t, n, .inr (.inr (.inr (.inl f)))) => .inl (cA t, n, .inr (.inr (.inr (.inl f))))
  | .inl (t, n, .inr (.inr (.inr (.inr f)))) => .inl (cA t, n, .inr (.inr (.inr (.inr (fun j => (f j).map (b0 + ·))))))
  | .inr (ci, fs) => .inr (ci, fs.map (cv b0))
def wsOf (b0 : Nat) (cA : Nat → ClassId) (M : List va_E) : va_W := M.mapIdx (fun k e => (b0 + k, cE b0 cA e))
/-- the arrays' types by their numbers -/
def tyN : List FieldType := [.int, .boolean, .char, .object RX5, .object RX2]
def tysC (cA : Nat → ClassId) : List (ClassId × FieldType) := [(cA 0, .int), (cA 1, .boolean), (cA 2, .char), (cA 3, .object RX5), (cA 4, .object RX2)]
def szE : va_E → Nat
  | .inl (_, n, _) => n
  | .inr (_, fs) => fs.length
def szM (M : List va_E) : Nat := (M.map szE).sum
-- constants and loads
def isI : Option Value → Option Value
  | some (.int x) => some (.int x)
  | _ => none
def isL : Option Value → Option Value
  | some (.long x) => some (.long x)
  | _ => none
def isA : Option Value → Option Value
  | some (.ref x) => some (.ref x)
  | _ => none
def pushV (mi : Nat) (L : List Value) (i : Instr) : Option (Value × Nat) := match i with
  | .iconst n => some (.int (Int32.ofInt n), 1)
  | .bipush n => some (.int (Int8.ofInt n).toInt32, 2)
  | .sipush n => some (.int (Int16.ofInt n).toInt32, 3)
  | .ldc x => (ktab.lookup (mo mi, x)).map (fun v => (.int v, 2))
  | .ldc_w x => (ktab.lookup (mo mi, x)).map (fun v => (.int v, 3))
  | .ldc2_w x => (ktabL.lookup (mo mi, x)).map (fun v => (.long v, 3))
  | .iload k => (isI L[k]?).map (fun v => (v, 2))
  | .iload_n k => (isI L[k.val]?).map (fun v => (v, 1))
  | .lload_n k => (isL L[k.val]?).map (fun v => (v, 1))
  | .aload k => (isA L[k]?).map (fun v => (v, 2))
  | .aload_n k => (isA L[k.val]?).map (fun v => (v, 1))
  | _ => none
-- arithmetic on the stack, one byte each
def ii (st : List Value) (f : Int32 → Int32 → Option Int32) : Option (List Value) := match st with
  | .int y :: .int x :: r => (f x y).map (fun z => .int z :: r)
  | _ => none
def jj (st : List Value) (f : Int64 → Int64 → Option Int64) : Option (List Value) := match st with
  | .long y :: .long x :: r => (f x y).map (fun z => .long z :: r)
  | _ => none
def arith (i : Instr) (st : List Value) : Option (List Value) := match i with
  | .iadd => ii st (fun x y => some (x + y))
  | .isub => ii st (fun x y => some (x - y))
  | .imul => ii st (fun x y => some (x * y))
  | .iand => ii st (fun x y => some (x &&& y))
  | .ior => ii st (fun x y => some (x ||| y))
  | .ixor => ii st (fun x y => some (x ^^^ y))
  | .ishl => ii st (fun x y => some (x <<< (y &&& 31)))
  | .ishr => ii st (fun x y => some (x >>> (y &&& 31)))
  | .iushr => ii st (fun x y => some (x.toUInt32 >>> (y.toUInt32 &&& Int32.toUInt32 31)).toInt32)
  | .idiv => ii st (fun x y => if y = 0 then none else some (x / y))
  | .irem => ii st (fun x y => if y = 0 then none else some (x - x / y * y))
  | .ladd => jj st (fun x y => some (x + y))
  | .lmul => jj st (fun x y => some (x * y))
  | .land => jj st (fun x y => some (x &&& y))
  | .ldiv => jj st (fun x y => if y = 0 then none else some (x / y))
  | .lrem => jj st (fun x y => if y = 0 then none else some (x - x / y * y))
  | .i2l => (match st with
    | .int x :: r => some (.long x.toInt64 :: r)
    | _ => none)
  | .l2i => (match st with
    | .long x :: r => some (.int x.toInt32 :: r)
    | _ => none)
  | .i2c => (match st with
    | .int x :: r => some (.int (x.toUInt32 % 65536).toInt32 :: r)
    | _ => none)
  | .dup => (match st with
    | v :: r => if v.category = 1 then some (v :: v :: r) else none
    | _ => none)
  | .dup2 => (match st with
    | v :: w :: r => if v.category = 1 ∧ w.category = 1 then some (v :: w :: v :: w :: r) else none
    | _ => none)
  | _ => none
-- stores: the new locals, the stack, the length
def st1 (mi k : Nat) (L : List Value) (v : Value) : Option (List Value) := if k < mL mi ∧ k ≠ ll mi + 1 then some (L.set k v) else none
def stor (mi : Nat) (L : List Value) (i : Instr) (st : List Value) : Option (List Value × List Value × Nat) := match i with
  | .istore k => (match st with
    | .int x :: r => (st1 mi k L (.int x)).map (fun L' => (L', r, 2))
    | _ => none)
  | .istore_n k => (match st with
    | .int x :: r => (st1 mi k.val L (.int x)).map (fun L' => (L', r, 1))
    | _ => none)
  | .astore_n k => (match st with
    | .ref x :: r => (st1 mi k.val L (.ref x)).map (fun L' => (L', r, 1))
    | _ => none)
  | .lstore_n k => (match st with
    | .long x :: r => if k.val + 1 < mL mi ∧ k.val = ll mi ∧ k.val ≠ ll mi + 1 then some ((L.set k.val (.long x)).set (k.val + 1) .null, r, 1) else none
    | _ => none)
  | .iinc k n => (match L[k]? with
    | some (.int x) => (st1 mi k L (.int (x + Int32.ofInt n))).map (fun L' => (L', st, 3))
    | _ => none)
  | _ => none
-- branches
def jmp (pc : Nat) (off : Int) : Option Nat := if 0 ≤ (pc : Int) + off then some ((pc : Int) + off).toNat else none
def bra (pc : Nat) (off : Int) (c : Prop) (d : Decidable c) (r : List Value) : Option (Nat × List Value) := (jmp pc off).map (fun t => (@ite _ c d t (pc + 3), r))
def bran (pc : Nat) (i : Instr) (len : Nat) (st : List Value) : Option (Nat × List Value) := match i with
  | .goto off => if len = 3 then (jmp pc off).map (fun t => (t, st)) else none
  | .ifCond c off => if len = 3 then (match st with
    | .int x :: r => (match c with
      | .eq => bra pc off (x = 0) inferInstance r
      | .ne => bra pc off (¬ x = 0) inferInstance r
      | .lt => bra pc off (x < 0) inferInstance r
      | .ge => bra pc off (0 ≤ x) inferInstance r
      | .gt => bra pc off (0 < x) inferInstance r
      | .le => bra pc off (x ≤ 0) inferInstance r)
    | _ => none) else none
  | .if_icmp c off => if len = 3 then (match st with
    | .int y :: .int x :: r => (match c with
      | .eq => bra pc off (x = y) inferInstance r
      | .ne => bra pc off (¬ x = y) inferInstance r
      | .lt => bra pc off (x < y) inferInstance r
      | .ge => bra pc off (y ≤ x) inferInstance r
      | .gt => bra pc off (y < x) inferInstance r
      | .le => bra pc off (x ≤ y) inferInstance r)
    | _ => none) else none
  | .tableswitch dflt lo hi offs => (match st with
    | .int x :: r => if x.toInt < lo ∨ hi < x.toInt then (jmp pc dflt).map (fun t => (t, r)) else (match offs[(x.toInt - lo).toNat]? with
      | some off => (jmp pc off).map (fun t => (t, r))
      | none => none)
    | _ => none)
  | _ => none
/-- a step that touches neither the cells nor the frames: the place, the locals, the stack behind it -/
def stepP (mi pc : Nat) (L st : List Value) (i : Instr) (len : Nat) : Option (Nat × List Value × List Value) :=
  match pushV mi L i with
  | some (v, n) => if n = len then some (pc + n, L, v :: st) else none
  | none => match arith i st with
    | some st' => if len = 1 then some (pc + 1, L, st') else none
    | none => match stor mi L i st with
      | some (L', st', n) => if n = len then some (pc + n, L', st') else none
      | none => match bran pc i len st with
        | some (pc', st') => some (pc', L, st')
        | none => none
-- steps that read and write cells
def gF (M : List va_E) (a ci k : Nat) : Option Value := match M[a]? with
  | some (.inr (c, fs)) => if c = ci then fs[k]? else none
  | _ => none
def clT (ci : Nat) : u_T := (vwCl.getD ci (RX0, TX0, 3)).2.1
def clN (ci : Nat) : Nat := (vwCl.getD ci (RX0, TX0, 3)).2.2
def clR (ci : Nat) : String := (vwCl.getD ci (RX0, TX0, 3)).1
def fTy (ci k : Nat) : FieldType := (parseFieldDescriptor (clT ci k).2.2.1).getD .int
def pF (mi : Nat) (M : List va_E) (a ci k : Nat) (v : Value) : Option (List va_E) := match M[a]? with
  | some (.inr (c, fs)) => if c = ci ∧ k < fs.length ∧ (fits (fTy ci k) v = true ∧ narrow (fTy ci k) v = v) ∧ ((clT ci k).2.2.2 = false ∨ ((my mi).name = "<init>" ∧ (clT ci k).1 = cn (mo mi))) then some (M.set a (.inr (c, fs.set k v))) else none
  | _ => none
def gA (t : Nat) (M : List va_E) (a : Nat) (i : Int32) : Option Int32 := match M[a]? with
  | some (.inl (t', n, .inl f)) => if t' = t ∧ ¬ (i < 0 ∨ n ≤ i.toNatClampNeg) then some (f i.toNatClampNeg) else none
  | _ => none
def pA (t : Nat) (M : List va_E) (a : Nat) (i x : Int32) : Option (List va_E) := match M[a]? with
  | some (.inl (t', n, .inl f)) => if t' = t ∧ ¬ (i < 0 ∨ n ≤ i.toNatClampNeg) then some (M.set a (.inl (t', n, .inl (upd f i.toNatClampNeg x)))) else none
  | _ => none
def gR (M : List va_E) (a : Nat) (i : Int32) : Option Nat := match M[a]? with
  | some (.inl (t, n, .inr (.inr (.inr (.inr f))))) => if (t = 3 ∨ t = 4) ∧ ¬ (i < 0 ∨ n ≤ i.toNatClampNeg) then f i.toNatClampNeg else none
  | _ => none
def pR (M : List va_E) (a : Nat) (i : Int32) (v : Nat) : Option (List va_E) := match M[a]? with
  | some (.inl (t, n, .inr (.inr (.inr (.inr f))))) => if ¬ (i < 0 ∨ n ≤ i.toNatClampNeg) then (match M[v]? with
    | some (.inr (c, _)) => if (t = 3 ∧ c = 5) ∨ (t = 4 ∧ c = 2) then some (M.set a (.inl (t, n, .inr (.inr (.inr (.inr (va_up f i.toNatClampNeg (some v)))))))) else none
    | _ => none) else none
  | _ => none
def lenA (M : List va_E) (a : Nat) : Option Int32 := match M[a]? with
  | some (.inl (t, n, _)) => if t < 5 then some (Int32.ofNat n) else none
  | _ => none
def cpA (M : List va_E) (a0 a : Nat) (sp dp n : Int32) : Option (List va_E) := match M[a0]? with
  | some (.inl (t0, n0, .inl f)) => (match M[a]? with
    | some (.inl (t1, n1, .inl g)) => if t0 = t1 ∧ t1 < 3 ∧ (¬ sp < 0 ∧ ¬ dp < 0 ∧ ¬ n < 0) ∧ sp.toNatClampNeg + n.toNatClampNeg ≤ n0 ∧ dp.toNatClampNeg + n.toNatClampNeg ≤ n1 ∧ (∀ i, i < n.toNatClampNeg → fits (tyN.getD t1 .int) (.int (f (sp.toNatClampNeg + i))) = true) then some (M.set a (.inl (t1, n1, .inl (va_cpy f g sp.toNatClampNeg dp.toNatClampNeg n.toNatClampNeg)))) else none
    | _ => none)
  | _ => none
def cats (r : List Value) : Nat := (r.map fun v => v.category).sum
/-- the length, the stack, the cells behind it -/
def stepM (mi : Nat) (i : Instr) (st : List Value) (M : List va_E) : Option (Nat × List Value × List va_E) := match i with
  | .getfield x => (match ftab.lookup (mo mi, x), st with
    | some (ci, k), .ref a :: r => (gF M a ci k).map (fun v => (3, v :: r, M))
    | _, _ => none)
  | .putfield x => (match ftab.lookup (mo mi, x), st with
    | some (ci, k), v :: .ref a :: r => (pF mi M a ci k v).map (fun M' => (3, r, M'))
    | _, _ => none)
  | .iaload => (match st with
    | .int j :: .ref a :: r => (gA 0 M a j).map (fun x => (1, .int x :: r, M))
    | _ => none)
  | .baload => (match st with
    | .int j :: .ref a :: r => (gA 1 M a j).map (fun x => (1, .int x :: r, M))
    | _ => none)
  | .caload => (match st with
    | .int j :: .ref a :: r => (gA 2 M a j).map (fun x => (1, .int x :: r, M))
    | _ => none)
  | .iastore => (match st with
    | .int x :: .int j :: .ref a :: r => (pA 0 M a j x).map (fun M' => (1, r, M'))
    | _ => none)
  | .bastore => (match st with
    | .int x :: .int j :: .ref a :: r => (pA 1 M a j (vp_nar .boolean x)).map (fun M' => (1, r, M'))
    | _ => none)
  | .castore => (match st with
    | .int x :: .int j :: .ref a :: r => (pA 2 M a j (vp_nar .char x)).map (fun M' => (1, r, M'))
    | _ => none)
  | .aaload => (match st with
    | .int j :: .ref a :: r => (gR M a j).map (fun x => (1, .ref x :: r, M))
    | _ => none)
  | .aastore => (match st with
    | .ref v :: .int j :: .ref a :: r => (pR M a j v).map (fun M' => (1, r, M'))
    | _ => none)
  | .arraylength => (match st with
    | .ref a :: r => (lenA M a).map (fun n => (1, .int n :: r, M))
    | _ => none)
  | .invokespecial x => (match ctab.lookup (mo mi, x), st with
    | some (5, _), .ref _ :: r => if 1 ≤ rf mi ∧ cats r + 12 ≤ rl mi then some (3, r, M) else none
    | _, _ => none)
  | .invokestatic x => (match ctab.lookup (mo mi, x), st with
    | some (6, _), .int n :: .int dp :: .ref a :: .int sp :: .ref a0 :: r => if 1 ≤ rf mi ∧ cats r + 18 ≤ rl mi then (cpA M a0 a sp dp n).map (fun M' => (3, r, M')) else none
    | some (7, _), .int y :: .int z :: r => if 1 ≤ rf mi ∧ cats r + 13 ≤ rl mi then some (3, .int (if y < z then y else z) :: r, M) else none
    | some (8, _), .int y :: .int z :: r => if 1 ≤ rf mi ∧ cats r + 13 ≤ rl mi then some (3, .int (if z < y then y else z) :: r, M) else none
    | _, _ => none)
  | _ => none
-- steps that make a cell: the length, the stack below the new reference, the cell
def dfl (ci : Nat) : List Value := (List.range (clN ci)).map (fun j => defaultValue (fTy ci j))
def stepN (mi : Nat) (i : Instr) (st : List Value) : Option (Nat × List Value × va_E) := match i with
  | .new x => (ntab.lookup (mo mi, x)).map (fun ci => (3, st, .inr (ci, dfl ci)))
  | .newarray .int => (match st with
    | .int n :: r => if ¬ n < 0 ∧ n.toNatClampNeg ≤ 10000 then some (2, r, .inl (0, n.toNatClampNeg, .inl (fun _ => 0))) else none
    | _ => none)
  | .newarray .boolean => (match st with
    | .int n :: r => if ¬ n < 0 ∧ n.toNatClampNeg ≤ 10000 then some (2, r, .inl (1, n.toNatClampNeg, .inl (fun _ => 0))) else none
    | _ => none)
  | .newarray .char => (match st with
    | .int n :: r => if ¬ n < 0 ∧ n.toNatClampNeg ≤ 10000 then some (2, r, .inl (2, n.toNatClampNeg, .inl (fun _ => 0))) else none
    | _ => none)
  | .anewarray x => (match ptab.lookup (mo mi, x), st with
    | some t, .int n :: r => if ¬ n < 0 ∧ n.toNatClampNeg ≤ 10000 then some (3, r, .inl (t, n.toNatClampNeg, .inr (.inr (.inr (.inr (fun _ => none)))))) else none
    | _, _ => none)
  | _ => none
-- calls: the callee, what it is given (the receiver first), the stack below
def isO (M : List va_E) (a ci : Nat) : Bool := match M[a]? with
  | some (.inr (c, _)) => c == ci
  | _ => false
def okC (mi y : Nat) (r : List Value) (as : List Value) : Bool := decide (rf y + 1 ≤ rf mi) && decide (19 + mL y + rl y ≤ rl mi) && decide (cats r ≤ 8) && as.all (fun v => v.category == 1) && decide (as.length ≤ mL y)
def stepC (mi : Nat) (i : Instr) (st : List Value) (M : List va_E) : Option (Nat × List Value × List Value) := match i with
  | .invokevirtual x => (match ctab.lookup (mo mi, x) with
    | some (0, y) => (match st.drop (mn y) with
      | .ref a :: r => if isO M a (mo y) = true ∧ okC mi y r (.ref a :: (st.take (mn y)).reverse) = true then some (y, .ref a :: (st.take (mn y)).reverse, r) else none
      | _ => none)
    | _ => none)
  | .invokespecial x => (match ctab.lookup (mo mi, x) with
    | some (k, y) => if k = 1 ∨ k = 3 then (match st.drop (mn y) with
      | .ref a :: r => if okC mi y r (.ref a :: (st.take (mn y)).reverse) = true then some (y, .ref a :: (st.take (mn y)).reverse, r) else none
      | _ => none) else none
    | _ => none)
  | .invokestatic x => (match ctab.lookup (mo mi, x) with
    | some (k, y) => if (k = 2 ∨ k = 4) ∧ mn y ≤ st.length then (if okC mi y (st.drop (mn y)) (st.take (mn y)).reverse = true then some (y, (st.take (mn y)).reverse, st.drop (mn y)) else none) else none
    | _ => none)
  | _ => none
/-- the answer -/
def stepR (mi : Nat) (i : Instr) (st : List Value) : Option (Option Value) := match i with
  | .return_ => if mr mi = none then (if st = [] then some none else none) else none
  | .ireturn => (match st, mr mi with
    | [.int v], some .int => some (some (.int v))
    | [.int v], some .boolean => if narrow .boolean (.int v) = .int v then some (some (.int v)) else none
    | _, _ => none)
  | _ => none
def entL (as : List Value) (n : Nat) : List Value := as ++ List.replicate (n - as.length) .null
/-- n steps of method mi at pc -/
def ev : Nat → Nat → Nat → List Value → List Value → List va_E → Option (List va_E × Option Value)
  | 0, _, _, _, _, _ => none
  | n + 1, mi, pc, L, st, M => match decode (mb mi) pc with
    | .ok (i, len) => match stepP mi pc L st i len with
      | some (pc', L', st') => ev n mi pc' L' st' M
      | none => match stepM mi i st M with
        | some (k, st', M') => if k = len then ev n mi (pc + k) L st' M' else none
        | none => match stepN mi i st with
          | some (k, st', c) => if k = len then ev n mi (pc + k) L (.ref M.length :: st') (M ++ [c]) else none
          | none => match stepC mi i st M with
            | some (y, as, r) => if len = 3 then (match ev n y 0 (entL as (mL y)) [] M with
              | some (M', v) => ev n mi (pc + 3) L (v.toList ++ r) M'
              | none => none) else none
            | none => match stepR mi i st with
              | some v => if len = 1 then some (M, v) else none
              | none => none
    | .error _ => none
