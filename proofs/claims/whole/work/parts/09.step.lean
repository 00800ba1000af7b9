/-! THE SMALL MACHINE: the program's rows run over a plain memory. A memory: the next address, the slots made so far, and what lies where. -/
abbrev JE : Type := (Nat × Nat × (Nat → Value)) ⊕ (Nat × List Value)
abbrev JM : Type := Nat × Nat × (Nat → Option JE)
abbrev JF : Type := Nat × List (Option Value) × List Value × JM
abbrev JR : Type := Option Value ⊕ Nat
abbrev JC : Type := Nat × List Value × JF
abbrev JS : Type := JF ⊕ ((JR × JM) ⊕ JC)
abbrev JX : Type := Nat × Nat × (Nat → Int32)
/-- memory -/
def mset (M : JM) (a : Nat) (e : JE) : JM := (M.1, M.2.1, va_up M.2.2 a (some e))
def mnew (M : JM) (n : Nat) (e : JE) : JM := (M.1 + 1, M.2.1 + n, va_up M.2.2 M.1 (some e))
def mthr (M : JM) : JM := (M.1 + 1, M.2.1 + 6, M.2.2)
/-- loads and stores of locals, by kind: 0 int, 1 long, 2 float, 3 double, 4 reference -/
def ldK (i : Instr) : Option (Nat × Nat) := match i with
  | .iload i => some (0, i) | .iload_n i => some (0, i) | .lload i => some (1, i) | .lload_n i => some (1, i)
  | .fload i => some (2, i) | .dload i => some (3, i) | .aload i => some (4, i) | .aload_n i => some (4, i) | _ => none
def kOk (k : Nat) (v : Value) : Bool := match v with
  | .int _ => k == 0 | .long _ => k == 1 | .float _ => k == 2 | .double _ => k == 3 | .ref _ => k == 4 | .null => k == 4 | _ => false
def wide (o : Option (Option Value)) : Bool := match o with
  | some (some (.long _)) => true | some (some (.double _)) => true | _ => false
def stL (L : List (Option Value)) (i : Nat) (v : Value) : Option (List (Option Value)) :=
  if v.category = 2 then
    if i + 1 < L.length ∧ (i = 0 ∨ wide L[i - 1]? = false) then some ((L.set i (some v)).set (i + 1) none) else none
  else if i < L.length ∧ (i = 0 ∨ wide L[i - 1]? = false) then some (L.set i (some v)) else none
/-- constants -/
def cst (i : Instr) (r : List Nat) : Option Value := match i with
  | .iconst n => some (.int (Int32.ofInt n)) | .bipush n => some (.int (Int8.ofInt n).toInt32) | .sipush n => some (.int (Int16.ofInt n).toInt32)
  | .lconst n => some (.long (Int64.ofNat n)) | .fconst n => if n = 0 then some (.float FP.fconst0) else none | .dconst n => if n = 0 then some (.double FP.dconst0) else none
  | .aconst_null => some .null | .ldc _ => some (.int (Int32.ofNat (r.getD 0 0))) | .ldc_w _ => some (.int (Int32.ofNat (r.getD 0 0))) | _ => none
/-- no NaN -/
def nn32 (r : UInt32) : Bool := decide (r &&& 0x7fffffff ≤ 0x7f800000)
def nn64 (r : UInt64) : Bool := decide (r &&& 0x7fffffffffffffff ≤ 0x7ff0000000000000)
/-- what works on the stack alone -/
def sop (i : Instr) (st : List Value) : Option (List Value) := match i, st with
  | .iadd, .int y :: .int x :: st => some (.int (x + y) :: st)
  | .isub, .int y :: .int x :: st => some (.int (x - y) :: st)
  | .imul, .int y :: .int x :: st => some (.int (x * y) :: st)
  | .iand, .int y :: .int x :: st => some (.int (x &&& y) :: st)
  | .ior, .int y :: .int x :: st => some (.int (x ||| y) :: st)
  | .ishl, .int y :: .int x :: st => some (.int (x <<< (y &&& 31)) :: st)
  | .ishr, .int y :: .int x :: st => some (.int (x >>> (y &&& 31)) :: st)
  | .idiv, .int y :: .int x :: st => if y = 0 then none else some (.int (x / y) :: st)
  | .irem, .int y :: .int x :: st => if y = 0 then none else some (.int (x - x / y * y) :: st)
  | .ineg, .int x :: st => some (.int (-x) :: st)
  | .land, .long y :: .long x :: st => some (.long (x &&& y) :: st)
  | .lor, .long y :: .long x :: st => some (.long (x ||| y) :: st)
  | .lshl, .int y :: .long x :: st => some (.long (x <<< (y.toInt64 &&& 63)) :: st)
  | .lcmp, .long y :: .long x :: st => some (.int (lg_cmp x y) :: st)
  | .i2l, .int x :: st => some (.long x.toInt64 :: st)
  | .i2c, .int x :: st => some (.int (x.toUInt32 % 65536).toInt32 :: st)
  | .i2f, .int x :: st => some (.float (FP.i2f x) :: st)
  | .i2d, .int x :: st => some (.double (FP.i2d x) :: st)
  | .f2d, .float x :: st => if nn64 (FP.f2d x) = true then some (.double (FP.f2d x) :: st) else none
  | .fdiv, .float y :: .float x :: st => if nn32 (FP.fdiv x y) = true then some (.float (FP.fdiv x y) :: st) else none
  | .ddiv, .double y :: .double x :: st => if nn64 (FP.ddiv x y) = true then some (.double (FP.ddiv x y) :: st) else none
  | .fcmp op, .float y :: .float x :: st => some (.int (Op.cmpValue (FP.fcmp x y) op) :: st)
  | .dcmp op, .double y :: .double x :: st => some (.int (Op.cmpValue (FP.dcmp x y) op) :: st)
  | .dup, v :: st => if v.category = 1 then some (v :: v :: st) else none
  | .pop, v :: st => if v.category = 1 then some st else none
  | .dup2, v :: w :: st => if v.category = 1 ∧ w.category = 1 then some (v :: w :: v :: w :: st) else none
  | _, _ => none
/-- branches: which way, and the stack behind -/
def bop (i : Instr) (st : List Value) : Option (Bool × List Value) := match i, st with
  | .ifCond .eq _, .int x :: st => some (decide (x = 0), st)
  | .ifCond .ne _, .int x :: st => some (decide (¬ x = 0), st)
  | .ifCond .lt _, .int x :: st => some (decide (x < 0), st)
  | .ifCond .ge _, .int x :: st => some (decide (0 ≤ x), st)
  | .ifCond .gt _, .int x :: st => some (decide (0 < x), st)
  | .ifCond .le _, .int x :: st => some (decide (x ≤ 0), st)
  | .if_icmp .eq _, .int y :: .int x :: st => some (decide (x = y), st)
  | .if_icmp .ne _, .int y :: .int x :: st => some (decide (¬ x = y), st)
  | .if_icmp .lt _, .int y :: .int x :: st => some (decide (x < y), st)
  | .if_icmp .ge _, .int y :: .int x :: st => some (decide (y ≤ x), st)
  | .if_icmp .gt _, .int y :: .int x :: st => some (decide (y < x), st)
  | .if_icmp .le _, .int y :: .int x :: st => some (decide (x ≤ y), st)
  | .ifnull _, .null :: st => some (true, st)
  | .ifnull _, .ref _ :: st => some (false, st)
  | .ifnonnull _, .null :: st => some (false, st)
  | .ifnonnull _, .ref _ :: st => some (true, st)
  | .goto _, st => some (true, st)
  | _, _ => none
/-- array loads and stores: the kind of array -/
def aldT (i : Instr) (t : Nat) : Bool := match i with
  | .iaload => t == 0 | .laload => t == 1 | .daload => t == 2 | .baload => t == 3 | .caload => t == 4 | .aaload => t == 5 || t == 6 | _ => false
/-- what an array of kind t keeps of a value that the instruction stores; refC: the class of the object that a reference names -/
def astV (i : Instr) (t : Nat) (v : Value) (refC : Nat → Option Nat) : Option Value := match i, v with
  | .iastore, .int x => if t = 0 then some (.int x) else none
  | .lastore, .long x => if t = 1 then some (.long x) else none
  | .dastore, .double x => if t = 2 then some (.double x) else none
  | .bastore, .int x => if t = 3 then some (narrow .boolean (.int x)) else none
  | .castore, .int x => if t = 4 then some (narrow .char (.int x)) else none
  | .aastore, .null => if t = 5 ∨ t = 6 then some .null else none
  | .aastore, .ref a => if (t = 5 ∧ refC a = some 4) ∨ (t = 6 ∧ refC a = some 1) then some (.ref a) else none
  | _, _ => none
def isAld (i : Instr) : Bool := match i with
  | .iaload => true | .laload => true | .daload => true | .baload => true | .caload => true | .aaload => true | _ => false
def isAst (i : Instr) : Bool := match i with
  | .iastore => true | .lastore => true | .dastore => true | .bastore => true | .castore => true | .aastore => true | _ => false
def mcl (M : JM) (a : Nat) : Option Nat := match M.2.2 a with
  | some (.inr (ci, _)) => some ci
  | _ => none
/-- what a field of the type may hold -/
def fOk (ty : FieldType) (v : Value) : Bool := match ty, v with
  | .int, .int _ => true | .boolean, .int x => x == 0 || x == 1 | .long, .long _ => true
  | .object _, .ref _ => true | .object _, .null => true | .array _, .ref _ => true | .array _, .null => true | _, _ => false
def rOk (i : Instr) (ty : Option FieldType) (v : Value) : Bool := match i, ty, v with
  | .ireturn, some .int, .int _ => true
  | .ireturn, some .boolean, .int x => x == 0 || x == 1
  | .ireturn, some .char, .int x => decide (0 ≤ x) && decide (x ≤ 65535)
  | .freturn, some .float, .float _ => true
  | .dreturn, some .double, .double _ => true
  | .areturn, some (.object _), .ref _ => true
  | .areturn, some (.object _), .null => true
  | _, _, _ => false
def arD (t : Nat) : Value := match t with
  | 1 => .long 0 | 2 => .double 0 | 5 => .null | 6 => .null | _ => .int 0
def swT (tg : List Nat) (lo hi : Int) (x : Int32) : Option Nat :=
  if x.toInt < lo ∨ hi < x.toInt then tg[0]? else tg[(x.toInt - lo).toNat + 1]?
def swL (ps : List (Int × Int)) (tg : List Nat) (d : Option Nat) (x : Int32) : Option Nat := match ps, tg with
  | [], _ => d
  | q :: ps, t :: tg => if x.toInt = q.1 then some t else swL ps tg d x
  | _ :: _, [] => none
def stw (st : List Value) : Nat := (st.map fun v => v.category).sum
def nx (F : JF) : Option JS := some (.inl F)
/-- the script's row -/
def scrOp (X : JX) (i : Instr) (st : List Value) : Option (List Value) := match i, st with
  | .iaload, .int k :: .ref a :: st => if a = X.1 ∧ ¬ (k < 0 ∨ X.2.1 ≤ k.toNatClampNeg) then some (.int (X.2.2 k.toNatClampNeg) :: st) else none
  | .arraylength, .ref a :: st => if a = X.1 then some (.int (Int32.ofNat X.2.1) :: st) else none
  | _, _ => none
def mathOp (k : Nat) (st : List Value) : Option (List Value) := match st with
  | .int y :: .int x :: st => if k = 1000 then some (.int (if y < x then y else x) :: st) else if k = 1001 then some (.int (if x < y then y else x) :: st) else none
  | _ => none
def exO (M : JM) (pc ln : Nat) (r : List Nat) (L : List (Option Value)) (st : List Value) (i : Instr) : Option JS := match i, st with
  | .getfield _, .ref a :: st => match M.2.2 a with
    | some (.inr (c, fs)) => if c = r.getD 0 0 then (match fs[r.getD 1 0]? with | some v => nx (pc + ln, L, v :: st, M) | none => none) else none
    | _ => none
  | .putfield _, v :: .ref a :: st => match M.2.2 a with
    | some (.inr (c, fs)) => if c = r.getD 0 0 ∧ r.getD 1 0 < fs.length ∧ fOk (clTy c (r.getD 1 0)) v = true then nx (pc + ln, L, st, mset M a (.inr (c, fs.set (r.getD 1 0) v))) else none
    | _ => none
  | .arraylength, .ref a :: st => match M.2.2 a with
    | some (.inl (_, n, _)) => nx (pc + ln, L, .int (Int32.ofNat n) :: st, M)
    | _ => none
  | .new _, st => if 100 ≤ r.getD 0 0 then (if stw st ≤ 8 then some (.inr (.inl (.inr (r.getD 0 0 - 100), mthr M))) else none) else nx (pc + ln, L, .ref M.1 :: st, mnew M (clD (r.getD 0 0)).length (.inr (r.getD 0 0, clD (r.getD 0 0))))
  | .newarray _, .int n :: st => if ¬ n < 0 ∧ n.toNatClampNeg ≤ 10000 then nx (pc + ln, L, .ref M.1 :: st, mnew M n.toNatClampNeg (.inl (r.getD 0 0, n.toNatClampNeg, fun _ => arD (r.getD 0 0)))) else none
  | .anewarray _, .int n :: st => if ¬ n < 0 ∧ n.toNatClampNeg ≤ 10000 then nx (pc + ln, L, .ref M.1 :: st, mnew M n.toNatClampNeg (.inl (r.getD 0 0, n.toNatClampNeg, fun _ => .null))) else none
  | .tableswitch _ lo hi _, .int x :: st => match swT r lo hi x with
    | some t => nx (t, L, st, M)
    | none => none
  | .lookupswitch _ ps, .int x :: st => match swL ps.toList (r.drop 1) r[0]? x with
    | some t => nx (t, L, st, M)
    | none => none
  | .iinc i n, st => match L[i]? with
    | some (some (.int x)) => if i = 0 ∨ wide L[i - 1]? = false then nx (pc + ln, L.set i (some (.int (x + Int32.ofInt n))), st, M) else none
    | _ => none
  | _, _ => none
/-- calls: what is called with what, and the frame behind -/
def exC (M : JM) (pc ln : Nat) (r : List Nat) (L : List (Option Value)) (st : List Value) (i : Instr) : Option JS := match i with
  | .invokestatic _ => if 1000 ≤ r.getD 0 0 then (match mathOp (r.getD 0 0) st with | some st => if stw st ≤ 8 then nx (pc + ln, L, st, M) else none | none => none)
      else if r.getD 1 0 ≤ st.length ∧ stw (st.drop (r.getD 1 0)) ≤ 8 then some (.inr (.inr (r.getD 0 0, (st.take (r.getD 1 0)).reverse, (pc + ln, L, st.drop (r.getD 1 0), M)))) else none
  | .invokevirtual _ => match st.drop (r.getD 1 0) with
    | .ref b :: rest => if mcl M b = some (r.getD 7 99) ∧ r.getD 1 0 ≤ st.length ∧ stw rest ≤ 8 then some (.inr (.inr (r.getD 0 0, .ref b :: (st.take (r.getD 1 0)).reverse, (pc + ln, L, rest, M)))) else none
    | _ => none
  | .invokespecial _ => match st.drop (r.getD 1 0) with
    | .ref b :: rest => if stw rest ≤ 8 ∧ r.getD 1 0 ≤ st.length then if r.getD 0 0 = 2000 then (if r.getD 1 0 = 0 then nx (pc + ln, L, rest, M) else none) else some (.inr (.inr (r.getD 0 0, .ref b :: (st.take (r.getD 1 0)).reverse, (pc + ln, L, rest, M)))) else none
    | _ => none
  | _ => none
def step (X : JX) (mid : Nat) (F : JF) : Option JS := match F with
  | (pc, L, st, M) => match cd mid pc with
    | none => none
    | some (i, ln, r) =>
      match ldK i with
      | some (k, n) => (match L[n]? with
        | some (some v) => if kOk k v = true then nx (pc + ln, L, v :: st, M) else none
        | _ => none)
      | none => match stK i with
      | some (k, n) => (match st with
        | v :: st => if kOk k v = true then (match stL L n v with | some L => nx (pc + ln, L, st, M) | none => none) else none
        | _ => none)
      | none => match cst i r with
      | some v => nx (pc + ln, L, v :: st, M)
      | none => if r = [1] then (match scrOp X i st with | some st => nx (pc + ln, L, st, M) | none => none) else
      match sop i st with
      | some st => nx (pc + ln, L, st, M)
      | none => match bop i st with
      | some (b, st) => nx (if b = true then r.getD 0 0 else pc + ln, L, st, M)
      | none => if isAld i = true then (match st with
          | .int k :: .ref a :: st => (match M.2.2 a with
            | some (.inl (t, n, g)) => if aldT i t = true ∧ ¬ (k < 0 ∨ n ≤ k.toNatClampNeg) then nx (pc + ln, L, g k.toNatClampNeg :: st, M) else none
            | _ => none)
          | _ => none)
      else if isAst i = true then (match st with
          | v :: .int k :: .ref a :: st => (match M.2.2 a with
            | some (.inl (t, n, g)) => (match astV i t v (mcl M) with
              | some w => if ¬ (k < 0 ∨ n ≤ k.toNatClampNeg) then nx (pc + ln, L, st, mset M a (.inl (t, n, va_up g k.toNatClampNeg w))) else none
              | none => none)
            | _ => none)
          | _ => none)
      else match st with
      | [v] => if rOk i (mR mid) v = true then some (.inr (.inl (.inl (some v), M))) else (match exO M pc ln r L st i with | some s => some s | none => exC M pc ln r L st i)
      | [] => if i = .return_ then (if mR mid = none then some (.inr (.inl (.inl none, M))) else none) else (match exO M pc ln r L st i with | some s => some s | none => exC M pc ln r L st i)
      | _ => (match exO M pc ln r L st i with | some s => some s | none => exC M pc ln r L st i)
/-- a method's first frame -/
def entL (args : List Value) : List (Option Value) := match args with
  | [] => []
  | v :: vs => if v.category = 2 then some v :: none :: entL vs else some v :: entL vs
def ent (mid : Nat) (args : List Value) (M : JM) : JF := (0, entL args ++ List.replicate (mL mid - (entL args).length) none, [], M)
def hdl (hs : List (Nat × Nat × Nat × Nat × Nat)) (pc e : Nat) : Option (Nat × Nat) := match hs with
  | [] => none
  | h :: hs => if h.1 ≤ pc ∧ pc < h.2.1 ∧ h.2.2.1 = e then some h.2.2.2 else hdl hs pc e
def isI (mid pc : Nat) : Bool := match cd mid pc with
  | some (.invokespecial _, _, _) => true
  | _ => false
def run (X : JX) : Nat → Nat → Nat → JF → Option (JR × JM)
  | 0, _, _, _ => none
  | n + 1, d, mid, F => match step X mid F with
    | none => none
    | some (.inl F') => run X n d mid F'
    | some (.inr (.inl q)) => some q
    | some (.inr (.inr (mid', args, F'))) => match d with
      | 0 => none
      | d + 1 => if (entL args).length ≤ mL mid' then (match run X n d mid' (ent mid' args F'.2.2.2) with
        | none => none
        | some (.inl v, M') => run X n (d + 1) mid (F'.1, F'.2.1, v.toList ++ F'.2.2.1, M')
        | some (.inr e, M') => if isI mid F.1 = true then none else if mX mid = [] then some (.inr e, M') else match hdl (mX mid) F.1 e with
          | none => none
          | some (t, k) => if k = 0 ∨ wide F'.2.1[k - 1]? = false then run X n (d + 1) mid (t, F'.2.1.set k none, [], M') else none) else none
