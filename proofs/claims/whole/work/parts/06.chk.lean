/-! what is checked of each row by computation -/
def NM : Nat := 271
def own (mid : Nat) : String := (mN mid).cls
def chN : List String := ["java/lang/RuntimeException", "java/lang/Exception"]
def isSw (i : Instr) : Bool := match i with
  | .tableswitch .. => true | .lookupswitch .. => true | _ => false
def inT (w : Cond) : Bool := decide (w ∈ lw_tbl) && (goodWord w || nlk w)
def chF (mid n : Nat) (r : List Nat) : Bool := match clz[r.getD 0 0]? with
  | some (C, T, N) => decide (r.getD 1 0 < N) && decide ((T (r.getD 1 0)).1 = C) &&
    (if r.getD 2 0 = 1 then nw (r.getD 3 0) (.fieldLinkNest (own mid) n C (T (r.getD 1 0)).2.1 (T (r.getD 1 0)).2.2.1 "RegexTracer") else gw (r.getD 3 0) (.fieldLink (own mid) n C (T (r.getD 1 0)).2.1 (T (r.getD 1 0)).2.2.1))
  | none => false
def chW (mid : Nat) (r : List Nat) : Bool := match clz[r.getD 0 0]? with
  | some (C, T, N) => if (T (r.getD 1 0)).2.2.2 = true then decide (r.getD 2 0 = 0) && decide ((mN mid).name = "<init>") && decide (C = own mid) else true
  | none => false
def ixX (k : Nat) : Nat := if k = 3 then 13 else 7
def bxX (k : Nat) : ByteArray := if k = 3 then ⟨#[0x2a, 0x2b, 0xb7, 0x00, 0x0d, 0xb1]⟩ else ⟨#[0x2a, 0x2b, 0xb7, 0x00, 0x07, 0xb1]⟩
def icX (k : Nat) : Nat := match k with
  | 0 => 89 | 1 => 124 | 2 => 188 | 3 => 168 | _ => 264
def chT (mid pc n : Nat) (r : List Nat) : Bool :=
  decide (r.getD 0 0 < 105) && gw (r.getD 1 0) (.classLink (own mid) n (exN (r.getD 0 0 - 100))) && gw (r.getD 2 0) (.initialized (exN (r.getD 0 0 - 100))) &&
  (match SL[r.getD 3 0]? with
    | some (o, si, _) => decide (o = own mid) && decide (decode (mB mid) (pc + 3) = .ok (.dup, 1)) &&
      (if r.getD 5 0 = 0 then decide (decode (mB mid) (pc + 4) = .ok (.ldc si, 2)) && decide (decode (mB mid) (pc + 6) = .ok (.invokespecial (r.getD 4 0), 3)) && decide (decode (mB mid) (pc + 9) = .ok (.athrow, 1))
        else decide (decode (mB mid) (pc + 4) = .ok (.ldc_w si, 3)) && decide (decode (mB mid) (pc + 7) = .ok (.invokespecial (r.getD 4 0), 3)) && decide (decode (mB mid) (pc + 10) = .ok (.athrow, 1)))
    | none => false) &&
  decide (own mid = "RegexTracer") && decide (r.getD 4 0 = icX (r.getD 0 0 - 100)) && decide (mH mid = [])
def chV (r : List Nat) : Bool := decide (0 < r.getD 0 0) && decide (r.getD 0 0 < NM) && decide ((mN (r.getD 0 0)).cls ≠ "java/lang/invoke/MethodHandle") && decide ((mN (r.getD 0 0)).cls ≠ "java/lang/invoke/VarHandle") &&
  decide ((parseMethodDescriptor (mN (r.getD 0 0)).desc).map (fun d => d.parameters.length) = some (r.getD 1 0))
def chkR (mid pc : Nat) (i : Instr) (r : List Nat) : Bool := match i with
  | .ldc n => gw (r.getD 1 0) (.constant (own mid) n (Int32.ofNat (r.getD 0 0)))
  | .ldc_w n => gw (r.getD 1 0) (.constant (own mid) n (Int32.ofNat (r.getD 0 0)))
  | .ifCond _ o => decide ((pc : Int) + o = (r.getD 0 0 : Nat))
  | .if_icmp _ o => decide ((pc : Int) + o = (r.getD 0 0 : Nat))
  | .ifnull o => decide ((pc : Int) + o = (r.getD 0 0 : Nat))
  | .ifnonnull o => decide ((pc : Int) + o = (r.getD 0 0 : Nat))
  | .goto o => decide ((pc : Int) + o = (r.getD 0 0 : Nat))
  | .getfield n => chF mid n r
  | .putfield n => chF mid n r && chW mid r
  | .new n => if 100 ≤ r.getD 0 0 then chT mid pc n r else (match clz[r.getD 0 0]? with
    | some (C, _, N) => gw (r.getD 1 0) (.classLink (own mid) n C) && gw (r.getD 2 0) (.instantiable C N) && gw (r.getD 3 0) (.initialized C)
    | none => false)
  | .newarray t => gw (r.getD 1 0) (.arrayClass (newarray.typeOf t)) && decide (atY (r.getD 0 0) = newarray.typeOf t) && decide (r.getD 0 0 < 5)
  | .anewarray n => (decide (r.getD 0 0 = 5) && gw (r.getD 1 0) (.classLink (own mid) n "RegexTracer$Pattern")) || (decide (r.getD 0 0 = 6) && gw (r.getD 1 0) (.classLink (own mid) n "RegexTracer$Content"))
  | .tableswitch d lo hi os => decide (r.length = os.size + 1) && decide (hi - lo + 1 = os.size) && decide ((pc : Int) + d = (r.getD 0 0 : Nat)) && (List.range os.size).all (fun j => decide ((pc : Int) + os.getD j 0 = (r.getD (j + 1) 0 : Nat)))
  | .lookupswitch d ps => (ps.toList.zip (ps.toList.drop 1)).all (fun (a, next) => a.1 < next.1) && decide (r.length = ps.size + 1) && decide ((pc : Int) + d = (r.getD 0 0 : Nat)) && ((ps.toList.zip (r.drop 1)).all fun q => decide ((pc : Int) + q.1.2 = (q.2 : Nat)))
  | .invokestatic n => if r.getD 0 0 = 1000 then gw (r.getD 2 0) (.methodLink (own mid) n Lib.Math.min.name) && gw (r.getD 3 0) (.static Lib.Math.min.name) && gw (r.getD 4 0) (.initialized "java/lang/Math") && gw (r.getD 5 0) (.code Lib.Math.min.name Lib.Math.min.code 2 (some .int))
      else if r.getD 0 0 = 1001 then gw (r.getD 2 0) (.methodLink (own mid) n Lib.Math.max.name) && gw (r.getD 3 0) (.static Lib.Math.max.name) && gw (r.getD 4 0) (.initialized "java/lang/Math") && gw (r.getD 5 0) (.code Lib.Math.max.name Lib.Math.max.code 2 (some .int))
      else chV r && gw (r.getD 2 0) (.methodLink (own mid) n (mN (r.getD 0 0))) && gw (r.getD 3 0) (.static (mN (r.getD 0 0))) && gw (r.getD 4 0) (.initialized (mN (r.getD 0 0)).cls) && gw (r.getD 5 0) (wdM (r.getD 0 0))
  | .invokevirtual n => chV r && gw (r.getD 2 0) (.methodLink (own mid) n (mN (r.getD 0 0))) && gw (r.getD 3 0) (.instanceMethod (mN (r.getD 0 0))) && gw (r.getD 4 0) (.selects (mN (r.getD 0 0)).cls (mN (r.getD 0 0)) (mN (r.getD 0 0))) && gw (r.getD 5 0) (.initialized (mN (r.getD 0 0)).cls) && gw (r.getD 6 0) (wdM (r.getD 0 0)) && decide (mH (r.getD 0 0) = []) && decide ((clz[r.getD 7 99]?).map (·.1) = some (mN (r.getD 0 0)).cls)
  | .invokespecial n => if r.getD 0 0 = 2000 then gw (r.getD 2 0) (.methodLink (own mid) n Lib.objectInit) && gw (r.getD 3 0) (.instanceMethod Lib.objectInit) && gw (r.getD 4 0) (.code Lib.objectInit ⟨#[0xb1]⟩ 1 none)
      else chV r && (if r.getD 2 0 = 1 then nw (r.getD 3 0) (.methodLinkNest (own mid) n (mN (r.getD 0 0)) "RegexTracer") else gw (r.getD 3 0) (.methodLink (own mid) n (mN (r.getD 0 0)))) && gw (r.getD 4 0) (.instanceMethod (mN (r.getD 0 0))) && gw (r.getD 5 0) (.initialized (mN (r.getD 0 0)).cls) && gw (r.getD 6 0) (wdM (r.getD 0 0)) && decide (mH (r.getD 0 0) = []) && decide ((mN (r.getD 0 0)).name = "<init>") && decide (mR (r.getD 0 0) = none)
  | _ => true
def chkI (mid : Nat) (c : CI) : Bool := decide (decode (mB mid) c.1 = .ok (c.2.1, c.2.2.1)) && (decide (c.2.2.1 = iln c.2.1) || isSw c.2.1) && (decide (mid = 0) || decide (c.2.2.2 ≠ [1])) && chkR mid c.1 c.2.1 c.2.2.2
def chkH (mid : Nat) : Bool := decide ((mH mid).length = (mX mid).length) && ((mH mid).zip (mX mid)).all fun q =>
  decide (q.1.1 = q.2.1) && decide (q.1.2.1 = q.2.2.1) && decide (q.2.2.2.1 < 5) && decide (q.1.2.2.2 ≠ 0) && inT (.classLink (own mid) q.1.2.2.2 (exN q.2.2.2.1)) && inT (.castable (exN q.2.2.2.1) (exN q.2.2.2.1)) &&
  (match decode (mB mid) q.1.2.2.1 with
    | .ok (i, ln) => decide (ln = iln i) && decide (stK i = some (4, q.2.2.2.2.2)) && decide (q.2.2.2.2.1 = q.1.2.2.1 + ln)
    | _ => false) && decide (q.2.2.2.2.2 < mL mid) && decide (q.2.2.2.2.2 = 0 ∨ True)
def chkM (mid : Nat) : Bool := (mK mid).all (chkI mid) && chkH mid && plainName (own mid) && decide (mL mid ≤ 13)
