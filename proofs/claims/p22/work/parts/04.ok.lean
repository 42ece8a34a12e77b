/-! What the tables must say of the bytes and of the words: a program decides it. -/
def mStab (w : Jvm.Cond) : Bool := goodWord w || (match w with
  | .fieldLinkNest .. => true
  | .methodLinkNest .. => true
  | .arrayOver ty => decide (ty = .array .int)
  | _ => false)
def mW (p : Nat) (w : Jvm.Cond) : Bool := decide ((mTabN (p / 1000))[p % 1000]? = some w) && mStab w
def mW1 (ts : List Nat) (w : Jvm.Cond) : Bool := match ts with
  | [p] => mW p w
  | _ => false
def mFk (own : String) (idx : Nat) (ref nm ds : String) (ts : List Nat) : Bool := match ts with
  | [p] => mW p (.fieldLink own idx ref nm ds)
  | [p, _] => mW p (.fieldLinkNest own idx ref nm ds "PoleRecords")
  | _ => false
def mMk (own : String) (idx : Nat) (y : MethodName) (ts : List Nat) : Bool := match ts with
  | [p] => mW p (.methodLink own idx y)
  | [p, _] => mW p (.methodLinkNest own idx y "PoleRecords")
  | _ => false
def mStrIx (b : Nat) : Nat := if b = 1003 then 38 else if b = 1004 then 48 else if b = 1005 then 57 else 62
def mCallOk (own : String) (idx a b : Nat) (ts : List Nat) : Bool := mMk own idx (mtName (mTb_ a)) ts && decide ((parseMethodDescriptor (mtName (mTb_ a)).desc).map (fun d => d.parameters.length) = some b)
def mMathOk (own : String) (idx : Nat) (y : MethodName) (cc : ByteArray) (n : Nat) (ts : List Nat) : Bool := match ts with
  | [p, q, r, t] => mW p (.methodLink own idx y) && (mW q (.static y) && (mW r (.initialized "java/lang/Math") && mW t (.code y cc n (some .int))))
  | _ => false
/-- how long an instruction is; 0: it says so itself -/
def mLen : Instr → Nat
  | .bipush _ | .ldc _ | .iload _ | .lload _ | .aload _ | .istore _ | .lstore _ | .astore _ | .newarray _ => 2
  | .sipush _ | .ldc2_w _ | .iinc _ _ | .goto _ | .ifCond _ _ | .if_icmp _ _ | .getfield _ | .putfield _ | .getstatic _ | .new _ | .invokestatic _ | .invokevirtual _ | .invokespecial _ => 3
  | .multianewarray _ _ => 4
  | .tableswitch _ _ _ _ => 0
  | _ => 1
def mOkE (m : mMt) (pc : Nat) (e : mE) : Bool := decide (decode (mtBytes m) pc = .ok (e.1, e.2.1 - pc)) && ((Nat.beq (mLen e.1) 0 || Nat.beq e.2.1 (pc + mLen e.1)) && match e with
  | (ins, nx, a, b, zi, zl, ts) => match ins with
    | .iconst n => decide (Int32.ofInt n = zi)
    | .bipush n => decide ((Int8.ofInt n).toInt32 = zi)
    | .sipush n => decide ((Int16.ofInt n).toInt32 = zi)
    | .lconst n => decide (Int64.ofNat n.val = zl)
    | .ldc idx => bif Nat.beq a 0 then mW1 ts (.constant (mtName m).cls idx zi) else (Nat.ble 1003 b && (Nat.ble b 1006 && (decide ((mtName m).cls = "PoleRecords$Reader") && decide (idx = mStrIx b))))
    | .ldc2_w idx => mW1 ts (.constantLong (mtName m).cls idx zl)
    | .iinc _ n => decide (Int32.ofInt n = zi)
    | .goto off => decide ((pc : Int) + off = (a : Int))
    | .ifCond _ off => decide ((pc : Int) + off = (a : Int))
    | .if_icmp _ off => decide ((pc : Int) + off = (a : Int))
    | .tableswitch df lo hi offs => decide ((pc : Int) + df = (a : Int)) && (decide (offs.toList.map (fun o => (pc : Int) + o) = ts.map (fun (t : Nat) => (t : Int))) && decide (hi = lo + (ts.length : Int) - 1))
    | .getfield idx => bif Nat.blt a 20 then (match mCl[a]? with
        | some (_, T, N) => Nat.blt b N && mFk (mtName m).cls idx (T b).1 (T b).2.1 (T b).2.2.1 ts
        | none => false) else (bif Nat.beq b 0 then mW1 ts (.fieldLink (mtName m).cls idx "java/lang/String" "value" "[B") else mW1 ts (.fieldLink (mtName m).cls idx "java/lang/String" "coder" "B"))
    | .putfield idx => (match mCl[a]? with
        | some (_, T, N) => Nat.blt b N && (mFk (mtName m).cls idx (T b).1 (T b).2.1 (T b).2.2.1 ts && (bif (T b).2.2.2 then (decide (ts.length = 1) && (Nat.beq (mtKind m) 1 && decide ((T b).1 = (mtName m).cls))) else true))
        | none => false)
    | .getstatic idx => bif Nat.beq a 0 then (bif Nat.beq b 1001 then mFk (mtName m).cls idx "PoleRecords$Judge" "LEAST" "[I" ts else bif Nat.beq b 1002 then mFk (mtName m).cls idx "PoleRecords$Judge" "MOST" "[I" ts else (Nat.beq b 1007 && mFk (mtName m).cls idx "jdk/internal/util/Preconditions" "SIOOBE_FORMATTER" "Ljava/util/function/BiFunction;" ts)) else (decide (zi = 1) && mFk (mtName m).cls idx "java/lang/String" "COMPACT_STRINGS" "Z" ts)
    | .newarray t => (match t with
        | .int => Nat.beq a 20 && mW1 ts (.arrayClass .int)
        | .char => Nat.beq a 21 && mW1 ts (.arrayClass .char)
        | _ => false)
    | .multianewarray idx dim => Nat.beq dim 2 && (match ts with
        | [p, q, r] => mW p (.classLink (mtName m).cls idx "[[I") && (mW q (.arrayOver (.array .int)) && mW r (.arrayClass .int))
        | _ => false)
    | .new idx => (match mCl[a]?, ts with
        | some (C, _, N), [p, q, r] => mW p (.classLink (mtName m).cls idx C) && (mW q (.instantiable C N) && (mW r (.initialized C) && decide ((mFT.getD a []).length = N)))
        | _, _ => false)
    | .invokestatic idx => bif Nat.beq a 991 then mMathOk (mtName m).cls idx Lib.Math.max.name Lib.Math.max.code 2 ts
        else bif Nat.beq a 992 then mMathOk (mtName m).cls idx Lib.Math.min.name Lib.Math.min.code 2 ts
        else bif Nat.beq a 993 then mMathOk (mtName m).cls idx Lib.Math.abs.name Lib.Math.abs.code 1 ts
        else Nat.beq a 998 || mCallOk (mtName m).cls idx a b ts
    | .invokevirtual idx => Nat.beq a 998 || mCallOk (mtName m).cls idx a b ts
    | .invokespecial idx => bif Nat.beq a 999 then (Nat.beq b 0 && (match ts with
        | [p, q, r] => mW p (.methodLink (mtName m).cls idx objectInit) && (mW q (.instanceMethod objectInit) && mW r (.code objectInit ⟨#[0xb1]⟩ 1 none))
        | _ => false)) else mCallOk (mtName m).cls idx a b ts
    | _ => true)
def mOkL (m : mMt) : List (Nat × List (Nat × mE)) → Bool
  | [] => true
  | (_, c) :: r => c.all (fun q => mOkE m q.1 q.2) && mOkL m r
def mOkW (m : mMt) : Bool := (match mtKind m, mtWs m with
  | 0, [p, q, r, t] => mW p (.code (mtName m) (mtBytes m) (mtMax m) (mtRet m)) && (mW q (.instanceMethod (mtName m)) && (mW r (.selects (mtName m).cls (mtName m) (mtName m)) && (mW t (.initialized (mtName m).cls) && (match mCl[mtCls m]? with
      | some (C, _, _) => decide (C = (mtName m).cls)
      | none => Nat.beq (mtCls m) 30 && decide ((mtName m).cls = "java/lang/String")))))
  | 1, [p, q, t] => mW p (.code (mtName m) (mtBytes m) (mtMax m) (mtRet m)) && (mW q (.instanceMethod (mtName m)) && (mW t (.initialized (mtName m).cls) && (decide ((mtName m).name = "<init>") && decide (mtRet m = none))))
  | 2, [p, q, t] => mW p (.code (mtName m) (mtBytes m) (mtMax m) (mtRet m)) && (mW q (.static (mtName m)) && mW t (.initialized (mtName m).cls))
  | 3, [] => true
  | 9, [] => true
  | _, _ => false)
def mOkM (m : mMt) : Bool := mOkW m && (Nat.ble (mtMax m) 15 && (Jvm.plainName (mtName m).cls && (decide ((mtName m).cls ≠ "java/lang/invoke/MethodHandle") && (decide ((mtName m).cls ≠ "java/lang/invoke/VarHandle") && mOkL m (mtCode m)))))
