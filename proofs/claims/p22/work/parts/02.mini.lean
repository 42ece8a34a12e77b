/-! THE SMALL MACHINE: a step function over indices instead of addresses; its soundness over the machine stands in a later part. A cell: (kind, length, references); kinds 0..9 objects of the classes by number, 20 int[], 21 char[], 22 int[][]. Numbers of cells stand in two functions (cell, place). References from 1000 on are cells that were there before. -/
abbrev mSC : Type := Nat × Nat × List (Option Nat)
abbrev mHp : Type := List mSC × (Nat → Nat → Int32) × (Nat → Nat → Int64)
/-- an instruction with what it links: instruction, next place, a, b, constants, list -/
abbrev mE : Type := Instr × Nat × Nat × Nat × Int32 × Int64 × List Nat
/-- a method: name, bytes, locals, answer's type, kind (0 virtual, 1 constructor, 2 static, 3 the law), class number, cells and slots it may make, places of its words, code in pieces -/
abbrev mMt : Type := MethodName × ByteArray × Nat × Option FieldType × Nat × Nat × (Nat × Nat) × List Nat × List (Nat × List (Nat × mE))
/-- depth, method, place, locals, stack, cells made, slots made, heap -/
abbrev mSt : Type := Nat × Nat × Nat × List (Option Value) × List Value × Nat × Nat × mHp
abbrev mPo : Type := Option Value → mHp → Prop
abbrev mOut : Type := mSt ⊕ (Bool × mSt) ⊕ (Bool × mSt × mSt) ⊕ (mSt × (Option Value → mHp → mSt)) ⊕ (Bool × Option Value × mHp) ⊕ (List (Bool × mSt)) ⊕ Unit
abbrev oNext (s : mSt) : mOut := .inl s
abbrev oReq (P : Bool) (s : mSt) : mOut := .inr (.inl (P, s))
abbrev oIf (c : Bool) (s t : mSt) : mOut := .inr (.inr (.inl (c, s, t)))
abbrev oCall (s : mSt) (k : Option Value → mHp → mSt) : mOut := .inr (.inr (.inr (.inl (s, k))))
abbrev oRet (P : Bool) (r : Option Value) (h : mHp) : mOut := .inr (.inr (.inr (.inr (.inl (P, r, h)))))
abbrev oSw (l : List (Bool × mSt)) : mOut := .inr (.inr (.inr (.inr (.inr (.inl l)))))
abbrev oBad : mOut := .inr (.inr (.inr (.inr (.inr (.inr ())))))
def mAll (X : mSt → mPo → Prop) (Q : mPo) : List (Bool × mSt) → Prop
  | [] => True
  | (c, s) :: r => (c = true → X s Q) ∧ mAll X Q r
def mIn (X : mSt → mPo → Prop) (o : mOut) (Q : mPo) : Prop := match o with
  | .inl s => X s Q
  | .inr (.inl (P, s)) => P = true ∧ X s Q
  | .inr (.inr (.inl (c, s, t))) => (c = true → X s Q) ∧ (c = false → X t Q)
  | .inr (.inr (.inr (.inl (s, k)))) => X s (fun r h => X (k r h) Q)
  | .inr (.inr (.inr (.inr (.inl (P, r, h))))) => P = true ∧ Q r h
  | .inr (.inr (.inr (.inr (.inr (.inl l))))) => mAll X Q l
  | .inr (.inr (.inr (.inr (.inr (.inr _))))) => False
def mLook1 : List (Nat × mE) → Nat → Option mE
  | [], _ => none
  | (q, e) :: r, pc => bif Nat.beq q pc then some e else mLook1 r pc
def mLook : List (Nat × List (Nat × mE)) → Nat → Option mE
  | [], _ => none
  | (u, c) :: r, pc => bif Nat.blt pc u then mLook1 c pc else mLook r pc
def mUp (I : Nat → Nat → Int32) (r j : Nat) (v : Int32) : Nat → Nat → Int32 := fun r' j' => if r' = r then (if j' = j then v else I r' j') else I r' j'
def mUpL (I : Nat → Nat → Int64) (r j : Nat) (v : Int64) : Nat → Nat → Int64 := fun r' j' => if r' = r then (if j' = j then v else I r' j') else I r' j'
def mNew (I : Nat → Nat → Int32) (r : Nat) : Nat → Nat → Int32 := fun r' j' => if r' = r then 0 else I r' j'
def mNewL (I : Nat → Nat → Int64) (r : Nat) : Nat → Nat → Int64 := fun r' j' => if r' = r then 0 else I r' j'
def mKill (ml : List (Option Value)) : Nat → List (Option Value)
  | 0 => ml
  | k + 1 => match ml.getD k none with
    | some v => bif Nat.beq v.category 2 then ml.set k none else ml
    | none => ml
def mSet1 (ml : List (Option Value)) (i : Nat) (v : Value) : List (Option Value) := (mKill ml i).set i (some v)
def mSet2 (ml : List (Option Value)) (i : Nat) (v : Value) : List (Option Value) := ((mKill ml i).set i (some v)).set (i + 1) none
def mCat : List Value → Nat
  | [] => 0
  | v :: r => v.category + mCat r
/-- locals at the entry -/
def mArg : List Value → List (Option Value)
  | [] => []
  | v :: r => bif Nat.beq v.category 2 then some v :: none :: mArg r else some v :: mArg r
def mPad : List (Option Value) → Nat → List (Option Value)
  | l, 0 => l
  | [], n + 1 => none :: mPad [] n
  | x :: l, n + 1 => x :: mPad l n
def mPop1 (st : List Value) (f : Int32 → List Value → mOut) : mOut := match st with
  | .int x :: r => f x r
  | _ => oBad
def mPop2 (st : List Value) (f : Int32 → Int32 → List Value → mOut) : mOut := match st with
  | .int y :: .int x :: r => f x y r
  | _ => oBad
def mPopL1 (st : List Value) (f : Int64 → List Value → mOut) : mOut := match st with
  | .long x :: r => f x r
  | _ => oBad
def mPopL2 (st : List Value) (f : Int64 → Int64 → List Value → mOut) : mOut := match st with
  | .long y :: .long x :: r => f x y r
  | _ => oBad
def mPopR (st : List Value) (f : Nat → List Value → mOut) : mOut := match st with
  | .ref x :: r => f x r
  | _ => oBad
/-- index i over array a -/
def mPopA (st : List Value) (f : Nat → Int32 → List Value → mOut) : mOut := match st with
  | .int i :: .ref a :: r => f a i r
  | _ => oBad
/-- value x, index i, array a -/
def mPopS (st : List Value) (f : Nat → Int32 → Int32 → List Value → mOut) : mOut := match st with
  | .int x :: .int i :: .ref a :: r => f a i x r
  | _ => oBad
def mTop (st : List Value) (f : Value → List Value → mOut) : mOut := match st with
  | v :: r => f v r
  | _ => oBad
/-- a value over a reference -/
def mPopV (st : List Value) (f : Value → Nat → List Value → mOut) : mOut := match st with
  | v :: .ref a :: r => f v a r
  | _ => oBad
def mLdI (ml : List (Option Value)) (i : Nat) (f : Int32 → mOut) : mOut := match ml.getD i none with
  | some (.int x) => f x
  | _ => oBad
def mLdL (ml : List (Option Value)) (i : Nat) (f : Int64 → mOut) : mOut := match ml.getD i none with
  | some (.long x) => f x
  | _ => oBad
def mLdR (ml : List (Option Value)) (i : Nat) (f : Nat → mOut) : mOut := match ml.getD i none with
  | some (.ref x) => f x
  | _ => oBad
def mPutD (t : Nat) (v : Value) (fi : Int32 → mOut) (fl : Int64 → mOut) (fr : Nat → mOut) : mOut := match t, v with
  | 0, .int x => fi x
  | 1, .long x => fl x
  | 2, .ref x => fr x
  | _, _ => oBad
def mIf (b : Bool) (o : mOut) : mOut := bif b then o else oBad
/-- the cell r, if it is one of the new ones -/
def mCell (h : mHp) (r : Nat) (f : Nat → Nat → List (Option Nat) → mOut) : mOut := bif Nat.blt r 1000 then (match h.1[r]? with
  | some (k, n, rs) => f k n rs
  | none => oBad) else oBad
def mTyOf (tab : List (List Nat)) (k j : Nat) : Nat := (tab.getD k []).getD j 9
def mRange : Nat → List (Option Nat)
  | 0 => []
  | n + 1 => none :: mRange n
/-- the jumps of a table, from the number k on -/
def mTb (x : Int32) (f : Nat → mSt) : Int → List Nat → List (Bool × mSt)
  | _, [] => []
  | k, t :: ts => (decide (x.toInt = k), f t) :: mTb x f (k + 1) ts
abbrev mtName (m : mMt) : MethodName := m.1
abbrev mtBytes (m : mMt) : ByteArray := m.2.1
abbrev mtMax (m : mMt) : Nat := m.2.2.1
abbrev mtRet (m : mMt) : Option FieldType := m.2.2.2.1
abbrev mtKind (m : mMt) : Nat := m.2.2.2.2.1
abbrev mtCls (m : mMt) : Nat := m.2.2.2.2.2.1
abbrev mtBud (m : mMt) : Nat × Nat := m.2.2.2.2.2.2.1
abbrev mtWs (m : mMt) : List Nat := m.2.2.2.2.2.2.2.1
abbrev mtCode (m : mMt) : List (Nat × List (Nat × mE)) := m.2.2.2.2.2.2.2.2
def mIsA (h : mHp) (r k : Nat) : Bool := bif Nat.blt r 1000 then (match h.1[r]? with
  | some (k', _, _) => Nat.beq k' k && Nat.blt k 20
  | none => false) else (Nat.beq k 30 && (Nat.ble 1003 r && Nat.ble r 1006))
def mFits (T : Nat → mMt) (a b d M : Nat) (st : List Value) (ca sl : Nat) : Bool := Nat.ble 1 d && (Nat.ble b st.length && (Nat.ble (mCat (st.drop b)) 8 && (Nat.ble (ca + (mtBud (T a)).1) (mtBud (T M)).1 && Nat.ble (sl + (mtBud (T a)).2) (mtBud (T M)).2)))
def mGo (T : Nat → mMt) (a d M nx : Nat) (ml : List (Option Value)) (av rest : List Value) (ca sl : Nat) (h : mHp) : mOut := mIf (Nat.ble (mArg av).length (mtMax (T a)))
  <| oCall (d - 1, a, 0, mPad (mArg av) (mtMax (T a)), [], 0, 0, h) (fun r h' => (d, M, nx, ml, r.toList ++ rest, ca + (mtBud (T a)).1, sl + (mtBud (T a)).2, h'))
def mIota (q : Nat) : Nat → List (Option Nat)
  | 0 => []
  | n + 1 => some q :: mIota (q + 1) n
def mNewN (I : Nat → Nat → Int32) (q n : Nat) : Nat → Nat → Int32 := fun r j => if q ≤ r ∧ r ≤ q + n then 0 else I r j
def mRet1 (T : Nat → mMt) (M : Nat) (v : Int32) : Bool := match mtRet (T M) with
  | some ty => decide (narrow ty (.int v) = .int v)
  | none => false
def mVp (i : Int32) (n : Nat) : Bool := decide (¬ (i < 0 ∨ n ≤ i.toNatClampNeg))
theorem mVp_in {i : Int32} {n : Nat} (h : mVp i n = true) : vp_in i n := (of_decide_eq_true h : ¬ (i < 0 ∨ n ≤ i.toNatClampNeg))
theorem mVp_of {i : Int32} {n : Nat} (h : vp_in i n) : mVp i n = true := decide_eq_true (h : ¬ (i < 0 ∨ n ≤ i.toNatClampNeg))
def mDo (T : Nat → mMt) (ft : List (List Nat)) (ro : Nat → Nat × (Nat → Int32)) (e : mE) (d M : Nat) (ml : List (Option Value)) (st : List Value) (ca sl : Nat) (h : mHp) : mOut := match e with
  | (ins, nx, a, b, zi, zl, ts) => match ins with
    | .iconst _ => oNext (d, M, nx, ml, .int zi :: st, ca, sl, h)
    | .bipush _ => oNext (d, M, nx, ml, .int zi :: st, ca, sl, h)
    | .sipush _ => oNext (d, M, nx, ml, .int zi :: st, ca, sl, h)
    | .lconst _ => oNext (d, M, nx, ml, .long zl :: st, ca, sl, h)
    | .ldc _ => bif Nat.beq a 0 then oNext (d, M, nx, ml, .int zi :: st, ca, sl, h) else oNext (d, M, nx, ml, .ref b :: st, ca, sl, h)
    | .ldc2_w _ => oNext (d, M, nx, ml, .long zl :: st, ca, sl, h)
    | .iload i => mLdI ml i fun x => oNext (d, M, nx, ml, .int x :: st, ca, sl, h)
    | .iload_n i => mLdI ml i.val fun x => oNext (d, M, nx, ml, .int x :: st, ca, sl, h)
    | .lload i => mLdL ml i fun x => oNext (d, M, nx, ml, .long x :: st, ca, sl, h)
    | .lload_n i => mLdL ml i.val fun x => oNext (d, M, nx, ml, .long x :: st, ca, sl, h)
    | .aload i => mLdR ml i fun x => oNext (d, M, nx, ml, .ref x :: st, ca, sl, h)
    | .aload_n i => mLdR ml i.val fun x => oNext (d, M, nx, ml, .ref x :: st, ca, sl, h)
    | .istore i => mPop1 st fun x r => mIf (Nat.blt i (mtMax (T M))) (oNext (d, M, nx, mSet1 ml i (.int x), r, ca, sl, h))
    | .istore_n i => mPop1 st fun x r => mIf (Nat.blt i.val (mtMax (T M))) (oNext (d, M, nx, mSet1 ml i.val (.int x), r, ca, sl, h))
    | .lstore i => mPopL1 st fun x r => mIf (Nat.blt (i + 1) (mtMax (T M))) (oNext (d, M, nx, mSet2 ml i (.long x), r, ca, sl, h))
    | .lstore_n i => mPopL1 st fun x r => mIf (Nat.blt (i.val + 1) (mtMax (T M))) (oNext (d, M, nx, mSet2 ml i.val (.long x), r, ca, sl, h))
    | .astore i => mPopR st fun x r => mIf (Nat.blt i (mtMax (T M))) (oNext (d, M, nx, mSet1 ml i (.ref x), r, ca, sl, h))
    | .astore_n i => mPopR st fun x r => mIf (Nat.blt i.val (mtMax (T M))) (oNext (d, M, nx, mSet1 ml i.val (.ref x), r, ca, sl, h))
    | .iinc i _ => mLdI ml i fun x => mIf (Nat.blt i (mtMax (T M))) (oNext (d, M, nx, mSet1 ml i (.int (x + zi)), st, ca, sl, h))
    | .iadd => mPop2 st fun x y r => oNext (d, M, nx, ml, .int (x + y) :: r, ca, sl, h)
    | .isub => mPop2 st fun x y r => oNext (d, M, nx, ml, .int (x - y) :: r, ca, sl, h)
    | .imul => mPop2 st fun x y r => oNext (d, M, nx, ml, .int (x * y) :: r, ca, sl, h)
    | .iand => mPop2 st fun x y r => oNext (d, M, nx, ml, .int (x &&& y) :: r, ca, sl, h)
    | .ior => mPop2 st fun x y r => oNext (d, M, nx, ml, .int (x ||| y) :: r, ca, sl, h)
    | .ishl => mPop2 st fun x y r => oNext (d, M, nx, ml, .int (x <<< (y &&& 31)) :: r, ca, sl, h)
    | .ishr => mPop2 st fun x y r => oNext (d, M, nx, ml, .int (x >>> (y &&& 31)) :: r, ca, sl, h)
    | .idiv => mPop2 st fun x y r => oReq (decide (¬ y = 0)) (d, M, nx, ml, .int (x / y) :: r, ca, sl, h)
    | .irem => mPop2 st fun x y r => oReq (decide (¬ y = 0)) (d, M, nx, ml, .int (x - x / y * y) :: r, ca, sl, h)
    | .ineg => mPop1 st fun x r => oNext (d, M, nx, ml, .int (-x) :: r, ca, sl, h)
    | .i2c => mPop1 st fun x r => oNext (d, M, nx, ml, .int (x.toUInt32 % 65536).toInt32 :: r, ca, sl, h)
    | .i2l => mPop1 st fun x r => oNext (d, M, nx, ml, .long x.toInt64 :: r, ca, sl, h)
    | .l2i => mPopL1 st fun x r => oNext (d, M, nx, ml, .int x.toInt32 :: r, ca, sl, h)
    | .ladd => mPopL2 st fun x y r => oNext (d, M, nx, ml, .long (x + y) :: r, ca, sl, h)
    | .lmul => mPopL2 st fun x y r => oNext (d, M, nx, ml, .long (x * y) :: r, ca, sl, h)
    | .ldiv => mPopL2 st fun x y r => oReq (decide (¬ y = 0)) (d, M, nx, ml, .long (x / y) :: r, ca, sl, h)
    | .lrem => mPopL2 st fun x y r => oReq (decide (¬ y = 0)) (d, M, nx, ml, .long (x - x / y * y) :: r, ca, sl, h)
    | .lcmp => mPopL2 st fun x y r => oNext (d, M, nx, ml, .int (lg_cmp x y) :: r, ca, sl, h)
    | .dup => mTop st fun v r => mIf (Nat.beq v.category 1) (oNext (d, M, nx, ml, v :: v :: r, ca, sl, h))
    | .pop => mTop st fun v r => mIf (Nat.beq v.category 1) (oNext (d, M, nx, ml, r, ca, sl, h))
    | .pop2 => mTop st fun v r => mIf (Nat.beq v.category 2) (oNext (d, M, nx, ml, r, ca, sl, h))
    | .dup2 => mTop st fun v r => mTop r fun w q => mIf (Nat.beq v.category 1 && Nat.beq w.category 1) (oNext (d, M, nx, ml, v :: w :: v :: w :: q, ca, sl, h))
    | .goto _ => oNext (d, M, a, ml, st, ca, sl, h)
    | .ifCond c _ => mPop1 st fun x r => match c with
      | .eq => oIf (decide (x = 0)) (d, M, a, ml, r, ca, sl, h) (d, M, nx, ml, r, ca, sl, h)
      | .ne => oIf (decide (x = 0)) (d, M, nx, ml, r, ca, sl, h) (d, M, a, ml, r, ca, sl, h)
      | .lt => oIf (decide (x < 0)) (d, M, a, ml, r, ca, sl, h) (d, M, nx, ml, r, ca, sl, h)
      | .ge => oIf (decide (0 ≤ x)) (d, M, a, ml, r, ca, sl, h) (d, M, nx, ml, r, ca, sl, h)
      | .gt => oIf (decide (0 < x)) (d, M, a, ml, r, ca, sl, h) (d, M, nx, ml, r, ca, sl, h)
      | .le => oIf (decide (x ≤ 0)) (d, M, a, ml, r, ca, sl, h) (d, M, nx, ml, r, ca, sl, h)
    | .if_icmp c _ => mPop2 st fun x y r => match c with
      | .eq => oIf (decide (x = y)) (d, M, a, ml, r, ca, sl, h) (d, M, nx, ml, r, ca, sl, h)
      | .ne => oIf (decide (x = y)) (d, M, nx, ml, r, ca, sl, h) (d, M, a, ml, r, ca, sl, h)
      | .lt => oIf (decide (x < y)) (d, M, a, ml, r, ca, sl, h) (d, M, nx, ml, r, ca, sl, h)
      | .ge => oIf (decide (y ≤ x)) (d, M, a, ml, r, ca, sl, h) (d, M, nx, ml, r, ca, sl, h)
      | .gt => oIf (decide (y < x)) (d, M, a, ml, r, ca, sl, h) (d, M, nx, ml, r, ca, sl, h)
      | .le => oIf (decide (x ≤ y)) (d, M, a, ml, r, ca, sl, h) (d, M, nx, ml, r, ca, sl, h)
    | .tableswitch _ lo hi _ => mPop1 st fun x r => oSw ((decide (x.toInt < lo ∨ hi < x.toInt), (d, M, a, ml, r, ca, sl, h)) :: mTb x (fun t => (d, M, t, ml, r, ca, sl, h)) lo ts)
    | .getfield _ => mPopR st fun q r => bif Nat.blt a 20 then (mCell h q fun k _ rs => mIf (Nat.beq k a) (match mTyOf ft a b with
        | 0 => oNext (d, M, nx, ml, .int (h.2.1 q b) :: r, ca, sl, h)
        | 1 => oNext (d, M, nx, ml, .long (h.2.2 q b) :: r, ca, sl, h)
        | 2 => (match rs.getD b none with
          | some z => oNext (d, M, nx, ml, .ref z :: r, ca, sl, h)
          | none => oBad)
        | _ => oBad)) else mIf (Nat.ble 1003 q && Nat.ble q 1006) (bif Nat.beq b 0 then oNext (d, M, nx, ml, .ref (q + 10) :: r, ca, sl, h) else oNext (d, M, nx, ml, .int 0 :: r, ca, sl, h))
    | .putfield _ => mPopV st fun v q r => mCell h q fun k n rs => mIf (Nat.beq k a) (mPutD (mTyOf ft a b) v
        (fun x => oNext (d, M, nx, ml, r, ca, sl, (h.1, mUp h.2.1 q b x, h.2.2)))
        (fun x => oNext (d, M, nx, ml, r, ca, sl, (h.1, h.2.1, mUpL h.2.2 q b x)))
        (fun x => mIf (Nat.blt b rs.length) (oNext (d, M, nx, ml, r, ca, sl, (h.1.set q (k, n, rs.set b (some x)), h.2.1, h.2.2)))))
    | .getstatic _ => bif Nat.beq a 0 then (bif Nat.beq b 1007 then oIf (Nat.beq (ro 7).1 0) (d, M, nx, ml, .null :: st, ca, sl, h) (d, M, nx, ml, .ref b :: st, ca, sl, h) else oNext (d, M, nx, ml, .ref b :: st, ca, sl, h)) else oNext (d, M, nx, ml, .int zi :: st, ca, sl, h)
    | .arraylength => mPopR st fun q r => bif Nat.blt q 1000 then (mCell h q fun k n _ => mIf (Nat.ble 20 k) (oNext (d, M, nx, ml, .int (Int32.ofNat n) :: r, ca, sl, h))) else mIf (Nat.blt q 1003 || (Nat.ble 1013 q && Nat.ble q 1016)) (oNext (d, M, nx, ml, .int (Int32.ofNat (ro (q - 1000)).1) :: r, ca, sl, h))
    | .iaload => mPopA st fun q i r => bif Nat.blt q 1000 then (mCell h q fun k n _ => mIf (Nat.beq k 20) (oReq (mVp i n) (d, M, nx, ml, .int (h.2.1 q i.toNatClampNeg) :: r, ca, sl, h))) else mIf (Nat.blt q 1003) (oReq (mVp i (ro (q - 1000)).1) (d, M, nx, ml, .int ((ro (q - 1000)).2 i.toNatClampNeg) :: r, ca, sl, h))
    | .baload => mPopA st fun q i r => mIf (Nat.ble 1013 q && Nat.ble q 1016) (oReq (mVp i (ro (q - 1000)).1) (d, M, nx, ml, .int ((ro (q - 1000)).2 i.toNatClampNeg) :: r, ca, sl, h))
    | .caload => mPopA st fun q i r => mCell h q fun k n _ => mIf (Nat.beq k 21) (oReq (mVp i n) (d, M, nx, ml, .int (h.2.1 q i.toNatClampNeg) :: r, ca, sl, h))
    | .aaload => mPopA st fun q i r => mCell h q fun k n rs => mIf (Nat.beq k 22) (match rs.getD i.toNatClampNeg none with
        | some z => oReq (mVp i n) (d, M, nx, ml, .ref z :: r, ca, sl, h)
        | none => oBad)
    | .iastore => mPopS st fun q i x r => mCell h q fun k n _ => mIf (Nat.beq k 20) (oReq (mVp i n) (d, M, nx, ml, r, ca, sl, (h.1, mUp h.2.1 q i.toNatClampNeg x, h.2.2)))
    | .castore => mPopS st fun q i x r => mCell h q fun k n _ => mIf (Nat.beq k 21) (oReq (mVp i n) (d, M, nx, ml, r, ca, sl, (h.1, mUp h.2.1 q i.toNatClampNeg (vp_nar .char x), h.2.2)))
    | .newarray _ => mPop1 st fun n r => mIf (Nat.blt h.1.length 900 && Nat.ble (ca + 1) (mtBud (T M)).1) (oReq (decide (¬ n < 0 ∧ n.toNatClampNeg ≤ 1000 ∧ sl + n.toNatClampNeg ≤ (mtBud (T M)).2)) (d, M, nx, ml, .ref h.1.length :: r, ca + 1, sl + n.toNatClampNeg, (h.1 ++ [(a, n.toNatClampNeg, [])], mNew h.2.1 h.1.length, h.2.2)))
    | .multianewarray _ _ => mPop2 st fun n k r => mIf (Nat.blt h.1.length 900) (oReq (decide (¬ n < 0 ∧ ¬ k < 0 ∧ n.toNatClampNeg ≤ 50 ∧ k.toNatClampNeg ≤ 1000 ∧ ca + (1 + n.toNatClampNeg) ≤ (mtBud (T M)).1 ∧ sl + (n.toNatClampNeg + n.toNatClampNeg * k.toNatClampNeg) ≤ (mtBud (T M)).2)) (d, M, nx, ml, .ref h.1.length :: r, ca + 1 + n.toNatClampNeg, sl + n.toNatClampNeg + n.toNatClampNeg * k.toNatClampNeg, (h.1 ++ (22, n.toNatClampNeg, mIota (h.1.length + 1) n.toNatClampNeg) :: List.replicate n.toNatClampNeg (20, k.toNatClampNeg, []), mNewN h.2.1 h.1.length n.toNatClampNeg, h.2.2)))
    | .new _ => mIf (Nat.blt h.1.length 900 && (Nat.blt a 20 && (Nat.ble (ca + 1) (mtBud (T M)).1 && Nat.ble (sl + (ft.getD a []).length) (mtBud (T M)).2))) (oNext (d, M, nx, ml, .ref h.1.length :: st, ca + 1, sl + (ft.getD a []).length, (h.1 ++ [(a, 0, mRange (ft.getD a []).length)], mNew h.2.1 h.1.length, mNewL h.2.2 h.1.length)))
    | .invokestatic _ => bif Nat.beq a 991 then (mPop2 st fun x y r => mIf (Nat.ble 1 d && Nat.ble (mCat r) 8) (oNext (d, M, nx, ml, .int (if x < y then y else x) :: r, ca, sl, h)))
      else bif Nat.beq a 992 then (mPop2 st fun x y r => mIf (Nat.ble 1 d && Nat.ble (mCat r) 8) (oNext (d, M, nx, ml, .int (if y < x then y else x) :: r, ca, sl, h)))
      else bif Nat.beq a 993 then (mPop1 st fun x r => mIf (Nat.ble 1 d && Nat.ble (mCat r) 8) (oNext (d, M, nx, ml, .int (if 0 ≤ x then x else 0 - x) :: r, ca, sl, h)))
      else mIf (mFits T a b d M st ca sl && Nat.beq (mtKind (T a)) 2) (mGo T a d M nx ml (st.take b).reverse (st.drop b) ca sl h)
    | .invokevirtual _ => mPopR (st.drop b) fun q r => mIf (mFits T a b d M st ca sl && (Nat.beq (mtKind (T a)) 0 && mIsA h q (mtCls (T a)))) (mGo T a d M nx ml (.ref q :: (st.take b).reverse) r ca sl h)
    | .invokespecial _ => mPopR (st.drop b) fun q r => bif Nat.beq a 999 then mIf (Nat.ble 1 d && Nat.ble (mCat r) 8) (oNext (d, M, nx, ml, r, ca, sl, h)) else mIf (mFits T a b d M st ca sl && Nat.beq (mtKind (T a)) 1) (mGo T a d M nx ml (.ref q :: (st.take b).reverse) r ca sl h)
    | .ireturn => (match st with
      | [.int v] => oRet (mRet1 T M v) (some (.int v)) h
      | _ => oBad)
    | .lreturn => (match st with
      | [.long v] => mIf (decide (mtRet (T M) = some .long)) (oRet true (some (.long v)) h)
      | _ => oBad)
    | .areturn => (match st with
      | [.ref v] => (match mtRet (T M) with
        | some (.object _) => oRet true (some (.ref v)) h
        | _ => oBad)
      | _ => oBad)
    | .return_ => (match st, mtRet (T M) with
      | [], none => oRet true none h
      | _, _ => oBad)
    | _ => oBad
def mStep (T : Nat → mMt) (ft : List (List Nat)) (ro : Nat → Nat × (Nat → Int32)) : mSt → mOut
  | (d, M, pc, ml, st, ca, sl, h) => match mLook (mtCode (T M)) pc with
    | some e => mDo T ft ro e d M ml st ca sl h
    | none => oBad
/-- answers may be weakened -/
def mQm (X : mSt → mPo → Prop) : Prop := ∀ (s : mSt) (Q Q' : mPo), (∀ r h, Q r h → Q' r h) → X s Q → X s Q'
/-- the least relation that is closed under the steps -/
def mWP (T : Nat → mMt) (ft : List (List Nat)) (ro : Nat → Nat × (Nat → Int32)) (s : mSt) (Q : mPo) : Prop := ∀ X : mSt → mPo → Prop, mQm X → (∀ s Q, mIn X (mStep T ft ro s) Q → X s Q) → X s Q
theorem mAll_mono {X Y : mSt → mPo → Prop} (h : ∀ s Q, X s Q → Y s Q) {Q : mPo} : ∀ l, mAll X Q l → mAll Y Q l
  | [], _ => trivial
  | (_, _) :: r, g => ⟨fun c => h _ _ (g.1 c), mAll_mono h r g.2⟩
theorem mIn_mono {X Y : mSt → mPo → Prop} (h : ∀ s Q, X s Q → Y s Q) (hY : mQm Y) (o : mOut) (Q : mPo) (g : mIn X o Q) : mIn Y o Q := by
  match o, g with
  | .inl s, g => exact h _ _ g
  | .inr (.inl (P, s)), g => exact ⟨g.1, h _ _ g.2⟩
  | .inr (.inr (.inl (c, s, t))), g => exact ⟨fun q => h _ _ (g.1 q), fun q => h _ _ (g.2 q)⟩
  | .inr (.inr (.inr (.inl (s, k)))), g => exact hY _ _ _ (fun r hh q => h _ _ q) (h _ _ g)
  | .inr (.inr (.inr (.inr (.inl (P, r, hh))))), g => exact g
  | .inr (.inr (.inr (.inr (.inr (.inl l))))), g => exact mAll_mono h l g
  | .inr (.inr (.inr (.inr (.inr (.inr _))))), g => exact g
theorem mWP.qm {T : Nat → mMt} {ft : List (List Nat)} {ro : Nat → Nat × (Nat → Int32)} : mQm (mWP T ft ro) := fun s _ _ hq h X hX hc => hX s _ _ hq (h X hX hc)
theorem mWP.fold {T : Nat → mMt} {ft : List (List Nat)} {ro : Nat → Nat × (Nat → Int32)} {s : mSt} {Q : mPo} (h : mIn (mWP T ft ro) (mStep T ft ro s) Q) : mWP T ft ro s Q := fun X hX hc => hc s Q (mIn_mono (fun s Q g => g X hX hc) hX _ _ h)
/-- n steps at once -/
def mU (T : Nat → mMt) (ft : List (List Nat)) (ro : Nat → Nat × (Nat → Int32)) (n : Nat) : mSt → mPo → Prop := Nat.rec (motive := fun _ => mSt → mPo → Prop) (mWP T ft ro) (fun _ w => fun s Q => mIn w (mStep T ft ro s) Q) n
theorem mU.wp {T : Nat → mMt} {ft : List (List Nat)} {ro : Nat → Nat × (Nat → Int32)} : ∀ (n : Nat) (s : mSt) (Q : mPo), mU T ft ro n s Q → mWP T ft ro s Q
  | 0, _, _, h => h
  | n + 1, s, Q, h => mWP.fold (mIn_mono (fun s Q g => mU.wp n s Q g) mWP.qm _ _ h)
/-- a run on plain data, up to the place (M, pc) of the outermost method, or to the end: depth of calls by fuel -/
def mRun (T : Nat → mMt) (ft : List (List Nat)) (ro : Nat → Nat × (Nat → Int32)) (n : Nat) : mSt → Option (Option Value × mHp) := Nat.rec (motive := fun _ => mSt → Option (Option Value × mHp)) (fun _ => none) (fun _ w => fun s => match mStep T ft ro s with
  | .inl s => w s
  | .inr (.inl (P, s)) => bif P then w s else none
  | .inr (.inr (.inl (c, s, t))) => bif c then w s else w t
  | .inr (.inr (.inr (.inl (s, k)))) => (match w s with
    | some (r, h) => w (k r h)
    | none => none)
  | .inr (.inr (.inr (.inr (.inl (P, r, h))))) => bif P then some (r, h) else none
  | .inr (.inr (.inr (.inr (.inr (.inl l))))) => (match l.filter (fun q => q.1) with
    | [(_, s)] => w s
    | _ => none)
  | .inr (.inr (.inr (.inr (.inr (.inr _))))) => none) n
