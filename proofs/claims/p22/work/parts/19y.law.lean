/-! The constructors, the loop. Written by a program (wip/mk_c.py). -/
def mSafeR (st : List Value) : Bool := match st with
  | .int _ :: .ref a :: _ => Nat.blt a 1000
  | _ => false
def mSafeL (st : List Value) : Bool := match st with
  | .ref a :: _ => Nat.blt a 1000
  | _ => false
def mSafeI (ins : Instr) (st : List Value) : Bool := match ins with
  | .iaload => mSafeR st
  | .arraylength => mSafeL st
  | .baload => false
  | .getstatic _ => false
  | _ => true
def mSafeE (o : Option mE) (st : List Value) : Bool := match o with
  | some e => mSafeI e.1 st
  | none => true
def mSafe (T : Nat → mMt) (s : mSt) : Bool := mSafeE (mLook (mtCode (T s.2.1)) s.2.2.1) s.2.2.2.2.1
theorem mSafeR_e {st : List Value} (h : mSafeR st = true) : ∃ (i : Int32) (a : Nat) (r : List Value), st = .int i :: .ref a :: r ∧ Nat.blt a 1000 = true := by
  unfold mSafeR at h
  split at h
  · exact ⟨_, _, _, rfl, h⟩
  · cases h
theorem mSafeL_e {st : List Value} (h : mSafeL st = true) : ∃ (a : Nat) (r : List Value), st = .ref a :: r ∧ Nat.blt a 1000 = true := by
  unfold mSafeL at h
  split at h
  · exact ⟨_, _, rfl, h⟩
  · cases h
def mStepG (T : Nat → mMt) (ft : List (List Nat)) (s : mSt) : mOut := bif mSafe T s then mStep T ft mRo0 s else oBad
theorem mSafe_step {T : Nat → mMt} {ft : List (List Nat)} {ro : Nat → Nat × (Nat → Int32)} (s : mSt) (h : mSafe T s = true) : mStep T ft mRo0 s = mStep T ft ro s := by
  obtain ⟨d, M, pc, ml, st, ca, sl, hh⟩ := s
  have e1 : ∀ ro, mStep T ft ro (d, M, pc, ml, st, ca, sl, hh) = (match mLook (mtCode (T M)) pc with
    | some e => mDo T ft ro e d M ml st ca sl hh
    | none => oBad) := fun _ => rfl
  rw [e1, e1]
  have h : mSafeE (mLook (mtCode (T M)) pc) st = true := h
  cases hl : mLook (mtCode (T M)) pc with
  | none => rfl
  | some e =>
    obtain ⟨ins, nx, a, b, zi, zl, ts⟩ := e
    rw [hl] at h
    have h : mSafeI ins st = true := h
    show mDo T ft mRo0 (ins, nx, a, b, zi, zl, ts) d M ml st ca sl hh = mDo T ft ro (ins, nx, a, b, zi, zl, ts) d M ml st ca sl hh
    cases ins
    case iaload =>
      obtain ⟨i, q, r, e, hb⟩ := mSafeR_e h
      subst e
      show (bif Nat.blt q 1000 then _ else _) = (bif Nat.blt q 1000 then _ else _)
      rw [hb]
      rfl
    case arraylength =>
      obtain ⟨q, r, e, hb⟩ := mSafeL_e h
      subst e
      show (bif Nat.blt q 1000 then _ else _) = (bif Nat.blt q 1000 then _ else _)
      rw [hb]
      rfl
    case baload => cases h
    case getstatic => cases h
    all_goals rfl
theorem mStepG_e {T : Nat → mMt} {ft : List (List Nat)} (ro : Nat → Nat × (Nat → Int32)) (s : mSt) : mStepG T ft s = mStep T ft ro s ∨ mStepG T ft s = oBad := by
  unfold mStepG
  cases h : mSafe T s with
  | true => exact Or.inl (mSafe_step s h)
  | false => exact Or.inr rfl
def mRunG (T : Nat → mMt) (ft : List (List Nat)) (n : Nat) : mSt → Option (Option Value × mHp) := Nat.rec (motive := fun _ => mSt → Option (Option Value × mHp)) (fun _ => none) (fun _ w => fun s => match mStepG T ft s with
  | .inl s => w s
  | .inr (.inl (P, s)) => bif P then w s else none
  | .inr (.inr (.inl (c, s, t))) => bif c then w s else w t
  | .inr (.inr (.inr (.inl (s, k)))) => (match w s with
    | some (r, h) => w (k r h)
    | none => none)
  | .inr (.inr (.inr (.inr (.inl (P, r, h))))) => bif P then some (r, h) else none
  | _ => none) n
theorem mRunG.wp {T : Nat → mMt} {ft : List (List Nat)} {ro : Nat → Nat × (Nat → Int32)} : ∀ (n : Nat) (s : mSt) (r : Option Value) (h : mHp) (Q : mPo), mRunG T ft n s = some (r, h) → Q r h → mWP T ft ro s Q
  | 0, s, r, h, Q, g, _ => by cases g
  | n + 1, s, r, h, Q, g, hq => by
    refine mWP.fold ?_
    have g : (match mStepG T ft s with
      | .inl s => mRunG T ft n s
      | .inr (.inl (P, s)) => bif P then mRunG T ft n s else none
      | .inr (.inr (.inl (c, s, t))) => bif c then mRunG T ft n s else mRunG T ft n t
      | .inr (.inr (.inr (.inl (s, k)))) => (match mRunG T ft n s with
        | some (r, h) => mRunG T ft n (k r h)
        | none => none)
      | .inr (.inr (.inr (.inr (.inl (P, r, h))))) => bif P then some (r, h) else none
      | _ => none) = some (r, h) := g
    rcases mStepG_e ro s with e | e
    · rw [e] at g
      generalize mStep T ft ro s = o at g ⊢
      match o, g with
      | .inl s, g => exact mRunG.wp n s r h Q g hq
      | .inr (.inl (P, s)), g =>
        cases P with
        | true => exact ⟨rfl, mRunG.wp n s r h Q g hq⟩
        | false => cases g
      | .inr (.inr (.inl (c, s, t))), g =>
        cases c with
        | true => exact ⟨fun _ => mRunG.wp n s r h Q g hq, fun z => Bool.noConfusion z⟩
        | false => exact ⟨fun z => Bool.noConfusion z, fun _ => mRunG.wp n t r h Q g hq⟩
      | .inr (.inr (.inr (.inl (s, k)))), g =>
        cases hw : mRunG T ft n s with
        | none =>
          simp only [hw] at g
          cases g
        | some x =>
          obtain ⟨r1, h1⟩ := x
          simp only [hw] at g
          exact mRunG.wp n s r1 h1 _ hw (mRunG.wp n (k r1 h1) r h Q g hq)
      | .inr (.inr (.inr (.inr (.inl (P, r1, h1))))), g =>
        cases P with
        | true =>
          cases g
          exact ⟨rfl, hq⟩
        | false => cases g
      | .inr (.inr (.inr (.inr (.inr _)))), g => cases g
    · rw [e] at g
      cases g
abbrev mH0 : mHp := ([], mI0, mL0)
def mGet (o : Option (Option Value × mHp)) : mHp := match o with
  | some (_, h) => h
  | none => mH0
def mVoid (o : Option (Option Value × mHp)) : Bool := match o with
  | some (none, _) => true
  | _ => false
theorem mVoid_e {o : Option (Option Value × mHp)} (h : mVoid o = true) : o = some (none, mGet o) := by
  match o, h with
  | some (none, _), _ => rfl
def mRC : Option (Option Value × mHp) := mRunG mTb_ mFT 200 (10, 75, 0, [some (.ref 0)], [], 0, 0, ([(8, 0, mRange 12)], mNew mI0 0, mNewL mL0 0))
theorem mRC_v : mVoid mRC = true := by decide +kernel
theorem mRC_s : (mGet mRC).1 = mSH.take 34 := by decide +kernel
def mRD : Option (Option Value × mHp) := mRunG mTb_ mFT 200 (10, 111, 0, [some (.ref 34)], [], 0, 0, (mSH.take 34 ++ [(9, 0, mRange 24)], mNew (mGet mRC).2.1 34, mNewL (mGet mRC).2.2 34))
theorem mRD_v : mVoid mRD = true := by decide +kernel
theorem mRD_s : (mGet mRD).1 = mSH := by decide +kernel
def mF0 (I : Nat → Nat → Int32) : Prop := I 2 1 = 0 ∧ I 4 1 = 0 ∧ I 23 1 = 0 ∧ I 26 1 = 0 ∧ I 30 1 = 0 ∧ I 32 1 = 0 ∧ I 34 1 = 0 ∧ I 34 3 = 0 ∧ I 34 11 = 0 ∧ I 1 2 = 0 ∧ I 34 4 = 0 ∧ (∀ j, j < 23 → I 41 j = mWd.getD j 0) ∧ (∀ j, j < 154 → I 18 j = 0 ∧ I 19 j = 0) ∧ (I 37 0 = 0 ∧ I 37 1 = 1 ∧ I 37 2 = 99 ∧ I 37 3 = 1 ∧ I 38 0 = 0 ∧ I 38 1 = 1 ∧ I 38 2 = 5 ∧ I 7 0 = 0 ∧ I 7 1 = 1 ∧ I 7 2 = 99 ∧ I 7 3 = 1) ∧ (∀ j, j < 16 → I 3 j = I 35 j) ∧ (∀ j, j < 8 → I 5 j = I 36 j) ∧ (∀ j, j < 120 → I 27 j = I 40 j) ∧ (∀ j, j < 4 → I 6 j = I 37 j) ∧ (∀ j, j < 3 → I 9 j = I 38 j)
theorem mRD_f : mF0 (mGet mRD).2.1 := by
  unfold mF0
  decide +kernel
theorem mF0.r {I : Nat → Nat → Int32} (h : mF0 I) : mR I := by
  obtain ⟨z0, z1, z2, z3, z4, z5, z6, z7, z8, z9, z10, hw, hr, ⟨i0, i1, i2, i3, i4, i5, i6, i7, i8, i9, i10⟩, q0, q1, q2, q3, q4⟩ := h
  refine ⟨⟨mCn_z z0, mCn_z z1, mCn_z z2, mCn_z z3, mCn_z z4, mCn_z z5, fun j hj => ⟨Or.inl (hr j hj).1, Or.inl (hr j hj).2⟩⟩, ⟨0, 0, 0, ⟨z6, by omega⟩, ⟨z7, by omega⟩, ⟨z8, by omega⟩, fun j hj => absurd hj (Nat.not_lt_zero j), fun j hj => absurd hj (Nat.not_lt_zero j), hw⟩, ⟨⟨z0.trans z6.symm, z1.trans z7.symm, z9.trans z10.symm, z3.trans z8.symm⟩, q0, q1, q2, q3, q4⟩, Or.inl z10, fun j hj => ?_, ?_, i7, i8, i9, i10⟩
  · match j, hj with
    | 0, _ => rw [i0]; decide
    | 1, _ => rw [i1]; decide
    | 2, _ => rw [i2]; decide
    | 3, _ => rw [i3]; decide
  · rw [i4, i5, i6]; decide
theorem mHp_e {h : mHp} {s : List mSC} (e : h.1 = s) : h = (s, h.2.1, h.2.2) := by
  subst e
  rfl
/-- the objects are made -/
theorem p_made {ro : Nat → Nat × (Nat → Int32)} {Q : mPo} (k : mWP mTb_ mFT ro (11, 168, 16, [some (.ref 1000), some (.ref 0), some (.ref 34), none], [], 62, 3336, (mSH, (mGet mRD).2.1, (mGet mRD).2.2)) Q) : mWP mTb_ mFT ro (11, 168, 0, [some (.ref 1000), none, none, none], [], 0, 0, mH0) Q := by
  refine mB 2 (s2 := (11, 168, 4, [some (.ref 1000), none, none, none], [.ref 0, .ref 0], 1, 12, ([(8, 0, mRange 12)], mNew mI0 0, mNewL mL0 0))) rfl ?_
  refine mCall (s2 := (10, 75, 0, [some (.ref 0)], [], 0, 0, ([(8, 0, mRange 12)], mNew mI0 0, mNewL mL0 0))) rfl ?_
  refine mRunG.wp 200 _ none (mGet mRC) _ (mVoid_e mRC_v) ?_
  rw [mHp_e mRC_s]
  have hv := mRD_v
  have hs := mRD_s
  generalize he : mRD = rd at k hv hs
  unfold mRD at he
  generalize (mGet mRC).2.1 = IA at he ⊢
  generalize (mGet mRC).2.2 = LA at he ⊢
  show mWP mTb_ mFT ro (11, 168, 7, [some (.ref 1000), none, none, none], [.ref 0], 41, 3012, (mSH.take 34, IA, LA)) _
  refine mB 3 (s2 := (11, 168, 12, [some (.ref 1000), some (.ref 0), none, none], [.ref 34, .ref 34], 42, 3036, (mSH.take 34 ++ [(9, 0, mRange 24)], mNew IA 34, mNewL LA 34))) rfl ?_
  refine mCall (s2 := (10, 111, 0, [some (.ref 34)], [], 0, 0, (mSH.take 34 ++ [(9, 0, mRange 24)], mNew IA 34, mNewL LA 34))) rfl ?_
  refine mRunG.wp 200 _ none (mGet rd) _ (he.trans (mVoid_e hv)) ?_
  rw [mHp_e hs]
  generalize (mGet rd).2.1 = IB at k ⊢
  generalize (mGet rd).2.2 = LB at k ⊢
  show mWP mTb_ mFT ro (11, 168, 15, [some (.ref 1000), some (.ref 0), none, none], [.ref 34], 62, 3336, (mSH, IB, LB)) _
  exact mB 1 (s2 := (11, 168, 16, [some (.ref 1000), some (.ref 0), some (.ref 34), none], [], 62, 3336, (mSH, IB, LB))) rfl k

section LW
variable {ro : Nat → Nat × (Nat → Int32)} {Q : mPo} {I : Nat → Nat → Int32} {L : Nat → Nat → Int64}
theorem p_out (hq : ∀ h, Q (some (.int 1)) h) {x : Int32} (hx : Int32.ofNat (ro 0).1 - 4 < x) : mWP mTb_ mFT ro (11, 168, 18, [some (.ref 1000), some (.ref 0), some (.ref 34), some (.int x)], [], 62, 3336, (mSH, I, L)) Q := by
  refine mB 5 (s2 := (11, 168, 23, [some (.ref 1000), some (.ref 0), some (.ref 34), some (.int x)], [.int (Int32.ofNat (ro 0).1 - 4), .int x], 62, 3336, (mSH, I, L))) rfl ?_
  refine mBT (s2 := (11, 168, 813, [some (.ref 1000), some (.ref 0), some (.ref 34), some (.int x)], [], 62, 3336, (mSH, I, L))) rfl (decide_eq_true hx) ?_
  refine mB 1 (s2 := (11, 168, 814, [some (.ref 1000), some (.ref 0), some (.ref 34), some (.int x)], [.int 1], 62, 3336, (mSH, I, L))) rfl ?_
  exact mRt (r := some (.int 1)) (h := (mSH, I, L)) rfl rfl (hq _)
theorem p_call {i : Int32} (hR : mR I) (hJ : mRJ ro) (hB : mRB ro) (hx : ¬ Int32.ofNat (ro 0).1 - 4 < i) (hv0 : vp_in i (ro 0).1) (hv1 : vp_in (i + 1) (ro 0).1) (hv2 : vp_in (i + 2) (ro 0).1) (hv3 : vp_in (i + 3) (ro 0).1) (hq : ∀ I L, mR I → mWP mTb_ mFT ro (11, 168, 807, [some (.ref 1000), some (.ref 0), some (.ref 34), some (.int i)], [], 62, 3336, (mSH, I, L)) Q) : mWP mTb_ mFT ro (11, 168, 18, [some (.ref 1000), some (.ref 0), some (.ref 34), some (.int i)], [], 62, 3336, (mSH, I, L)) Q := by
  refine mB 5 (s2 := (11, 168, 23, [some (.ref 1000), some (.ref 0), some (.ref 34), some (.int i)], [.int (Int32.ofNat (ro 0).1 - 4), .int i], 62, 3336, (mSH, I, L))) rfl ?_
  refine mBF (s3 := (11, 168, 26, [some (.ref 1000), some (.ref 0), some (.ref 34), some (.int i)], [], 62, 3336, (mSH, I, L))) rfl (decide_eq_false hx) ?_
  refine mB 2 (s2 := (11, 168, 28, [some (.ref 1000), some (.ref 0), some (.ref 34), some (.int i)], [.int i, .ref 1000], 62, 3336, (mSH, I, L))) rfl ?_
  refine mRq (s2 := (11, 168, 29, [some (.ref 1000), some (.ref 0), some (.ref 34), some (.int i)], [.int ((ro 0).2 i.toNatClampNeg)], 62, 3336, (mSH, I, L))) rfl (mVp_of hv0) ?_
  refine mB 2 (s2 := (11, 168, 32, [some (.ref 1000), some (.ref 0), some (.ref 34), some (.int i)], [.int ((ro 0).2 i.toNatClampNeg &&& 31)], 62, 3336, (mSH, I, L))) rfl ?_
  generalize ((ro 0).2 i.toNatClampNeg &&& 31) = x
  refine mSwA (l := [(decide (x.toInt < 0 ∨ 26 < x.toInt), (11, 168, 807, [some (.ref 1000), some (.ref 0), some (.ref 34), some (.int i)], [], 62, 3336, (mSH, I, L))), (decide (x.toInt = 0), (11, 168, 156, [some (.ref 1000), some (.ref 0), some (.ref 34), some (.int i)], [], 62, 3336, (mSH, I, L))), (decide (x.toInt = 1), (11, 168, 179, [some (.ref 1000), some (.ref 0), some (.ref 34), some (.int i)], [], 62, 3336, (mSH, I, L))), (decide (x.toInt = 2), (11, 168, 202, [some (.ref 1000), some (.ref 0), some (.ref 34), some (.int i)], [], 62, 3336, (mSH, I, L))), (decide (x.toInt = 3), (11, 168, 225, [some (.ref 1000), some (.ref 0), some (.ref 34), some (.int i)], [], 62, 3336, (mSH, I, L))), (decide (x.toInt = 4), (11, 168, 268, [some (.ref 1000), some (.ref 0), some (.ref 34), some (.int i)], [], 62, 3336, (mSH, I, L))), (decide (x.toInt = 5), (11, 168, 291, [some (.ref 1000), some (.ref 0), some (.ref 34), some (.int i)], [], 62, 3336, (mSH, I, L))), (decide (x.toInt = 6), (11, 168, 324, [some (.ref 1000), some (.ref 0), some (.ref 34), some (.int i)], [], 62, 3336, (mSH, I, L))), (decide (x.toInt = 7), (11, 168, 367, [some (.ref 1000), some (.ref 0), some (.ref 34), some (.int i)], [], 62, 3336, (mSH, I, L))), (decide (x.toInt = 8), (11, 168, 400, [some (.ref 1000), some (.ref 0), some (.ref 34), some (.int i)], [], 62, 3336, (mSH, I, L))), (decide (x.toInt = 9), (11, 168, 443, [some (.ref 1000), some (.ref 0), some (.ref 34), some (.int i)], [], 62, 3336, (mSH, I, L))), (decide (x.toInt = 10), (11, 168, 476, [some (.ref 1000), some (.ref 0), some (.ref 34), some (.int i)], [], 62, 3336, (mSH, I, L))), (decide (x.toInt = 11), (11, 168, 509, [some (.ref 1000), some (.ref 0), some (.ref 34), some (.int i)], [], 62, 3336, (mSH, I, L))), (decide (x.toInt = 12), (11, 168, 522, [some (.ref 1000), some (.ref 0), some (.ref 34), some (.int i)], [], 62, 3336, (mSH, I, L))), (decide (x.toInt = 13), (11, 168, 535, [some (.ref 1000), some (.ref 0), some (.ref 34), some (.int i)], [], 62, 3336, (mSH, I, L))), (decide (x.toInt = 14), (11, 168, 548, [some (.ref 1000), some (.ref 0), some (.ref 34), some (.int i)], [], 62, 3336, (mSH, I, L))), (decide (x.toInt = 15), (11, 168, 571, [some (.ref 1000), some (.ref 0), some (.ref 34), some (.int i)], [], 62, 3336, (mSH, I, L))), (decide (x.toInt = 16), (11, 168, 594, [some (.ref 1000), some (.ref 0), some (.ref 34), some (.int i)], [], 62, 3336, (mSH, I, L))), (decide (x.toInt = 17), (11, 168, 607, [some (.ref 1000), some (.ref 0), some (.ref 34), some (.int i)], [], 62, 3336, (mSH, I, L))), (decide (x.toInt = 18), (11, 168, 630, [some (.ref 1000), some (.ref 0), some (.ref 34), some (.int i)], [], 62, 3336, (mSH, I, L))), (decide (x.toInt = 19), (11, 168, 653, [some (.ref 1000), some (.ref 0), some (.ref 34), some (.int i)], [], 62, 3336, (mSH, I, L))), (decide (x.toInt = 20), (11, 168, 676, [some (.ref 1000), some (.ref 0), some (.ref 34), some (.int i)], [], 62, 3336, (mSH, I, L))), (decide (x.toInt = 21), (11, 168, 699, [some (.ref 1000), some (.ref 0), some (.ref 34), some (.int i)], [], 62, 3336, (mSH, I, L))), (decide (x.toInt = 22), (11, 168, 722, [some (.ref 1000), some (.ref 0), some (.ref 34), some (.int i)], [], 62, 3336, (mSH, I, L))), (decide (x.toInt = 23), (11, 168, 745, [some (.ref 1000), some (.ref 0), some (.ref 34), some (.int i)], [], 62, 3336, (mSH, I, L))), (decide (x.toInt = 24), (11, 168, 758, [some (.ref 1000), some (.ref 0), some (.ref 34), some (.int i)], [], 62, 3336, (mSH, I, L))), (decide (x.toInt = 25), (11, 168, 771, [some (.ref 1000), some (.ref 0), some (.ref 34), some (.int i)], [], 62, 3336, (mSH, I, L))), (decide (x.toInt = 26), (11, 168, 794, [some (.ref 1000), some (.ref 0), some (.ref 34), some (.int i)], [], 62, 3336, (mSH, I, L)))]) rfl ⟨fun _ => ?_, fun _ => ?_, fun _ => ?_, fun _ => ?_, fun _ => ?_, fun _ => ?_, fun _ => ?_, fun _ => ?_, fun _ => ?_, fun _ => ?_, fun _ => ?_, fun _ => ?_, fun _ => ?_, fun _ => ?_, fun _ => ?_, fun _ => ?_, fun _ => ?_, fun _ => ?_, fun _ => ?_, fun _ => ?_, fun _ => ?_, fun _ => ?_, fun _ => ?_, fun _ => ?_, fun _ => ?_, fun _ => ?_, fun _ => ?_, fun _ => ?_, trivial⟩
  · exact hq _ _ hR
  · exact c_span hR hJ hB hv1 hv2 hv3 hq
  · exact c_layer hR hJ hB hv1 hv2 hv3 hq
  · exact c_points hR hJ hB hv1 hv2 hv3 hq
  · exact c_sets hR hJ hB hv1 hv2 hv3 hq
  · exact c_empties hR hJ hB hv1 hv2 hv3 hq
  · exact c_draw hR hJ hB hv1 hv2 hv3 hq
  · exact c_bound hR hJ hB hv1 hv2 hv3 hq
  · exact c_judge hR hJ hB hv1 hv2 hv3 hq
  · exact c_misfit hR hJ hB hv1 hv2 hv3 hq
  · exact c_match hR hJ hB hv1 hv2 hv3 hq
  · exact c_block hR hJ hB hv1 hv2 hv3 hq
  · exact c_many hR hJ hB hv1 hv2 hv3 hq
  · exact c_alike hR hJ hB hv1 hv2 hv3 hq
  · exact c_begins hR hJ hB hv1 hv2 hv3 hq
  · exact c_from hR hJ hB hv1 hv2 hv3 hq
  · exact c_mildest hR hJ hB hv1 hv2 hv3 hq
  · exact c_unbound hR hJ hB hv1 hv2 hv3 hq
  · exact c_age hR hJ hB hv1 hv2 hv3 hq
  · exact c_depth hR hJ hB hv1 hv2 hv3 hq
  · exact c_rate hR hJ hB hv1 hv2 hv3 hq
  · exact c_fastest hR hJ hB hv1 hv2 hv3 hq
  · exact c_part hR hJ hB hv1 hv2 hv3 hq
  · exact c_type hR hJ hB hv1 hv2 hv3 hq
  · exact c_clear hR hJ hB hv1 hv2 hv3 hq
  · exact c_reads hR hJ hB hv1 hv2 hv3 hq
  · exact c_told hR hJ hB hv1 hv2 hv3 hq
  · exact c_digest hR hJ hB hv1 hv2 hv3 hq
theorem p_loop (hq : ∀ h, Q (some (.int 1)) h) (hJ : mRJ ro) (hB : mRB ro) (hN : (ro 0).1 ≤ 100000) : ∀ (e k : Nat) (I : Nat → Nat → Int32) (L : Nat → Nat → Int64), mR I → (ro 0).1 ≤ 4 * k + 4 * e → 4 * k ≤ 100010 → mWP mTb_ mFT ro (11, 168, 18, [some (.ref 1000), some (.ref 0), some (.ref 34), some (.int (nI (4 * k)))], [], 62, 3336, (mSH, I, L)) Q := by
  have ti : (Int32.ofNat (ro 0).1 - 4).toInt = ((ro 0).1 : Int) - 4 := pk_sub_toInt (a := (ro 0).1) (b := 4) (by omega) (by omega)
  have lt : ∀ k, 4 * k ≤ 100010 → (Int32.ofNat (ro 0).1 - 4 < nI (4 * k) ↔ (ro 0).1 < 4 * k + 4) := fun k hk => by
    rw [Int32.lt_iff_toInt_lt, ti, nI_toInt (by omega)]
    omega
  intro e
  induction e with
  | zero =>
    intro k I L hR h1 h2
    exact p_out hq ((lt k h2).mpr (by omega))
  | succ e ih =>
    intro k I L hR h1 h2
    by_cases c : (ro 0).1 < 4 * k + 4
    · exact p_out hq ((lt k h2).mpr c)
    · have ad : ∀ j, j < 4 → vp_in (nI (4 * k) + nI j) (ro 0).1 := fun j hj => by
        rw [nI_add]
        exact vp_in_nI (by omega) (by omega)
      refine p_call hR hJ hB (fun z => c ((lt k h2).mp z)) (vp_in_nI (by omega) (by omega)) (ad 1 (by omega)) (ad 2 (by omega)) (ad 3 (by omega)) (fun I L hR => ?_)
      refine mB 2 (s2 := (11, 168, 18, [some (.ref 1000), some (.ref 0), some (.ref 34), some (.int (nI (4 * k) + 4))], [], 62, 3336, (mSH, I, L))) rfl ?_
      have e4 : nI (4 * k) + 4 = nI (4 * (k + 1)) := by
        rw [show (4 : Int32) = nI 4 from rfl, nI_add]
        congr 1
      rw [e4]
      exact ih (k + 1) I L hR (by omega) (by omega)
end LW
/-- the law answers 1 on every script -/
theorem p_law {ro : Nat → Nat × (Nat → Int32)} {Q : mPo} (hq : ∀ h, Q (some (.int 1)) h) (hJ : mRJ ro) (hB : mRB ro) (hN : (ro 0).1 ≤ 100000) : mWP mTb_ mFT ro (11, 168, 0, [some (.ref 1000), none, none, none], [], 0, 0, mH0) Q := by
  refine p_made ?_
  have hF := mRD_f
  generalize (mGet mRD).2.1 = I at hF ⊢
  generalize (mGet mRD).2.2 = L at hF ⊢
  refine mB 2 (s2 := (11, 168, 18, [some (.ref 1000), some (.ref 0), some (.ref 34), some (.int (nI (4 * 0)))], [], 62, 3336, (mSH, I, L))) rfl ?_
  exact p_loop hq hJ hB hN (ro 0).1 0 I L hF.r (by omega) (by omega)
