/-! p1: draw on the fresh objects; written by a program (wip/mk_draw2.py). -/
def mNine : Nat := 9
def mD (sd n : Int32) : Int32 := mDL n mNine (mIt n.toNatClampNeg sd.toInt64) (nI 0) (nI 0)
theorem s_ds0 {ro : Nat → Nat × (Nat → Int32)} {Q : mPo} {d : Nat} {I : Nat → Nat → Int32} {L : Nat → Nat → Int64} {sd n : Int32}  (h1 : mWP mTb_ mFT ro (d + 2, 72, 14, [some (.ref 1), some (.int sd), some (.int n), some (.long ((sd : Int32).toInt64)), none, some (.int 0)], [], 0, 0, (mSH, (mUp I 2 1 0), L)) Q) : mWP mTb_ mFT ro (d + 2, 72, 0, [some (.ref 1), some (.int sd), some (.int n), none, none, none], [], 0, 0, (mSH, I, L)) Q := by
  refine mB 5 (s2 := (d + 2, 72, 7, [some (.ref 1), some (.int sd), some (.int n), some (.long ((sd : Int32).toInt64)), none, none], [.ref 2], 0, 0, (mSH, I, L))) rfl ?_
  refine mCall (s2 := (d + 1, 45, 0, [some (.ref 2), none], [], 0, 0, (mSH, I, L))) rfl ?_
  refine mB 7 (s2 := (d + 1, 45, 11, [some (.ref 2), some (.int (I 2 1))], [.int (I 2 1)], 0, 0, (mSH, (mUp I 2 1 0), L))) rfl ?_
  refine mRt (r := (some (.int (I 2 1)))) (h := (mSH, (mUp I 2 1 0), L)) rfl (mRet_int rfl) ?_
  show mWP mTb_ mFT ro (d + 2, 72, 10, [some (.ref 1), some (.int sd), some (.int n), some (.long ((sd : Int32).toInt64)), none, none], [.int (I 2 1)], 0, 0, (mSH, (mUp I 2 1 0), L)) _
  refine mB 3 (s2 := (d + 2, 72, 14, [some (.ref 1), some (.int sd), some (.int n), some (.long ((sd : Int32).toInt64)), none, some (.int 0)], [], 0, 0, (mSH, (mUp I 2 1 0), L))) rfl ?_
  exact h1
theorem s_dl0 {ro : Nat → Nat × (Nat → Int32)} {Q : mPo} {d : Nat} {I : Nat → Nat → Int32} {L : Nat → Nat → Int64} {dr : Int64}  (h1 : mWP mTb_ mFT ro (d + 2, 73, 16, [some (.ref 1), some (.long dr), none, some (.long dr), none, some (.int 0), some (.int 0), none, none], [], 0, 0, (mSH, (mUp I 4 1 0), L)) Q) : mWP mTb_ mFT ro (d + 2, 73, 0, [some (.ref 1), some (.long dr), none, none, none, none, none, none, none], [], 0, 0, (mSH, I, L)) Q := by
  refine mB 6 (s2 := (d + 2, 73, 9, [some (.ref 1), some (.long dr), none, some (.long dr), none, some (.int 0), none, none, none], [.ref 4], 0, 0, (mSH, I, L))) rfl ?_
  refine mCall (s2 := (d + 1, 45, 0, [some (.ref 4), none], [], 0, 0, (mSH, I, L))) rfl ?_
  refine mB 7 (s2 := (d + 1, 45, 11, [some (.ref 4), some (.int (I 4 1))], [.int (I 4 1)], 0, 0, (mSH, (mUp I 4 1 0), L))) rfl ?_
  refine mRt (r := (some (.int (I 4 1)))) (h := (mSH, (mUp I 4 1 0), L)) rfl (mRet_int rfl) ?_
  show mWP mTb_ mFT ro (d + 2, 73, 12, [some (.ref 1), some (.long dr), none, some (.long dr), none, some (.int 0), none, none, none], [.int (I 4 1)], 0, 0, (mSH, (mUp I 4 1 0), L)) _
  refine mB 3 (s2 := (d + 2, 73, 16, [some (.ref 1), some (.long dr), none, some (.long dr), none, some (.int 0), some (.int 0), none, none], [], 0, 0, (mSH, (mUp I 4 1 0), L))) rfl ?_
  exact h1
theorem s_md0 {ro : Nat → Nat × (Nat → Int32)} {Q : mPo} {d : Nat} {I : Nat → Nat → Int32} {L : Nat → Nat → Int64} {sd n : Int32}  (h1 : (sd < 0) → Q (some (.int (-2))) (mSH, (mUp I 39 0 ((I 39 0) + 1)), L)) (h2 : ¬ (sd < 0) → ((999999 : Int32) < sd) → Q (some (.int (-2))) (mSH, (mUp I 39 0 ((I 39 0) + 1)), L)) (h3 : ¬ (sd < 0) → ¬ ((999999 : Int32) < sd) → (n < 1) → Q (some (.int (-2))) (mSH, (mUp I 39 0 ((I 39 0) + 1)), L)) (h4 : ¬ (sd < 0) → ¬ ((999999 : Int32) < sd) → ¬ (n < 1) → ((16 : Int32) < n) → Q (some (.int (-2))) (mSH, (mUp I 39 0 ((I 39 0) + 1)), L)) (h5 : ¬ (sd < 0) → ¬ ((999999 : Int32) < sd) → ¬ (n < 1) → ¬ ((16 : Int32) < n) → mWP mTb_ mFT ro (d + 1, 121, 33, [some (.ref 34), some (.int sd), some (.int n), some (.long ((sd : Int32).toInt64)), none, some (.int 0), none, none], [], 0, 0, (mSH, I, L)) Q) : mWP mTb_ mFT ro (d + 1, 121, 0, [some (.ref 34), some (.int sd), some (.int n), none, none, none, none, none], [], 0, 0, (mSH, I, L)) Q := by
  refine mB 3 (s2 := (d + 1, 121, 4, [some (.ref 34), some (.int sd), some (.int n), none, none, none, none, none], [.int 999999, .int 0, .int sd], 0, 0, (mSH, I, L))) rfl ?_
  refine mCall (s2 := (d, 112, 0, [some (.int sd), some (.int 0), some (.int 999999)], [], 0, 0, (mSH, I, L))) rfl ?_
  refine mB 2 (s2 := (d, 112, 2, [some (.int sd), some (.int 0), some (.int 999999)], [.int 0, .int sd], 0, 0, (mSH, I, L))) rfl ?_
  refine mBr (s2 := (d, 112, 14, [some (.int sd), some (.int 0), some (.int 999999)], [], 0, 0, (mSH, I, L))) (s3 := (d, 112, 5, [some (.int sd), some (.int 0), some (.int 999999)], [], 0, 0, (mSH, I, L))) rfl (fun c0 => ?_) (fun c0 => ?_)
  · refine mB 1 (s2 := (d, 112, 15, [some (.int sd), some (.int 0), some (.int 999999)], [.int 0], 0, 0, (mSH, I, L))) rfl ?_
    refine mRt (r := (some (.int 0))) (h := (mSH, I, L)) rfl rfl ?_
    show mWP mTb_ mFT ro (d + 1, 121, 7, [some (.ref 34), some (.int sd), some (.int n), none, none, none, none, none], [.int 0], 0, 0, (mSH, I, L)) _
    refine mBT (s2 := (d + 1, 121, 20, [some (.ref 34), some (.int sd), some (.int n), none, none, none, none, none], [], 0, 0, (mSH, I, L))) rfl (by decide) ?_
    refine mB 2 (s2 := (d + 1, 121, 23, [some (.ref 34), some (.int sd), some (.int n), none, none, none, none, none], [.int (-2), .ref 34], 0, 0, (mSH, I, L))) rfl ?_
    refine mCall (s2 := (d, 113, 0, [some (.ref 34), some (.int (-2))], [], 0, 0, (mSH, I, L))) rfl ?_
    refine mB 6 (s2 := (d, 113, 9, [some (.ref 34), some (.int (-2))], [.int 0, .ref 39, .int 0, .ref 39], 0, 0, (mSH, I, L))) rfl ?_
    refine mRq (s2 := (d, 113, 10, [some (.ref 34), some (.int (-2))], [.int (I 39 0), .int 0, .ref 39], 0, 0, (mSH, I, L))) rfl (by decide) ?_
    refine mB 2 (s2 := (d, 113, 12, [some (.ref 34), some (.int (-2))], [.int ((I 39 0) + 1), .int 0, .ref 39], 0, 0, (mSH, I, L))) rfl ?_
    refine mRq (s2 := (d, 113, 13, [some (.ref 34), some (.int (-2))], [], 0, 0, (mSH, (mUp I 39 0 ((I 39 0) + 1)), L))) rfl (by decide) ?_
    refine mB 1 (s2 := (d, 113, 14, [some (.ref 34), some (.int (-2))], [.int (-2)], 0, 0, (mSH, (mUp I 39 0 ((I 39 0) + 1)), L))) rfl ?_
    refine mRt (r := (some (.int (-2)))) (h := (mSH, (mUp I 39 0 ((I 39 0) + 1)), L)) rfl (mRet_int rfl) ?_
    show mWP mTb_ mFT ro (d + 1, 121, 26, [some (.ref 34), some (.int sd), some (.int n), none, none, none, none, none], [.int (-2)], 0, 0, (mSH, (mUp I 39 0 ((I 39 0) + 1)), L)) _
    refine mRt (r := (some (.int (-2)))) (h := (mSH, (mUp I 39 0 ((I 39 0) + 1)), L)) rfl (mRet_int rfl) ?_
    exact h1 (of_decide_eq_true c0)
  · refine mB 2 (s2 := (d, 112, 7, [some (.int sd), some (.int 0), some (.int 999999)], [.int 999999, .int sd], 0, 0, (mSH, I, L))) rfl ?_
    refine mBr (s2 := (d, 112, 14, [some (.int sd), some (.int 0), some (.int 999999)], [], 0, 0, (mSH, I, L))) (s3 := (d, 112, 10, [some (.int sd), some (.int 0), some (.int 999999)], [], 0, 0, (mSH, I, L))) rfl (fun c1 => ?_) (fun c1 => ?_)
    · refine mB 1 (s2 := (d, 112, 15, [some (.int sd), some (.int 0), some (.int 999999)], [.int 0], 0, 0, (mSH, I, L))) rfl ?_
      refine mRt (r := (some (.int 0))) (h := (mSH, I, L)) rfl rfl ?_
      show mWP mTb_ mFT ro (d + 1, 121, 7, [some (.ref 34), some (.int sd), some (.int n), none, none, none, none, none], [.int 0], 0, 0, (mSH, I, L)) _
      refine mBT (s2 := (d + 1, 121, 20, [some (.ref 34), some (.int sd), some (.int n), none, none, none, none, none], [], 0, 0, (mSH, I, L))) rfl (by decide) ?_
      refine mB 2 (s2 := (d + 1, 121, 23, [some (.ref 34), some (.int sd), some (.int n), none, none, none, none, none], [.int (-2), .ref 34], 0, 0, (mSH, I, L))) rfl ?_
      refine mCall (s2 := (d, 113, 0, [some (.ref 34), some (.int (-2))], [], 0, 0, (mSH, I, L))) rfl ?_
      refine mB 6 (s2 := (d, 113, 9, [some (.ref 34), some (.int (-2))], [.int 0, .ref 39, .int 0, .ref 39], 0, 0, (mSH, I, L))) rfl ?_
      refine mRq (s2 := (d, 113, 10, [some (.ref 34), some (.int (-2))], [.int (I 39 0), .int 0, .ref 39], 0, 0, (mSH, I, L))) rfl (by decide) ?_
      refine mB 2 (s2 := (d, 113, 12, [some (.ref 34), some (.int (-2))], [.int ((I 39 0) + 1), .int 0, .ref 39], 0, 0, (mSH, I, L))) rfl ?_
      refine mRq (s2 := (d, 113, 13, [some (.ref 34), some (.int (-2))], [], 0, 0, (mSH, (mUp I 39 0 ((I 39 0) + 1)), L))) rfl (by decide) ?_
      refine mB 1 (s2 := (d, 113, 14, [some (.ref 34), some (.int (-2))], [.int (-2)], 0, 0, (mSH, (mUp I 39 0 ((I 39 0) + 1)), L))) rfl ?_
      refine mRt (r := (some (.int (-2)))) (h := (mSH, (mUp I 39 0 ((I 39 0) + 1)), L)) rfl (mRet_int rfl) ?_
      show mWP mTb_ mFT ro (d + 1, 121, 26, [some (.ref 34), some (.int sd), some (.int n), none, none, none, none, none], [.int (-2)], 0, 0, (mSH, (mUp I 39 0 ((I 39 0) + 1)), L)) _
      refine mRt (r := (some (.int (-2)))) (h := (mSH, (mUp I 39 0 ((I 39 0) + 1)), L)) rfl (mRet_int rfl) ?_
      exact h2 (of_decide_eq_false c0) (of_decide_eq_true c1)
    · refine mB 2 (s2 := (d, 112, 15, [some (.int sd), some (.int 0), some (.int 999999)], [.int 1], 0, 0, (mSH, I, L))) rfl ?_
      refine mRt (r := (some (.int 1))) (h := (mSH, I, L)) rfl rfl ?_
      show mWP mTb_ mFT ro (d + 1, 121, 7, [some (.ref 34), some (.int sd), some (.int n), none, none, none, none, none], [.int 1], 0, 0, (mSH, I, L)) _
      refine mBF (s3 := (d + 1, 121, 10, [some (.ref 34), some (.int sd), some (.int n), none, none, none, none, none], [], 0, 0, (mSH, I, L))) rfl (by decide) ?_
      refine mB 3 (s2 := (d + 1, 121, 14, [some (.ref 34), some (.int sd), some (.int n), none, none, none, none, none], [.int 16, .int 1, .int n], 0, 0, (mSH, I, L))) rfl ?_
      refine mCall (s2 := (d, 112, 0, [some (.int n), some (.int 1), some (.int 16)], [], 0, 0, (mSH, I, L))) rfl ?_
      refine mB 2 (s2 := (d, 112, 2, [some (.int n), some (.int 1), some (.int 16)], [.int 1, .int n], 0, 0, (mSH, I, L))) rfl ?_
      refine mBr (s2 := (d, 112, 14, [some (.int n), some (.int 1), some (.int 16)], [], 0, 0, (mSH, I, L))) (s3 := (d, 112, 5, [some (.int n), some (.int 1), some (.int 16)], [], 0, 0, (mSH, I, L))) rfl (fun c2 => ?_) (fun c2 => ?_)
      · refine mB 1 (s2 := (d, 112, 15, [some (.int n), some (.int 1), some (.int 16)], [.int 0], 0, 0, (mSH, I, L))) rfl ?_
        refine mRt (r := (some (.int 0))) (h := (mSH, I, L)) rfl rfl ?_
        show mWP mTb_ mFT ro (d + 1, 121, 17, [some (.ref 34), some (.int sd), some (.int n), none, none, none, none, none], [.int 0], 0, 0, (mSH, I, L)) _
        refine mBT (s2 := (d + 1, 121, 20, [some (.ref 34), some (.int sd), some (.int n), none, none, none, none, none], [], 0, 0, (mSH, I, L))) rfl (by decide) ?_
        refine mB 2 (s2 := (d + 1, 121, 23, [some (.ref 34), some (.int sd), some (.int n), none, none, none, none, none], [.int (-2), .ref 34], 0, 0, (mSH, I, L))) rfl ?_
        refine mCall (s2 := (d, 113, 0, [some (.ref 34), some (.int (-2))], [], 0, 0, (mSH, I, L))) rfl ?_
        refine mB 6 (s2 := (d, 113, 9, [some (.ref 34), some (.int (-2))], [.int 0, .ref 39, .int 0, .ref 39], 0, 0, (mSH, I, L))) rfl ?_
        refine mRq (s2 := (d, 113, 10, [some (.ref 34), some (.int (-2))], [.int (I 39 0), .int 0, .ref 39], 0, 0, (mSH, I, L))) rfl (by decide) ?_
        refine mB 2 (s2 := (d, 113, 12, [some (.ref 34), some (.int (-2))], [.int ((I 39 0) + 1), .int 0, .ref 39], 0, 0, (mSH, I, L))) rfl ?_
        refine mRq (s2 := (d, 113, 13, [some (.ref 34), some (.int (-2))], [], 0, 0, (mSH, (mUp I 39 0 ((I 39 0) + 1)), L))) rfl (by decide) ?_
        refine mB 1 (s2 := (d, 113, 14, [some (.ref 34), some (.int (-2))], [.int (-2)], 0, 0, (mSH, (mUp I 39 0 ((I 39 0) + 1)), L))) rfl ?_
        refine mRt (r := (some (.int (-2)))) (h := (mSH, (mUp I 39 0 ((I 39 0) + 1)), L)) rfl (mRet_int rfl) ?_
        show mWP mTb_ mFT ro (d + 1, 121, 26, [some (.ref 34), some (.int sd), some (.int n), none, none, none, none, none], [.int (-2)], 0, 0, (mSH, (mUp I 39 0 ((I 39 0) + 1)), L)) _
        refine mRt (r := (some (.int (-2)))) (h := (mSH, (mUp I 39 0 ((I 39 0) + 1)), L)) rfl (mRet_int rfl) ?_
        exact h3 (of_decide_eq_false c0) (of_decide_eq_false c1) (of_decide_eq_true c2)
      · refine mB 2 (s2 := (d, 112, 7, [some (.int n), some (.int 1), some (.int 16)], [.int 16, .int n], 0, 0, (mSH, I, L))) rfl ?_
        refine mBr (s2 := (d, 112, 14, [some (.int n), some (.int 1), some (.int 16)], [], 0, 0, (mSH, I, L))) (s3 := (d, 112, 10, [some (.int n), some (.int 1), some (.int 16)], [], 0, 0, (mSH, I, L))) rfl (fun c3 => ?_) (fun c3 => ?_)
        · refine mB 1 (s2 := (d, 112, 15, [some (.int n), some (.int 1), some (.int 16)], [.int 0], 0, 0, (mSH, I, L))) rfl ?_
          refine mRt (r := (some (.int 0))) (h := (mSH, I, L)) rfl rfl ?_
          show mWP mTb_ mFT ro (d + 1, 121, 17, [some (.ref 34), some (.int sd), some (.int n), none, none, none, none, none], [.int 0], 0, 0, (mSH, I, L)) _
          refine mBT (s2 := (d + 1, 121, 20, [some (.ref 34), some (.int sd), some (.int n), none, none, none, none, none], [], 0, 0, (mSH, I, L))) rfl (by decide) ?_
          refine mB 2 (s2 := (d + 1, 121, 23, [some (.ref 34), some (.int sd), some (.int n), none, none, none, none, none], [.int (-2), .ref 34], 0, 0, (mSH, I, L))) rfl ?_
          refine mCall (s2 := (d, 113, 0, [some (.ref 34), some (.int (-2))], [], 0, 0, (mSH, I, L))) rfl ?_
          refine mB 6 (s2 := (d, 113, 9, [some (.ref 34), some (.int (-2))], [.int 0, .ref 39, .int 0, .ref 39], 0, 0, (mSH, I, L))) rfl ?_
          refine mRq (s2 := (d, 113, 10, [some (.ref 34), some (.int (-2))], [.int (I 39 0), .int 0, .ref 39], 0, 0, (mSH, I, L))) rfl (by decide) ?_
          refine mB 2 (s2 := (d, 113, 12, [some (.ref 34), some (.int (-2))], [.int ((I 39 0) + 1), .int 0, .ref 39], 0, 0, (mSH, I, L))) rfl ?_
          refine mRq (s2 := (d, 113, 13, [some (.ref 34), some (.int (-2))], [], 0, 0, (mSH, (mUp I 39 0 ((I 39 0) + 1)), L))) rfl (by decide) ?_
          refine mB 1 (s2 := (d, 113, 14, [some (.ref 34), some (.int (-2))], [.int (-2)], 0, 0, (mSH, (mUp I 39 0 ((I 39 0) + 1)), L))) rfl ?_
          refine mRt (r := (some (.int (-2)))) (h := (mSH, (mUp I 39 0 ((I 39 0) + 1)), L)) rfl (mRet_int rfl) ?_
          show mWP mTb_ mFT ro (d + 1, 121, 26, [some (.ref 34), some (.int sd), some (.int n), none, none, none, none, none], [.int (-2)], 0, 0, (mSH, (mUp I 39 0 ((I 39 0) + 1)), L)) _
          refine mRt (r := (some (.int (-2)))) (h := (mSH, (mUp I 39 0 ((I 39 0) + 1)), L)) rfl (mRet_int rfl) ?_
          exact h4 (of_decide_eq_false c0) (of_decide_eq_false c1) (of_decide_eq_false c2) (of_decide_eq_true c3)
        · refine mB 2 (s2 := (d, 112, 15, [some (.int n), some (.int 1), some (.int 16)], [.int 1], 0, 0, (mSH, I, L))) rfl ?_
          refine mRt (r := (some (.int 1))) (h := (mSH, I, L)) rfl rfl ?_
          show mWP mTb_ mFT ro (d + 1, 121, 17, [some (.ref 34), some (.int sd), some (.int n), none, none, none, none, none], [.int 1], 0, 0, (mSH, I, L)) _
          refine mBF (s3 := (d + 1, 121, 27, [some (.ref 34), some (.int sd), some (.int n), none, none, none, none, none], [], 0, 0, (mSH, I, L))) rfl (by decide) ?_
          refine mB 5 (s2 := (d + 1, 121, 33, [some (.ref 34), some (.int sd), some (.int n), some (.long ((sd : Int32).toInt64)), none, some (.int 0), none, none], [], 0, 0, (mSH, I, L))) rfl ?_
          exact h5 (of_decide_eq_false c0) (of_decide_eq_false c1) (of_decide_eq_false c2) (of_decide_eq_false c3)
section DR2
variable {ro : Nat → Nat × (Nat → Int32)} {Q : mPo} {d : Nat} {L : Nat → Nat → Int64} {I : Nat → Nat → Int32} {sd n : Int32}
theorem mNn (h1 : ¬ n < 1) (h2 : n ≤ 16) : n = nI n.toNatClampNeg ∧ n.toNatClampNeg ≤ 16 := by
  obtain ⟨j, hj, e⟩ := nI_of2 (x := n) (M := 16) (n := 16) rfl (fun c => h1 (Int32.lt_iff_toInt_lt.mpr (by have := Int32.lt_iff_toInt_lt.mp c; simp only [mLi0, mLi1] at *; omega))) h2
  subst e
  rw [nI_clamp (by omega)]
  exact ⟨rfl, hj⟩
theorem w_bd (h1 : ¬ n < 1) (h2 : n ≤ 16) (hq : ∀ J : Nat → Nat → Int32, J 4 1 = mD sd n → Q none (mSH, J, L)) : mWP mTb_ mFT ro (d + 3, 71, 0, [some (.ref 1), some (.int sd), some (.int n), none, none], [], 0, 0, (mSH, I, L)) Q := by
  obtain ⟨hn, hN⟩ := mNn h1 h2
  unfold mD at hq
  generalize n.toNatClampNeg = N at hn hN hq
  subst hn
  generalize hf : mNine = f at hq
  have hf : 8 < f := by
    rw [← hf]
    exact (by decide : 8 < 9)
  refine mB 3 (s2 := (d + 3, 71, 3, [some (.ref 1), some (.int sd), some (.int (nI N)), none, none], [.int (nI N), .int sd, .ref 1], 0, 0, (mSH, I, L))) rfl ?_
  refine mCall (s2 := (d + 2, 72, 0, [some (.ref 1), some (.int sd), some (.int (nI N)), none, none, none], [], 0, 0, (mSH, I, L))) rfl ?_
  refine s_ds0 ?_
  refine w_drawSpans hN N 0 _ _ (by omega) rfl (fun I' g1 g2 => ?_)
  show mWP mTb_ mFT ro (d + 3, 71, 6, [some (.ref 1), some (.int sd), some (.int (nI N)), none, none], [.long (mIt N sd.toInt64)], 0, 0, (mSH, I', L)) _
  generalize mIt N sd.toInt64 = y at hq
  refine mB 3 (s2 := (d + 3, 71, 9, [some (.ref 1), some (.int sd), some (.int (nI N)), some (.long y), none], [.long y, .ref 1], 0, 0, (mSH, I', L))) rfl ?_
  refine mCall (s2 := (d + 2, 73, 0, [some (.ref 1), some (.long y), none, none, none, none, none, none, none], [], 0, 0, (mSH, I', L))) rfl ?_
  refine s_dl0 ?_
  refine w_drawLayers hN f y 0 0 _ _ _ (by omega) (by omega) g1 rfl (fun J k1 k2 => ?_)
  show mWP mTb_ mFT ro (d + 3, 71, 12, [some (.ref 1), some (.int sd), some (.int (nI N)), some (.long y), none], [], 0, 0, (mSH, J, L)) _
  refine mB 3 (s2 := (d + 3, 71, 17, [some (.ref 1), some (.int sd), some (.int (nI N)), some (.long y), none], [], 0, 0, (mSH, mUp J 1 2 0, L))) rfl ?_
  refine mRt (r := none) (h := (mSH, mUp J 1 2 0, L)) rfl rfl ?_
  exact hq _ k1
theorem w_md (s1 : ¬ sd < 0) (s2 : ¬ (999999 : Int32) < sd) (h1 : ¬ n < 1) (h2 : n ≤ 16) (hq : ∀ J : Nat → Nat → Int32, Q (some (.int (mD sd n))) (mSH, J, L)) : mWP mTb_ mFT ro (d + 1, 121, 0, [some (.ref 34), some (.int sd), some (.int n), none, none, none, none, none], [], 0, 0, (mSH, I, L)) Q := by
  have h3 : ¬ (16 : Int32) < n := fun c => by
    have a := Int32.lt_iff_toInt_lt.mp c
    have b := Int32.le_iff_toInt_le.mp h2
    omega
  apply s_md0
  all_goals first | exact fun c => absurd c s1 | exact fun _ c => absurd c s2 | exact fun _ c _ => absurd c s2 | exact fun _ _ c => absurd c h1 | exact fun _ _ _ c => absurd c h3 | exact fun _ c => absurd s2 c | skip
  all_goals intros
  obtain ⟨hn, hN⟩ := mNn h1 h2
  unfold mD at hq
  generalize n.toNatClampNeg = N at hn hN hq
  subst hn
  generalize hf : mNine = f at hq
  have hf : 8 < f := by
    rw [← hf]
    exact (by decide : 8 < 9)
  exact w_mdraw1 hN f hf N 0 _ _ (by omega) hq
end DR2
theorem p1_draw {ro : Nat → Nat × (Nat → Int32)} {Q : mPo} {I : Nat → Nat → Int32} {L : Nat → Nat → Int64} (hF : mFF I L) (hR : mRO ro) (h1 : (((ro 0).2 1) < 0) → mWP mTb_ mFT ro (11, 163, 808, [some (.ref 1000), some (.ref 0), some (.ref 34), some (.int 0)], [], 62, 3336, (mSH, (mUp (mUp I 0 9 ((I 0 9) + 1)) 39 0 ((I 39 0) + 1)), L)) Q) (h2 : ¬ (((ro 0).2 1) < 0) → ((999999 : Int32) < ((ro 0).2 1)) → mWP mTb_ mFT ro (11, 163, 808, [some (.ref 1000), some (.ref 0), some (.ref 34), some (.int 0)], [], 62, 3336, (mSH, (mUp (mUp I 0 9 ((I 0 9) + 1)) 39 0 ((I 39 0) + 1)), L)) Q) (h3 : ¬ (((ro 0).2 1) < 0) → ¬ ((999999 : Int32) < ((ro 0).2 1)) → (((ro 0).2 2) < 1) → mWP mTb_ mFT ro (11, 163, 808, [some (.ref 1000), some (.ref 0), some (.ref 34), some (.int 0)], [], 62, 3336, (mSH, (mUp (mUp I 0 9 ((I 0 9) + 1)) 39 0 ((I 39 0) + 1)), L)) Q) (h4 : ¬ (((ro 0).2 1) < 0) → ¬ ((999999 : Int32) < ((ro 0).2 1)) → ¬ (((ro 0).2 2) < 1) → (((ro 0).2 2) ≤ 16) → ∀ (J : Nat → Nat → Int32), (J 4 1 = mD ((ro 0).2 1) ((ro 0).2 2)) → ∀ (K : Nat → Nat → Int32), mWP mTb_ mFT ro (11, 163, 808, [some (.ref 1000), some (.ref 0), some (.ref 34), some (.int 0)], [], 62, 3336, (mSH, K, L)) Q) (h5 : ¬ (((ro 0).2 1) < 0) → ¬ ((999999 : Int32) < ((ro 0).2 1)) → ¬ (((ro 0).2 2) < 1) → ¬ (((ro 0).2 2) ≤ 16) → mWP mTb_ mFT ro (11, 163, 808, [some (.ref 1000), some (.ref 0), some (.ref 34), some (.int 0)], [], 62, 3336, (mSH, (mUp (mUp I 0 9 ((I 0 9) + 1)) 39 0 ((I 39 0) + 1)), L)) Q) : mWP mTb_ mFT ro (11, 163, 291, [some (.ref 1000), some (.ref 0), some (.ref 34), some (.int 0)], [], 62, 3336, (mSH, I, L)) Q := by
  obtain ⟨f0_9, f0_10, f0_11, f1_2, f2_1, f4_1, f6_0, f6_1, f6_2, f6_3, f7_0, f7_1, f7_2, f7_3, f9_0, f9_1, f9_2, f25_0, f25_1, f26_1, f30_1, f32_1, f34_1, f34_3, f34_4, f34_11, f37_0, f37_1, f37_2, f37_3, f38_0, f38_1, f38_2, f39_0, f39_1, f39_2, f41_0, f41_1, f41_2, f41_3, f41_4, f41_5, g34_7, g34_8⟩ := hF
  obtain ⟨hro0, hro1, hro1_0, hro1_1, hro1_2, hro2, hro2_0, hro2_1, hro2_2, hro13⟩ := hR
  refine mB 5 (s2 := (11, 163, 296, [some (.ref 1000), some (.ref 0), some (.ref 34), some (.int 0)], [.int 1, .ref 1000, .ref 0], 62, 3336, (mSH, I, L))) rfl ?_
  refine mRq (s2 := (11, 163, 297, [some (.ref 1000), some (.ref 0), some (.ref 34), some (.int 0)], [.int ((ro 0).2 1), .ref 0], 62, 3336, (mSH, I, L))) rfl (by first | (simp only [f0_9, f0_10, f0_11, f1_2, f2_1, f4_1, f6_0, f6_1, f6_2, f6_3, f7_0, f7_1, f7_2, f7_3, f9_0, f9_1, f9_2, f25_0, f25_1, f26_1, f30_1, f32_1, f34_1, f34_3, f34_4, f34_11, f37_0, f37_1, f37_2, f37_3, f38_0, f38_1, f38_2, f39_0, f39_1, f39_2, f41_0, f41_1, f41_2, f41_3, f41_4, f41_5, g34_7, g34_8, hro0, hro1, hro1_0, hro1_1, hro1_2, hro2, hro2_0, hro2_1, hro2_2, hro13, mTn0, mTn1, mTn2, mTn10, mTs7, mTs8, mTs9]; first | decide | rfl) | decide | rfl) ?_
  refine mB 4 (s2 := (11, 163, 301, [some (.ref 1000), some (.ref 0), some (.ref 34), some (.int 0)], [.int 2, .ref 1000, .int ((ro 0).2 1), .ref 0], 62, 3336, (mSH, I, L))) rfl ?_
  refine mRq (s2 := (11, 163, 302, [some (.ref 1000), some (.ref 0), some (.ref 34), some (.int 0)], [.int ((ro 0).2 2), .int ((ro 0).2 1), .ref 0], 62, 3336, (mSH, I, L))) rfl (by first | (simp only [f0_9, f0_10, f0_11, f1_2, f2_1, f4_1, f6_0, f6_1, f6_2, f6_3, f7_0, f7_1, f7_2, f7_3, f9_0, f9_1, f9_2, f25_0, f25_1, f26_1, f30_1, f32_1, f34_1, f34_3, f34_4, f34_11, f37_0, f37_1, f37_2, f37_3, f38_0, f38_1, f38_2, f39_0, f39_1, f39_2, f41_0, f41_1, f41_2, f41_3, f41_4, f41_5, g34_7, g34_8, hro0, hro1, hro1_0, hro1_1, hro1_2, hro2, hro2_0, hro2_1, hro2_2, hro13, mTn0, mTn1, mTn2, mTn10, mTs7, mTs8, mTs9]; first | decide | rfl) | decide | rfl) ?_
  refine mCall (s2 := (10, 81, 0, [some (.ref 0), some (.int ((ro 0).2 1)), some (.int ((ro 0).2 2))], [], 0, 0, (mSH, I, L))) rfl ?_
  refine mB 1 (s2 := (10, 81, 1, [some (.ref 0), some (.int ((ro 0).2 1)), some (.int ((ro 0).2 2))], [.int ((ro 0).2 1)], 0, 0, (mSH, I, L))) rfl ?_
  refine mBr (s2 := (10, 81, 21, [some (.ref 0), some (.int ((ro 0).2 1)), some (.int ((ro 0).2 2))], [], 0, 0, (mSH, I, L))) (s3 := (10, 81, 4, [some (.ref 0), some (.int ((ro 0).2 1)), some (.int ((ro 0).2 2))], [], 0, 0, (mSH, I, L))) rfl (fun c0 => ?_) (fun c0 => ?_)
  · refine mB 2 (s2 := (10, 81, 24, [some (.ref 0), some (.int ((ro 0).2 1)), some (.int ((ro 0).2 2))], [.int (-2), .ref 0], 0, 0, (mSH, I, L))) rfl ?_
    refine mCall (s2 := (9, 103, 0, [some (.ref 0), some (.int (-2))], [], 0, 0, (mSH, I, L))) rfl ?_
    refine mB 2 (s2 := (9, 103, 3, [some (.ref 0), some (.int (-2))], [.int (-2), .int (-2)], 0, 0, (mSH, I, L))) rfl ?_
    refine mBT (s2 := (9, 103, 6, [some (.ref 0), some (.int (-2))], [], 0, 0, (mSH, I, L))) rfl (by decide) ?_
    refine mB 8 (s2 := (9, 103, 49, [some (.ref 0), some (.int (-2))], [.int (-2)], 0, 0, (mSH, (mUp I 0 9 ((I 0 9) + 1)), L))) rfl ?_
    refine mRt (r := (some (.int (-2)))) (h := (mSH, (mUp I 0 9 ((I 0 9) + 1)), L)) rfl (mRet_int rfl) ?_
    show mWP mTb_ mFT ro (10, 81, 27, [some (.ref 0), some (.int ((ro 0).2 1)), some (.int ((ro 0).2 2))], [.int (-2)], 0, 0, (mSH, (mUp I 0 9 ((I 0 9) + 1)), L)) _
    refine mRt (r := (some (.int (-2)))) (h := (mSH, (mUp I 0 9 ((I 0 9) + 1)), L)) rfl (mRet_int rfl) ?_
    show mWP mTb_ mFT ro (11, 163, 305, [some (.ref 1000), some (.ref 0), some (.ref 34), some (.int 0)], [.int (-2)], 62, 3336, (mSH, (mUp I 0 9 ((I 0 9) + 1)), L)) _
    refine mB 5 (s2 := (11, 163, 310, [some (.ref 1000), some (.ref 0), some (.ref 34), some (.int 0)], [.int 1, .ref 1000, .ref 34, .int (-2)], 62, 3336, (mSH, (mUp I 0 9 ((I 0 9) + 1)), L))) rfl ?_
    refine mRq (s2 := (11, 163, 311, [some (.ref 1000), some (.ref 0), some (.ref 34), some (.int 0)], [.int ((ro 0).2 1), .ref 34, .int (-2)], 62, 3336, (mSH, (mUp I 0 9 ((I 0 9) + 1)), L))) rfl (by first | (simp only [f0_9, f0_10, f0_11, f1_2, f2_1, f4_1, f6_0, f6_1, f6_2, f6_3, f7_0, f7_1, f7_2, f7_3, f9_0, f9_1, f9_2, f25_0, f25_1, f26_1, f30_1, f32_1, f34_1, f34_3, f34_4, f34_11, f37_0, f37_1, f37_2, f37_3, f38_0, f38_1, f38_2, f39_0, f39_1, f39_2, f41_0, f41_1, f41_2, f41_3, f41_4, f41_5, g34_7, g34_8, hro0, hro1, hro1_0, hro1_1, hro1_2, hro2, hro2_0, hro2_1, hro2_2, hro13, mTn0, mTn1, mTn2, mTn10, mTs7, mTs8, mTs9]; first | decide | rfl) | decide | rfl) ?_
    refine mB 4 (s2 := (11, 163, 315, [some (.ref 1000), some (.ref 0), some (.ref 34), some (.int 0)], [.int 2, .ref 1000, .int ((ro 0).2 1), .ref 34, .int (-2)], 62, 3336, (mSH, (mUp I 0 9 ((I 0 9) + 1)), L))) rfl ?_
    refine mRq (s2 := (11, 163, 316, [some (.ref 1000), some (.ref 0), some (.ref 34), some (.int 0)], [.int ((ro 0).2 2), .int ((ro 0).2 1), .ref 34, .int (-2)], 62, 3336, (mSH, (mUp I 0 9 ((I 0 9) + 1)), L))) rfl (by first | (simp only [f0_9, f0_10, f0_11, f1_2, f2_1, f4_1, f6_0, f6_1, f6_2, f6_3, f7_0, f7_1, f7_2, f7_3, f9_0, f9_1, f9_2, f25_0, f25_1, f26_1, f30_1, f32_1, f34_1, f34_3, f34_4, f34_11, f37_0, f37_1, f37_2, f37_3, f38_0, f38_1, f38_2, f39_0, f39_1, f39_2, f41_0, f41_1, f41_2, f41_3, f41_4, f41_5, g34_7, g34_8, hro0, hro1, hro1_0, hro1_1, hro1_2, hro2, hro2_0, hro2_1, hro2_2, hro13, mTn0, mTn1, mTn2, mTn10, mTs7, mTs8, mTs9]; first | decide | rfl) | decide | rfl) ?_
    refine mCall (s2 := (10, 121, 0, [some (.ref 34), some (.int ((ro 0).2 1)), some (.int ((ro 0).2 2)), none, none, none, none, none], [], 0, 0, (mSH, (mUp I 0 9 ((I 0 9) + 1)), L))) rfl ?_
    refine mB 3 (s2 := (10, 121, 4, [some (.ref 34), some (.int ((ro 0).2 1)), some (.int ((ro 0).2 2)), none, none, none, none, none], [.int 999999, .int 0, .int ((ro 0).2 1)], 0, 0, (mSH, (mUp I 0 9 ((I 0 9) + 1)), L))) rfl ?_
    refine mCall (s2 := (9, 112, 0, [some (.int ((ro 0).2 1)), some (.int 0), some (.int 999999)], [], 0, 0, (mSH, (mUp I 0 9 ((I 0 9) + 1)), L))) rfl ?_
    refine mB 2 (s2 := (9, 112, 2, [some (.int ((ro 0).2 1)), some (.int 0), some (.int 999999)], [.int 0, .int ((ro 0).2 1)], 0, 0, (mSH, (mUp I 0 9 ((I 0 9) + 1)), L))) rfl ?_
    refine mBT (c := decide (((ro 0).2 1) < 0)) (s2 := (9, 112, 14, [some (.int ((ro 0).2 1)), some (.int 0), some (.int 999999)], [], 0, 0, (mSH, (mUp I 0 9 ((I 0 9) + 1)), L))) rfl (decide_eq_true (by have a0 := of_decide_eq_true c0; simp only [f0_9, f0_10, f0_11, f1_2, f2_1, f4_1, f6_0, f6_1, f6_2, f6_3, f7_0, f7_1, f7_2, f7_3, f9_0, f9_1, f9_2, f25_0, f25_1, f26_1, f30_1, f32_1, f34_1, f34_3, f34_4, f34_11, f37_0, f37_1, f37_2, f37_3, f38_0, f38_1, f38_2, f39_0, f39_1, f39_2, f41_0, f41_1, f41_2, f41_3, f41_4, f41_5, g34_7, g34_8, hro0, hro1, hro1_0, hro1_1, hro1_2, hro2, hro2_0, hro2_1, hro2_2, hro13, mTn0, mTn1, mTn2, mTn10, mTs7, mTs8, mTs9, Int32.lt_iff_toInt_lt, Int32.le_iff_toInt_le, ← Int32.toInt_inj, mLi0, mLi1, mLi2, mLi3, mLi4, mLi5, mLi6, mLi7, mLi8, mLi9, mLi16, mLi99, mLi120, mLi127, mLi1584, mLi999999, mLim] at a0 ⊢; omega)) ?_
    refine mB 1 (s2 := (9, 112, 15, [some (.int ((ro 0).2 1)), some (.int 0), some (.int 999999)], [.int 0], 0, 0, (mSH, (mUp I 0 9 ((I 0 9) + 1)), L))) rfl ?_
    refine mRt (r := (some (.int 0))) (h := (mSH, (mUp I 0 9 ((I 0 9) + 1)), L)) rfl rfl ?_
    show mWP mTb_ mFT ro (10, 121, 7, [some (.ref 34), some (.int ((ro 0).2 1)), some (.int ((ro 0).2 2)), none, none, none, none, none], [.int 0], 0, 0, (mSH, (mUp I 0 9 ((I 0 9) + 1)), L)) _
    refine mBT (s2 := (10, 121, 20, [some (.ref 34), some (.int ((ro 0).2 1)), some (.int ((ro 0).2 2)), none, none, none, none, none], [], 0, 0, (mSH, (mUp I 0 9 ((I 0 9) + 1)), L))) rfl (by decide) ?_
    refine mB 2 (s2 := (10, 121, 23, [some (.ref 34), some (.int ((ro 0).2 1)), some (.int ((ro 0).2 2)), none, none, none, none, none], [.int (-2), .ref 34], 0, 0, (mSH, (mUp I 0 9 ((I 0 9) + 1)), L))) rfl ?_
    refine mCall (s2 := (9, 113, 0, [some (.ref 34), some (.int (-2))], [], 0, 0, (mSH, (mUp I 0 9 ((I 0 9) + 1)), L))) rfl ?_
    refine mB 6 (s2 := (9, 113, 9, [some (.ref 34), some (.int (-2))], [.int 0, .ref 39, .int 0, .ref 39], 0, 0, (mSH, (mUp I 0 9 ((I 0 9) + 1)), L))) rfl ?_
    refine mRq (s2 := (9, 113, 10, [some (.ref 34), some (.int (-2))], [.int (I 39 0), .int 0, .ref 39], 0, 0, (mSH, (mUp I 0 9 ((I 0 9) + 1)), L))) rfl (by decide) ?_
    refine mB 2 (s2 := (9, 113, 12, [some (.ref 34), some (.int (-2))], [.int ((I 39 0) + 1), .int 0, .ref 39], 0, 0, (mSH, (mUp I 0 9 ((I 0 9) + 1)), L))) rfl ?_
    refine mRq (s2 := (9, 113, 13, [some (.ref 34), some (.int (-2))], [], 0, 0, (mSH, (mUp (mUp I 0 9 ((I 0 9) + 1)) 39 0 ((I 39 0) + 1)), L))) rfl (by decide) ?_
    refine mB 1 (s2 := (9, 113, 14, [some (.ref 34), some (.int (-2))], [.int (-2)], 0, 0, (mSH, (mUp (mUp I 0 9 ((I 0 9) + 1)) 39 0 ((I 39 0) + 1)), L))) rfl ?_
    refine mRt (r := (some (.int (-2)))) (h := (mSH, (mUp (mUp I 0 9 ((I 0 9) + 1)) 39 0 ((I 39 0) + 1)), L)) rfl (mRet_int rfl) ?_
    show mWP mTb_ mFT ro (10, 121, 26, [some (.ref 34), some (.int ((ro 0).2 1)), some (.int ((ro 0).2 2)), none, none, none, none, none], [.int (-2)], 0, 0, (mSH, (mUp (mUp I 0 9 ((I 0 9) + 1)) 39 0 ((I 39 0) + 1)), L)) _
    refine mRt (r := (some (.int (-2)))) (h := (mSH, (mUp (mUp I 0 9 ((I 0 9) + 1)) 39 0 ((I 39 0) + 1)), L)) rfl (mRet_int rfl) ?_
    show mWP mTb_ mFT ro (11, 163, 319, [some (.ref 1000), some (.ref 0), some (.ref 34), some (.int 0)], [.int (-2), .int (-2)], 62, 3336, (mSH, (mUp (mUp I 0 9 ((I 0 9) + 1)) 39 0 ((I 39 0) + 1)), L)) _
    refine mBT (s2 := (11, 163, 808, [some (.ref 1000), some (.ref 0), some (.ref 34), some (.int 0)], [], 62, 3336, (mSH, (mUp (mUp I 0 9 ((I 0 9) + 1)) 39 0 ((I 39 0) + 1)), L))) rfl (by decide) ?_
    exact h1 (of_decide_eq_true c0)
  · refine mB 2 (s2 := (10, 81, 7, [some (.ref 0), some (.int ((ro 0).2 1)), some (.int ((ro 0).2 2))], [.int 999999, .int ((ro 0).2 1)], 0, 0, (mSH, I, L))) rfl ?_
    refine mBr (s2 := (10, 81, 21, [some (.ref 0), some (.int ((ro 0).2 1)), some (.int ((ro 0).2 2))], [], 0, 0, (mSH, I, L))) (s3 := (10, 81, 10, [some (.ref 0), some (.int ((ro 0).2 1)), some (.int ((ro 0).2 2))], [], 0, 0, (mSH, I, L))) rfl (fun c1 => ?_) (fun c1 => ?_)
    · refine mB 2 (s2 := (10, 81, 24, [some (.ref 0), some (.int ((ro 0).2 1)), some (.int ((ro 0).2 2))], [.int (-2), .ref 0], 0, 0, (mSH, I, L))) rfl ?_
      refine mCall (s2 := (9, 103, 0, [some (.ref 0), some (.int (-2))], [], 0, 0, (mSH, I, L))) rfl ?_
      refine mB 2 (s2 := (9, 103, 3, [some (.ref 0), some (.int (-2))], [.int (-2), .int (-2)], 0, 0, (mSH, I, L))) rfl ?_
      refine mBT (s2 := (9, 103, 6, [some (.ref 0), some (.int (-2))], [], 0, 0, (mSH, I, L))) rfl (by decide) ?_
      refine mB 8 (s2 := (9, 103, 49, [some (.ref 0), some (.int (-2))], [.int (-2)], 0, 0, (mSH, (mUp I 0 9 ((I 0 9) + 1)), L))) rfl ?_
      refine mRt (r := (some (.int (-2)))) (h := (mSH, (mUp I 0 9 ((I 0 9) + 1)), L)) rfl (mRet_int rfl) ?_
      show mWP mTb_ mFT ro (10, 81, 27, [some (.ref 0), some (.int ((ro 0).2 1)), some (.int ((ro 0).2 2))], [.int (-2)], 0, 0, (mSH, (mUp I 0 9 ((I 0 9) + 1)), L)) _
      refine mRt (r := (some (.int (-2)))) (h := (mSH, (mUp I 0 9 ((I 0 9) + 1)), L)) rfl (mRet_int rfl) ?_
      show mWP mTb_ mFT ro (11, 163, 305, [some (.ref 1000), some (.ref 0), some (.ref 34), some (.int 0)], [.int (-2)], 62, 3336, (mSH, (mUp I 0 9 ((I 0 9) + 1)), L)) _
      refine mB 5 (s2 := (11, 163, 310, [some (.ref 1000), some (.ref 0), some (.ref 34), some (.int 0)], [.int 1, .ref 1000, .ref 34, .int (-2)], 62, 3336, (mSH, (mUp I 0 9 ((I 0 9) + 1)), L))) rfl ?_
      refine mRq (s2 := (11, 163, 311, [some (.ref 1000), some (.ref 0), some (.ref 34), some (.int 0)], [.int ((ro 0).2 1), .ref 34, .int (-2)], 62, 3336, (mSH, (mUp I 0 9 ((I 0 9) + 1)), L))) rfl (by first | (simp only [f0_9, f0_10, f0_11, f1_2, f2_1, f4_1, f6_0, f6_1, f6_2, f6_3, f7_0, f7_1, f7_2, f7_3, f9_0, f9_1, f9_2, f25_0, f25_1, f26_1, f30_1, f32_1, f34_1, f34_3, f34_4, f34_11, f37_0, f37_1, f37_2, f37_3, f38_0, f38_1, f38_2, f39_0, f39_1, f39_2, f41_0, f41_1, f41_2, f41_3, f41_4, f41_5, g34_7, g34_8, hro0, hro1, hro1_0, hro1_1, hro1_2, hro2, hro2_0, hro2_1, hro2_2, hro13, mTn0, mTn1, mTn2, mTn10, mTs7, mTs8, mTs9]; first | decide | rfl) | decide | rfl) ?_
      refine mB 4 (s2 := (11, 163, 315, [some (.ref 1000), some (.ref 0), some (.ref 34), some (.int 0)], [.int 2, .ref 1000, .int ((ro 0).2 1), .ref 34, .int (-2)], 62, 3336, (mSH, (mUp I 0 9 ((I 0 9) + 1)), L))) rfl ?_
      refine mRq (s2 := (11, 163, 316, [some (.ref 1000), some (.ref 0), some (.ref 34), some (.int 0)], [.int ((ro 0).2 2), .int ((ro 0).2 1), .ref 34, .int (-2)], 62, 3336, (mSH, (mUp I 0 9 ((I 0 9) + 1)), L))) rfl (by first | (simp only [f0_9, f0_10, f0_11, f1_2, f2_1, f4_1, f6_0, f6_1, f6_2, f6_3, f7_0, f7_1, f7_2, f7_3, f9_0, f9_1, f9_2, f25_0, f25_1, f26_1, f30_1, f32_1, f34_1, f34_3, f34_4, f34_11, f37_0, f37_1, f37_2, f37_3, f38_0, f38_1, f38_2, f39_0, f39_1, f39_2, f41_0, f41_1, f41_2, f41_3, f41_4, f41_5, g34_7, g34_8, hro0, hro1, hro1_0, hro1_1, hro1_2, hro2, hro2_0, hro2_1, hro2_2, hro13, mTn0, mTn1, mTn2, mTn10, mTs7, mTs8, mTs9]; first | decide | rfl) | decide | rfl) ?_
      refine mCall (s2 := (10, 121, 0, [some (.ref 34), some (.int ((ro 0).2 1)), some (.int ((ro 0).2 2)), none, none, none, none, none], [], 0, 0, (mSH, (mUp I 0 9 ((I 0 9) + 1)), L))) rfl ?_
      refine mB 3 (s2 := (10, 121, 4, [some (.ref 34), some (.int ((ro 0).2 1)), some (.int ((ro 0).2 2)), none, none, none, none, none], [.int 999999, .int 0, .int ((ro 0).2 1)], 0, 0, (mSH, (mUp I 0 9 ((I 0 9) + 1)), L))) rfl ?_
      refine mCall (s2 := (9, 112, 0, [some (.int ((ro 0).2 1)), some (.int 0), some (.int 999999)], [], 0, 0, (mSH, (mUp I 0 9 ((I 0 9) + 1)), L))) rfl ?_
      refine mB 2 (s2 := (9, 112, 2, [some (.int ((ro 0).2 1)), some (.int 0), some (.int 999999)], [.int 0, .int ((ro 0).2 1)], 0, 0, (mSH, (mUp I 0 9 ((I 0 9) + 1)), L))) rfl ?_
      refine mBF (c := decide (((ro 0).2 1) < 0)) (s3 := (9, 112, 5, [some (.int ((ro 0).2 1)), some (.int 0), some (.int 999999)], [], 0, 0, (mSH, (mUp I 0 9 ((I 0 9) + 1)), L))) rfl (decide_eq_false (by have a0 := of_decide_eq_false c0; have a1 := of_decide_eq_true c1; simp only [f0_9, f0_10, f0_11, f1_2, f2_1, f4_1, f6_0, f6_1, f6_2, f6_3, f7_0, f7_1, f7_2, f7_3, f9_0, f9_1, f9_2, f25_0, f25_1, f26_1, f30_1, f32_1, f34_1, f34_3, f34_4, f34_11, f37_0, f37_1, f37_2, f37_3, f38_0, f38_1, f38_2, f39_0, f39_1, f39_2, f41_0, f41_1, f41_2, f41_3, f41_4, f41_5, g34_7, g34_8, hro0, hro1, hro1_0, hro1_1, hro1_2, hro2, hro2_0, hro2_1, hro2_2, hro13, mTn0, mTn1, mTn2, mTn10, mTs7, mTs8, mTs9, Int32.lt_iff_toInt_lt, Int32.le_iff_toInt_le, ← Int32.toInt_inj, mLi0, mLi1, mLi2, mLi3, mLi4, mLi5, mLi6, mLi7, mLi8, mLi9, mLi16, mLi99, mLi120, mLi127, mLi1584, mLi999999, mLim] at a0 a1 ⊢; omega)) ?_
      refine mB 2 (s2 := (9, 112, 7, [some (.int ((ro 0).2 1)), some (.int 0), some (.int 999999)], [.int 999999, .int ((ro 0).2 1)], 0, 0, (mSH, (mUp I 0 9 ((I 0 9) + 1)), L))) rfl ?_
      refine mBT (c := decide ((999999 : Int32) < ((ro 0).2 1))) (s2 := (9, 112, 14, [some (.int ((ro 0).2 1)), some (.int 0), some (.int 999999)], [], 0, 0, (mSH, (mUp I 0 9 ((I 0 9) + 1)), L))) rfl (decide_eq_true (by have a0 := of_decide_eq_false c0; have a1 := of_decide_eq_true c1; simp only [f0_9, f0_10, f0_11, f1_2, f2_1, f4_1, f6_0, f6_1, f6_2, f6_3, f7_0, f7_1, f7_2, f7_3, f9_0, f9_1, f9_2, f25_0, f25_1, f26_1, f30_1, f32_1, f34_1, f34_3, f34_4, f34_11, f37_0, f37_1, f37_2, f37_3, f38_0, f38_1, f38_2, f39_0, f39_1, f39_2, f41_0, f41_1, f41_2, f41_3, f41_4, f41_5, g34_7, g34_8, hro0, hro1, hro1_0, hro1_1, hro1_2, hro2, hro2_0, hro2_1, hro2_2, hro13, mTn0, mTn1, mTn2, mTn10, mTs7, mTs8, mTs9, Int32.lt_iff_toInt_lt, Int32.le_iff_toInt_le, ← Int32.toInt_inj, mLi0, mLi1, mLi2, mLi3, mLi4, mLi5, mLi6, mLi7, mLi8, mLi9, mLi16, mLi99, mLi120, mLi127, mLi1584, mLi999999, mLim] at a0 a1 ⊢; omega)) ?_
      refine mB 1 (s2 := (9, 112, 15, [some (.int ((ro 0).2 1)), some (.int 0), some (.int 999999)], [.int 0], 0, 0, (mSH, (mUp I 0 9 ((I 0 9) + 1)), L))) rfl ?_
      refine mRt (r := (some (.int 0))) (h := (mSH, (mUp I 0 9 ((I 0 9) + 1)), L)) rfl rfl ?_
      show mWP mTb_ mFT ro (10, 121, 7, [some (.ref 34), some (.int ((ro 0).2 1)), some (.int ((ro 0).2 2)), none, none, none, none, none], [.int 0], 0, 0, (mSH, (mUp I 0 9 ((I 0 9) + 1)), L)) _
      refine mBT (s2 := (10, 121, 20, [some (.ref 34), some (.int ((ro 0).2 1)), some (.int ((ro 0).2 2)), none, none, none, none, none], [], 0, 0, (mSH, (mUp I 0 9 ((I 0 9) + 1)), L))) rfl (by decide) ?_
      refine mB 2 (s2 := (10, 121, 23, [some (.ref 34), some (.int ((ro 0).2 1)), some (.int ((ro 0).2 2)), none, none, none, none, none], [.int (-2), .ref 34], 0, 0, (mSH, (mUp I 0 9 ((I 0 9) + 1)), L))) rfl ?_
      refine mCall (s2 := (9, 113, 0, [some (.ref 34), some (.int (-2))], [], 0, 0, (mSH, (mUp I 0 9 ((I 0 9) + 1)), L))) rfl ?_
      refine mB 6 (s2 := (9, 113, 9, [some (.ref 34), some (.int (-2))], [.int 0, .ref 39, .int 0, .ref 39], 0, 0, (mSH, (mUp I 0 9 ((I 0 9) + 1)), L))) rfl ?_
      refine mRq (s2 := (9, 113, 10, [some (.ref 34), some (.int (-2))], [.int (I 39 0), .int 0, .ref 39], 0, 0, (mSH, (mUp I 0 9 ((I 0 9) + 1)), L))) rfl (by decide) ?_
      refine mB 2 (s2 := (9, 113, 12, [some (.ref 34), some (.int (-2))], [.int ((I 39 0) + 1), .int 0, .ref 39], 0, 0, (mSH, (mUp I 0 9 ((I 0 9) + 1)), L))) rfl ?_
      refine mRq (s2 := (9, 113, 13, [some (.ref 34), some (.int (-2))], [], 0, 0, (mSH, (mUp (mUp I 0 9 ((I 0 9) + 1)) 39 0 ((I 39 0) + 1)), L))) rfl (by decide) ?_
      refine mB 1 (s2 := (9, 113, 14, [some (.ref 34), some (.int (-2))], [.int (-2)], 0, 0, (mSH, (mUp (mUp I 0 9 ((I 0 9) + 1)) 39 0 ((I 39 0) + 1)), L))) rfl ?_
      refine mRt (r := (some (.int (-2)))) (h := (mSH, (mUp (mUp I 0 9 ((I 0 9) + 1)) 39 0 ((I 39 0) + 1)), L)) rfl (mRet_int rfl) ?_
      show mWP mTb_ mFT ro (10, 121, 26, [some (.ref 34), some (.int ((ro 0).2 1)), some (.int ((ro 0).2 2)), none, none, none, none, none], [.int (-2)], 0, 0, (mSH, (mUp (mUp I 0 9 ((I 0 9) + 1)) 39 0 ((I 39 0) + 1)), L)) _
      refine mRt (r := (some (.int (-2)))) (h := (mSH, (mUp (mUp I 0 9 ((I 0 9) + 1)) 39 0 ((I 39 0) + 1)), L)) rfl (mRet_int rfl) ?_
      show mWP mTb_ mFT ro (11, 163, 319, [some (.ref 1000), some (.ref 0), some (.ref 34), some (.int 0)], [.int (-2), .int (-2)], 62, 3336, (mSH, (mUp (mUp I 0 9 ((I 0 9) + 1)) 39 0 ((I 39 0) + 1)), L)) _
      refine mBT (s2 := (11, 163, 808, [some (.ref 1000), some (.ref 0), some (.ref 34), some (.int 0)], [], 62, 3336, (mSH, (mUp (mUp I 0 9 ((I 0 9) + 1)) 39 0 ((I 39 0) + 1)), L))) rfl (by decide) ?_
      exact h2 (of_decide_eq_false c0) (of_decide_eq_true c1)
    · refine mB 2 (s2 := (10, 81, 12, [some (.ref 0), some (.int ((ro 0).2 1)), some (.int ((ro 0).2 2))], [.int 1, .int ((ro 0).2 2)], 0, 0, (mSH, I, L))) rfl ?_
      refine mBr (s2 := (10, 81, 21, [some (.ref 0), some (.int ((ro 0).2 1)), some (.int ((ro 0).2 2))], [], 0, 0, (mSH, I, L))) (s3 := (10, 81, 15, [some (.ref 0), some (.int ((ro 0).2 1)), some (.int ((ro 0).2 2))], [], 0, 0, (mSH, I, L))) rfl (fun c2 => ?_) (fun c2 => ?_)
      · refine mB 2 (s2 := (10, 81, 24, [some (.ref 0), some (.int ((ro 0).2 1)), some (.int ((ro 0).2 2))], [.int (-2), .ref 0], 0, 0, (mSH, I, L))) rfl ?_
        refine mCall (s2 := (9, 103, 0, [some (.ref 0), some (.int (-2))], [], 0, 0, (mSH, I, L))) rfl ?_
        refine mB 2 (s2 := (9, 103, 3, [some (.ref 0), some (.int (-2))], [.int (-2), .int (-2)], 0, 0, (mSH, I, L))) rfl ?_
        refine mBT (s2 := (9, 103, 6, [some (.ref 0), some (.int (-2))], [], 0, 0, (mSH, I, L))) rfl (by decide) ?_
        refine mB 8 (s2 := (9, 103, 49, [some (.ref 0), some (.int (-2))], [.int (-2)], 0, 0, (mSH, (mUp I 0 9 ((I 0 9) + 1)), L))) rfl ?_
        refine mRt (r := (some (.int (-2)))) (h := (mSH, (mUp I 0 9 ((I 0 9) + 1)), L)) rfl (mRet_int rfl) ?_
        show mWP mTb_ mFT ro (10, 81, 27, [some (.ref 0), some (.int ((ro 0).2 1)), some (.int ((ro 0).2 2))], [.int (-2)], 0, 0, (mSH, (mUp I 0 9 ((I 0 9) + 1)), L)) _
        refine mRt (r := (some (.int (-2)))) (h := (mSH, (mUp I 0 9 ((I 0 9) + 1)), L)) rfl (mRet_int rfl) ?_
        show mWP mTb_ mFT ro (11, 163, 305, [some (.ref 1000), some (.ref 0), some (.ref 34), some (.int 0)], [.int (-2)], 62, 3336, (mSH, (mUp I 0 9 ((I 0 9) + 1)), L)) _
        refine mB 5 (s2 := (11, 163, 310, [some (.ref 1000), some (.ref 0), some (.ref 34), some (.int 0)], [.int 1, .ref 1000, .ref 34, .int (-2)], 62, 3336, (mSH, (mUp I 0 9 ((I 0 9) + 1)), L))) rfl ?_
        refine mRq (s2 := (11, 163, 311, [some (.ref 1000), some (.ref 0), some (.ref 34), some (.int 0)], [.int ((ro 0).2 1), .ref 34, .int (-2)], 62, 3336, (mSH, (mUp I 0 9 ((I 0 9) + 1)), L))) rfl (by first | (simp only [f0_9, f0_10, f0_11, f1_2, f2_1, f4_1, f6_0, f6_1, f6_2, f6_3, f7_0, f7_1, f7_2, f7_3, f9_0, f9_1, f9_2, f25_0, f25_1, f26_1, f30_1, f32_1, f34_1, f34_3, f34_4, f34_11, f37_0, f37_1, f37_2, f37_3, f38_0, f38_1, f38_2, f39_0, f39_1, f39_2, f41_0, f41_1, f41_2, f41_3, f41_4, f41_5, g34_7, g34_8, hro0, hro1, hro1_0, hro1_1, hro1_2, hro2, hro2_0, hro2_1, hro2_2, hro13, mTn0, mTn1, mTn2, mTn10, mTs7, mTs8, mTs9]; first | decide | rfl) | decide | rfl) ?_
        refine mB 4 (s2 := (11, 163, 315, [some (.ref 1000), some (.ref 0), some (.ref 34), some (.int 0)], [.int 2, .ref 1000, .int ((ro 0).2 1), .ref 34, .int (-2)], 62, 3336, (mSH, (mUp I 0 9 ((I 0 9) + 1)), L))) rfl ?_
        refine mRq (s2 := (11, 163, 316, [some (.ref 1000), some (.ref 0), some (.ref 34), some (.int 0)], [.int ((ro 0).2 2), .int ((ro 0).2 1), .ref 34, .int (-2)], 62, 3336, (mSH, (mUp I 0 9 ((I 0 9) + 1)), L))) rfl (by first | (simp only [f0_9, f0_10, f0_11, f1_2, f2_1, f4_1, f6_0, f6_1, f6_2, f6_3, f7_0, f7_1, f7_2, f7_3, f9_0, f9_1, f9_2, f25_0, f25_1, f26_1, f30_1, f32_1, f34_1, f34_3, f34_4, f34_11, f37_0, f37_1, f37_2, f37_3, f38_0, f38_1, f38_2, f39_0, f39_1, f39_2, f41_0, f41_1, f41_2, f41_3, f41_4, f41_5, g34_7, g34_8, hro0, hro1, hro1_0, hro1_1, hro1_2, hro2, hro2_0, hro2_1, hro2_2, hro13, mTn0, mTn1, mTn2, mTn10, mTs7, mTs8, mTs9]; first | decide | rfl) | decide | rfl) ?_
        refine mCall (s2 := (10, 121, 0, [some (.ref 34), some (.int ((ro 0).2 1)), some (.int ((ro 0).2 2)), none, none, none, none, none], [], 0, 0, (mSH, (mUp I 0 9 ((I 0 9) + 1)), L))) rfl ?_
        refine mB 3 (s2 := (10, 121, 4, [some (.ref 34), some (.int ((ro 0).2 1)), some (.int ((ro 0).2 2)), none, none, none, none, none], [.int 999999, .int 0, .int ((ro 0).2 1)], 0, 0, (mSH, (mUp I 0 9 ((I 0 9) + 1)), L))) rfl ?_
        refine mCall (s2 := (9, 112, 0, [some (.int ((ro 0).2 1)), some (.int 0), some (.int 999999)], [], 0, 0, (mSH, (mUp I 0 9 ((I 0 9) + 1)), L))) rfl ?_
        refine mB 2 (s2 := (9, 112, 2, [some (.int ((ro 0).2 1)), some (.int 0), some (.int 999999)], [.int 0, .int ((ro 0).2 1)], 0, 0, (mSH, (mUp I 0 9 ((I 0 9) + 1)), L))) rfl ?_
        refine mBF (c := decide (((ro 0).2 1) < 0)) (s3 := (9, 112, 5, [some (.int ((ro 0).2 1)), some (.int 0), some (.int 999999)], [], 0, 0, (mSH, (mUp I 0 9 ((I 0 9) + 1)), L))) rfl (decide_eq_false (by have a0 := of_decide_eq_false c0; have a1 := of_decide_eq_false c1; have a2 := of_decide_eq_true c2; simp only [f0_9, f0_10, f0_11, f1_2, f2_1, f4_1, f6_0, f6_1, f6_2, f6_3, f7_0, f7_1, f7_2, f7_3, f9_0, f9_1, f9_2, f25_0, f25_1, f26_1, f30_1, f32_1, f34_1, f34_3, f34_4, f34_11, f37_0, f37_1, f37_2, f37_3, f38_0, f38_1, f38_2, f39_0, f39_1, f39_2, f41_0, f41_1, f41_2, f41_3, f41_4, f41_5, g34_7, g34_8, hro0, hro1, hro1_0, hro1_1, hro1_2, hro2, hro2_0, hro2_1, hro2_2, hro13, mTn0, mTn1, mTn2, mTn10, mTs7, mTs8, mTs9, Int32.lt_iff_toInt_lt, Int32.le_iff_toInt_le, ← Int32.toInt_inj, mLi0, mLi1, mLi2, mLi3, mLi4, mLi5, mLi6, mLi7, mLi8, mLi9, mLi16, mLi99, mLi120, mLi127, mLi1584, mLi999999, mLim] at a0 a1 a2 ⊢; omega)) ?_
        refine mB 2 (s2 := (9, 112, 7, [some (.int ((ro 0).2 1)), some (.int 0), some (.int 999999)], [.int 999999, .int ((ro 0).2 1)], 0, 0, (mSH, (mUp I 0 9 ((I 0 9) + 1)), L))) rfl ?_
        refine mBF (c := decide ((999999 : Int32) < ((ro 0).2 1))) (s3 := (9, 112, 10, [some (.int ((ro 0).2 1)), some (.int 0), some (.int 999999)], [], 0, 0, (mSH, (mUp I 0 9 ((I 0 9) + 1)), L))) rfl (decide_eq_false (by have a0 := of_decide_eq_false c0; have a1 := of_decide_eq_false c1; have a2 := of_decide_eq_true c2; simp only [f0_9, f0_10, f0_11, f1_2, f2_1, f4_1, f6_0, f6_1, f6_2, f6_3, f7_0, f7_1, f7_2, f7_3, f9_0, f9_1, f9_2, f25_0, f25_1, f26_1, f30_1, f32_1, f34_1, f34_3, f34_4, f34_11, f37_0, f37_1, f37_2, f37_3, f38_0, f38_1, f38_2, f39_0, f39_1, f39_2, f41_0, f41_1, f41_2, f41_3, f41_4, f41_5, g34_7, g34_8, hro0, hro1, hro1_0, hro1_1, hro1_2, hro2, hro2_0, hro2_1, hro2_2, hro13, mTn0, mTn1, mTn2, mTn10, mTs7, mTs8, mTs9, Int32.lt_iff_toInt_lt, Int32.le_iff_toInt_le, ← Int32.toInt_inj, mLi0, mLi1, mLi2, mLi3, mLi4, mLi5, mLi6, mLi7, mLi8, mLi9, mLi16, mLi99, mLi120, mLi127, mLi1584, mLi999999, mLim] at a0 a1 a2 ⊢; omega)) ?_
        refine mB 2 (s2 := (9, 112, 15, [some (.int ((ro 0).2 1)), some (.int 0), some (.int 999999)], [.int 1], 0, 0, (mSH, (mUp I 0 9 ((I 0 9) + 1)), L))) rfl ?_
        refine mRt (r := (some (.int 1))) (h := (mSH, (mUp I 0 9 ((I 0 9) + 1)), L)) rfl rfl ?_
        show mWP mTb_ mFT ro (10, 121, 7, [some (.ref 34), some (.int ((ro 0).2 1)), some (.int ((ro 0).2 2)), none, none, none, none, none], [.int 1], 0, 0, (mSH, (mUp I 0 9 ((I 0 9) + 1)), L)) _
        refine mBF (s3 := (10, 121, 10, [some (.ref 34), some (.int ((ro 0).2 1)), some (.int ((ro 0).2 2)), none, none, none, none, none], [], 0, 0, (mSH, (mUp I 0 9 ((I 0 9) + 1)), L))) rfl (by decide) ?_
        refine mB 3 (s2 := (10, 121, 14, [some (.ref 34), some (.int ((ro 0).2 1)), some (.int ((ro 0).2 2)), none, none, none, none, none], [.int 16, .int 1, .int ((ro 0).2 2)], 0, 0, (mSH, (mUp I 0 9 ((I 0 9) + 1)), L))) rfl ?_
        refine mCall (s2 := (9, 112, 0, [some (.int ((ro 0).2 2)), some (.int 1), some (.int 16)], [], 0, 0, (mSH, (mUp I 0 9 ((I 0 9) + 1)), L))) rfl ?_
        refine mB 2 (s2 := (9, 112, 2, [some (.int ((ro 0).2 2)), some (.int 1), some (.int 16)], [.int 1, .int ((ro 0).2 2)], 0, 0, (mSH, (mUp I 0 9 ((I 0 9) + 1)), L))) rfl ?_
        refine mBT (c := decide (((ro 0).2 2) < 1)) (s2 := (9, 112, 14, [some (.int ((ro 0).2 2)), some (.int 1), some (.int 16)], [], 0, 0, (mSH, (mUp I 0 9 ((I 0 9) + 1)), L))) rfl (decide_eq_true (by have a0 := of_decide_eq_false c0; have a1 := of_decide_eq_false c1; have a2 := of_decide_eq_true c2; simp only [f0_9, f0_10, f0_11, f1_2, f2_1, f4_1, f6_0, f6_1, f6_2, f6_3, f7_0, f7_1, f7_2, f7_3, f9_0, f9_1, f9_2, f25_0, f25_1, f26_1, f30_1, f32_1, f34_1, f34_3, f34_4, f34_11, f37_0, f37_1, f37_2, f37_3, f38_0, f38_1, f38_2, f39_0, f39_1, f39_2, f41_0, f41_1, f41_2, f41_3, f41_4, f41_5, g34_7, g34_8, hro0, hro1, hro1_0, hro1_1, hro1_2, hro2, hro2_0, hro2_1, hro2_2, hro13, mTn0, mTn1, mTn2, mTn10, mTs7, mTs8, mTs9, Int32.lt_iff_toInt_lt, Int32.le_iff_toInt_le, ← Int32.toInt_inj, mLi0, mLi1, mLi2, mLi3, mLi4, mLi5, mLi6, mLi7, mLi8, mLi9, mLi16, mLi99, mLi120, mLi127, mLi1584, mLi999999, mLim] at a0 a1 a2 ⊢; omega)) ?_
        refine mB 1 (s2 := (9, 112, 15, [some (.int ((ro 0).2 2)), some (.int 1), some (.int 16)], [.int 0], 0, 0, (mSH, (mUp I 0 9 ((I 0 9) + 1)), L))) rfl ?_
        refine mRt (r := (some (.int 0))) (h := (mSH, (mUp I 0 9 ((I 0 9) + 1)), L)) rfl rfl ?_
        show mWP mTb_ mFT ro (10, 121, 17, [some (.ref 34), some (.int ((ro 0).2 1)), some (.int ((ro 0).2 2)), none, none, none, none, none], [.int 0], 0, 0, (mSH, (mUp I 0 9 ((I 0 9) + 1)), L)) _
        refine mBT (s2 := (10, 121, 20, [some (.ref 34), some (.int ((ro 0).2 1)), some (.int ((ro 0).2 2)), none, none, none, none, none], [], 0, 0, (mSH, (mUp I 0 9 ((I 0 9) + 1)), L))) rfl (by decide) ?_
        refine mB 2 (s2 := (10, 121, 23, [some (.ref 34), some (.int ((ro 0).2 1)), some (.int ((ro 0).2 2)), none, none, none, none, none], [.int (-2), .ref 34], 0, 0, (mSH, (mUp I 0 9 ((I 0 9) + 1)), L))) rfl ?_
        refine mCall (s2 := (9, 113, 0, [some (.ref 34), some (.int (-2))], [], 0, 0, (mSH, (mUp I 0 9 ((I 0 9) + 1)), L))) rfl ?_
        refine mB 6 (s2 := (9, 113, 9, [some (.ref 34), some (.int (-2))], [.int 0, .ref 39, .int 0, .ref 39], 0, 0, (mSH, (mUp I 0 9 ((I 0 9) + 1)), L))) rfl ?_
        refine mRq (s2 := (9, 113, 10, [some (.ref 34), some (.int (-2))], [.int (I 39 0), .int 0, .ref 39], 0, 0, (mSH, (mUp I 0 9 ((I 0 9) + 1)), L))) rfl (by decide) ?_
        refine mB 2 (s2 := (9, 113, 12, [some (.ref 34), some (.int (-2))], [.int ((I 39 0) + 1), .int 0, .ref 39], 0, 0, (mSH, (mUp I 0 9 ((I 0 9) + 1)), L))) rfl ?_
        refine mRq (s2 := (9, 113, 13, [some (.ref 34), some (.int (-2))], [], 0, 0, (mSH, (mUp (mUp I 0 9 ((I 0 9) + 1)) 39 0 ((I 39 0) + 1)), L))) rfl (by decide) ?_
        refine mB 1 (s2 := (9, 113, 14, [some (.ref 34), some (.int (-2))], [.int (-2)], 0, 0, (mSH, (mUp (mUp I 0 9 ((I 0 9) + 1)) 39 0 ((I 39 0) + 1)), L))) rfl ?_
        refine mRt (r := (some (.int (-2)))) (h := (mSH, (mUp (mUp I 0 9 ((I 0 9) + 1)) 39 0 ((I 39 0) + 1)), L)) rfl (mRet_int rfl) ?_
        show mWP mTb_ mFT ro (10, 121, 26, [some (.ref 34), some (.int ((ro 0).2 1)), some (.int ((ro 0).2 2)), none, none, none, none, none], [.int (-2)], 0, 0, (mSH, (mUp (mUp I 0 9 ((I 0 9) + 1)) 39 0 ((I 39 0) + 1)), L)) _
        refine mRt (r := (some (.int (-2)))) (h := (mSH, (mUp (mUp I 0 9 ((I 0 9) + 1)) 39 0 ((I 39 0) + 1)), L)) rfl (mRet_int rfl) ?_
        show mWP mTb_ mFT ro (11, 163, 319, [some (.ref 1000), some (.ref 0), some (.ref 34), some (.int 0)], [.int (-2), .int (-2)], 62, 3336, (mSH, (mUp (mUp I 0 9 ((I 0 9) + 1)) 39 0 ((I 39 0) + 1)), L)) _
        refine mBT (s2 := (11, 163, 808, [some (.ref 1000), some (.ref 0), some (.ref 34), some (.int 0)], [], 62, 3336, (mSH, (mUp (mUp I 0 9 ((I 0 9) + 1)) 39 0 ((I 39 0) + 1)), L))) rfl (by decide) ?_
        exact h3 (of_decide_eq_false c0) (of_decide_eq_false c1) (of_decide_eq_true c2)
      · refine mB 2 (s2 := (10, 81, 18, [some (.ref 0), some (.int ((ro 0).2 1)), some (.int ((ro 0).2 2))], [.int 16, .int ((ro 0).2 2)], 0, 0, (mSH, I, L))) rfl ?_
        refine mBr (s2 := (10, 81, 28, [some (.ref 0), some (.int ((ro 0).2 1)), some (.int ((ro 0).2 2))], [], 0, 0, (mSH, I, L))) (s3 := (10, 81, 21, [some (.ref 0), some (.int ((ro 0).2 1)), some (.int ((ro 0).2 2))], [], 0, 0, (mSH, I, L))) rfl (fun c3 => ?_) (fun c3 => ?_)
        · refine mB 4 (s2 := (10, 81, 34, [some (.ref 0), some (.int ((ro 0).2 1)), some (.int ((ro 0).2 2))], [.int ((ro 0).2 2), .int ((ro 0).2 1), .ref 1], 0, 0, (mSH, I, L))) rfl ?_
          refine mCall (s2 := (9, 71, 0, [some (.ref 1), some (.int ((ro 0).2 1)), some (.int ((ro 0).2 2)), none, none], [], 0, 0, (mSH, I, L))) rfl ?_
          refine w_bd (d := 6) (of_decide_eq_false c2) (of_decide_eq_true c3) (fun J hJ => ?_)
          show mWP mTb_ mFT ro (10, 81, 37, [some (.ref 0), some (.int ((ro 0).2 1)), some (.int ((ro 0).2 2))], [], 0, 0, (mSH, J, L)) _
          refine mB 3 (s2 := (10, 81, 44, [some (.ref 0), some (.int ((ro 0).2 1)), some (.int ((ro 0).2 2))], [.ref 4], 0, 0, (mSH, J, L))) rfl ?_
          refine mCall (s2 := (9, 39, 0, [some (.ref 4)], [], 0, 0, (mSH, J, L))) rfl ?_
          refine mB 2 (s2 := (9, 39, 4, [some (.ref 4)], [.int (J 4 1)], 0, 0, (mSH, J, L))) rfl ?_
          refine mRt (r := (some (.int (J 4 1)))) (h := (mSH, J, L)) rfl (mRet_int rfl) ?_
          show mWP mTb_ mFT ro (10, 81, 47, [some (.ref 0), some (.int ((ro 0).2 1)), some (.int ((ro 0).2 2))], [.int (J 4 1)], 0, 0, (mSH, J, L)) _
          refine mRt (r := (some (.int (J 4 1)))) (h := (mSH, J, L)) rfl (mRet_int rfl) ?_
          show mWP mTb_ mFT ro (11, 163, 305, [some (.ref 1000), some (.ref 0), some (.ref 34), some (.int 0)], [.int (J 4 1)], 62, 3336, (mSH, J, L)) _
          refine mB 5 (s2 := (11, 163, 310, [some (.ref 1000), some (.ref 0), some (.ref 34), some (.int 0)], [.int 1, .ref 1000, .ref 34, .int (J 4 1)], 62, 3336, (mSH, J, L))) rfl ?_
          refine mRq (s2 := (11, 163, 311, [some (.ref 1000), some (.ref 0), some (.ref 34), some (.int 0)], [.int ((ro 0).2 1), .ref 34, .int (J 4 1)], 62, 3336, (mSH, J, L))) rfl (by first | (simp only [f0_9, f0_10, f0_11, f1_2, f2_1, f4_1, f6_0, f6_1, f6_2, f6_3, f7_0, f7_1, f7_2, f7_3, f9_0, f9_1, f9_2, f25_0, f25_1, f26_1, f30_1, f32_1, f34_1, f34_3, f34_4, f34_11, f37_0, f37_1, f37_2, f37_3, f38_0, f38_1, f38_2, f39_0, f39_1, f39_2, f41_0, f41_1, f41_2, f41_3, f41_4, f41_5, g34_7, g34_8, hro0, hro1, hro1_0, hro1_1, hro1_2, hro2, hro2_0, hro2_1, hro2_2, hro13, mTn0, mTn1, mTn2, mTn10, mTs7, mTs8, mTs9]; first | decide | rfl) | decide | rfl) ?_
          refine mB 4 (s2 := (11, 163, 315, [some (.ref 1000), some (.ref 0), some (.ref 34), some (.int 0)], [.int 2, .ref 1000, .int ((ro 0).2 1), .ref 34, .int (J 4 1)], 62, 3336, (mSH, J, L))) rfl ?_
          refine mRq (s2 := (11, 163, 316, [some (.ref 1000), some (.ref 0), some (.ref 34), some (.int 0)], [.int ((ro 0).2 2), .int ((ro 0).2 1), .ref 34, .int (J 4 1)], 62, 3336, (mSH, J, L))) rfl (by first | (simp only [f0_9, f0_10, f0_11, f1_2, f2_1, f4_1, f6_0, f6_1, f6_2, f6_3, f7_0, f7_1, f7_2, f7_3, f9_0, f9_1, f9_2, f25_0, f25_1, f26_1, f30_1, f32_1, f34_1, f34_3, f34_4, f34_11, f37_0, f37_1, f37_2, f37_3, f38_0, f38_1, f38_2, f39_0, f39_1, f39_2, f41_0, f41_1, f41_2, f41_3, f41_4, f41_5, g34_7, g34_8, hro0, hro1, hro1_0, hro1_1, hro1_2, hro2, hro2_0, hro2_1, hro2_2, hro13, mTn0, mTn1, mTn2, mTn10, mTs7, mTs8, mTs9]; first | decide | rfl) | decide | rfl) ?_
          refine mCall (s2 := (10, 121, 0, [some (.ref 34), some (.int ((ro 0).2 1)), some (.int ((ro 0).2 2)), none, none, none, none, none], [], 0, 0, (mSH, J, L))) rfl ?_
          refine w_md (d := 9) (of_decide_eq_false c0) (of_decide_eq_false c1) (of_decide_eq_false c2) (of_decide_eq_true c3) (fun K => ?_)
          show mWP mTb_ mFT ro (11, 163, 319, [some (.ref 1000), some (.ref 0), some (.ref 34), some (.int 0)], [.int (mD ((ro 0).2 1) ((ro 0).2 2)), .int (J 4 1)], 62, 3336, (mSH, K, L)) _
          refine mBT (s2 := (11, 163, 808, [some (.ref 1000), some (.ref 0), some (.ref 34), some (.int 0)], [], 62, 3336, (mSH, K, L))) rfl (decide_eq_true hJ) ?_
          exact h4 (of_decide_eq_false c0) (of_decide_eq_false c1) (of_decide_eq_false c2) (of_decide_eq_true c3) J hJ K
        · refine mB 2 (s2 := (10, 81, 24, [some (.ref 0), some (.int ((ro 0).2 1)), some (.int ((ro 0).2 2))], [.int (-2), .ref 0], 0, 0, (mSH, I, L))) rfl ?_
          refine mCall (s2 := (9, 103, 0, [some (.ref 0), some (.int (-2))], [], 0, 0, (mSH, I, L))) rfl ?_
          refine mB 2 (s2 := (9, 103, 3, [some (.ref 0), some (.int (-2))], [.int (-2), .int (-2)], 0, 0, (mSH, I, L))) rfl ?_
          refine mBT (s2 := (9, 103, 6, [some (.ref 0), some (.int (-2))], [], 0, 0, (mSH, I, L))) rfl (by decide) ?_
          refine mB 8 (s2 := (9, 103, 49, [some (.ref 0), some (.int (-2))], [.int (-2)], 0, 0, (mSH, (mUp I 0 9 ((I 0 9) + 1)), L))) rfl ?_
          refine mRt (r := (some (.int (-2)))) (h := (mSH, (mUp I 0 9 ((I 0 9) + 1)), L)) rfl (mRet_int rfl) ?_
          show mWP mTb_ mFT ro (10, 81, 27, [some (.ref 0), some (.int ((ro 0).2 1)), some (.int ((ro 0).2 2))], [.int (-2)], 0, 0, (mSH, (mUp I 0 9 ((I 0 9) + 1)), L)) _
          refine mRt (r := (some (.int (-2)))) (h := (mSH, (mUp I 0 9 ((I 0 9) + 1)), L)) rfl (mRet_int rfl) ?_
          show mWP mTb_ mFT ro (11, 163, 305, [some (.ref 1000), some (.ref 0), some (.ref 34), some (.int 0)], [.int (-2)], 62, 3336, (mSH, (mUp I 0 9 ((I 0 9) + 1)), L)) _
          refine mB 5 (s2 := (11, 163, 310, [some (.ref 1000), some (.ref 0), some (.ref 34), some (.int 0)], [.int 1, .ref 1000, .ref 34, .int (-2)], 62, 3336, (mSH, (mUp I 0 9 ((I 0 9) + 1)), L))) rfl ?_
          refine mRq (s2 := (11, 163, 311, [some (.ref 1000), some (.ref 0), some (.ref 34), some (.int 0)], [.int ((ro 0).2 1), .ref 34, .int (-2)], 62, 3336, (mSH, (mUp I 0 9 ((I 0 9) + 1)), L))) rfl (by first | (simp only [f0_9, f0_10, f0_11, f1_2, f2_1, f4_1, f6_0, f6_1, f6_2, f6_3, f7_0, f7_1, f7_2, f7_3, f9_0, f9_1, f9_2, f25_0, f25_1, f26_1, f30_1, f32_1, f34_1, f34_3, f34_4, f34_11, f37_0, f37_1, f37_2, f37_3, f38_0, f38_1, f38_2, f39_0, f39_1, f39_2, f41_0, f41_1, f41_2, f41_3, f41_4, f41_5, g34_7, g34_8, hro0, hro1, hro1_0, hro1_1, hro1_2, hro2, hro2_0, hro2_1, hro2_2, hro13, mTn0, mTn1, mTn2, mTn10, mTs7, mTs8, mTs9]; first | decide | rfl) | decide | rfl) ?_
          refine mB 4 (s2 := (11, 163, 315, [some (.ref 1000), some (.ref 0), some (.ref 34), some (.int 0)], [.int 2, .ref 1000, .int ((ro 0).2 1), .ref 34, .int (-2)], 62, 3336, (mSH, (mUp I 0 9 ((I 0 9) + 1)), L))) rfl ?_
          refine mRq (s2 := (11, 163, 316, [some (.ref 1000), some (.ref 0), some (.ref 34), some (.int 0)], [.int ((ro 0).2 2), .int ((ro 0).2 1), .ref 34, .int (-2)], 62, 3336, (mSH, (mUp I 0 9 ((I 0 9) + 1)), L))) rfl (by first | (simp only [f0_9, f0_10, f0_11, f1_2, f2_1, f4_1, f6_0, f6_1, f6_2, f6_3, f7_0, f7_1, f7_2, f7_3, f9_0, f9_1, f9_2, f25_0, f25_1, f26_1, f30_1, f32_1, f34_1, f34_3, f34_4, f34_11, f37_0, f37_1, f37_2, f37_3, f38_0, f38_1, f38_2, f39_0, f39_1, f39_2, f41_0, f41_1, f41_2, f41_3, f41_4, f41_5, g34_7, g34_8, hro0, hro1, hro1_0, hro1_1, hro1_2, hro2, hro2_0, hro2_1, hro2_2, hro13, mTn0, mTn1, mTn2, mTn10, mTs7, mTs8, mTs9]; first | decide | rfl) | decide | rfl) ?_
          refine mCall (s2 := (10, 121, 0, [some (.ref 34), some (.int ((ro 0).2 1)), some (.int ((ro 0).2 2)), none, none, none, none, none], [], 0, 0, (mSH, (mUp I 0 9 ((I 0 9) + 1)), L))) rfl ?_
          refine mB 3 (s2 := (10, 121, 4, [some (.ref 34), some (.int ((ro 0).2 1)), some (.int ((ro 0).2 2)), none, none, none, none, none], [.int 999999, .int 0, .int ((ro 0).2 1)], 0, 0, (mSH, (mUp I 0 9 ((I 0 9) + 1)), L))) rfl ?_
          refine mCall (s2 := (9, 112, 0, [some (.int ((ro 0).2 1)), some (.int 0), some (.int 999999)], [], 0, 0, (mSH, (mUp I 0 9 ((I 0 9) + 1)), L))) rfl ?_
          refine mB 2 (s2 := (9, 112, 2, [some (.int ((ro 0).2 1)), some (.int 0), some (.int 999999)], [.int 0, .int ((ro 0).2 1)], 0, 0, (mSH, (mUp I 0 9 ((I 0 9) + 1)), L))) rfl ?_
          refine mBF (c := decide (((ro 0).2 1) < 0)) (s3 := (9, 112, 5, [some (.int ((ro 0).2 1)), some (.int 0), some (.int 999999)], [], 0, 0, (mSH, (mUp I 0 9 ((I 0 9) + 1)), L))) rfl (decide_eq_false (by have a0 := of_decide_eq_false c0; have a1 := of_decide_eq_false c1; have a2 := of_decide_eq_false c2; have a3 := of_decide_eq_false c3; simp only [f0_9, f0_10, f0_11, f1_2, f2_1, f4_1, f6_0, f6_1, f6_2, f6_3, f7_0, f7_1, f7_2, f7_3, f9_0, f9_1, f9_2, f25_0, f25_1, f26_1, f30_1, f32_1, f34_1, f34_3, f34_4, f34_11, f37_0, f37_1, f37_2, f37_3, f38_0, f38_1, f38_2, f39_0, f39_1, f39_2, f41_0, f41_1, f41_2, f41_3, f41_4, f41_5, g34_7, g34_8, hro0, hro1, hro1_0, hro1_1, hro1_2, hro2, hro2_0, hro2_1, hro2_2, hro13, mTn0, mTn1, mTn2, mTn10, mTs7, mTs8, mTs9, Int32.lt_iff_toInt_lt, Int32.le_iff_toInt_le, ← Int32.toInt_inj, mLi0, mLi1, mLi2, mLi3, mLi4, mLi5, mLi6, mLi7, mLi8, mLi9, mLi16, mLi99, mLi120, mLi127, mLi1584, mLi999999, mLim] at a0 a1 a2 a3 ⊢; omega)) ?_
          refine mB 2 (s2 := (9, 112, 7, [some (.int ((ro 0).2 1)), some (.int 0), some (.int 999999)], [.int 999999, .int ((ro 0).2 1)], 0, 0, (mSH, (mUp I 0 9 ((I 0 9) + 1)), L))) rfl ?_
          refine mBF (c := decide ((999999 : Int32) < ((ro 0).2 1))) (s3 := (9, 112, 10, [some (.int ((ro 0).2 1)), some (.int 0), some (.int 999999)], [], 0, 0, (mSH, (mUp I 0 9 ((I 0 9) + 1)), L))) rfl (decide_eq_false (by have a0 := of_decide_eq_false c0; have a1 := of_decide_eq_false c1; have a2 := of_decide_eq_false c2; have a3 := of_decide_eq_false c3; simp only [f0_9, f0_10, f0_11, f1_2, f2_1, f4_1, f6_0, f6_1, f6_2, f6_3, f7_0, f7_1, f7_2, f7_3, f9_0, f9_1, f9_2, f25_0, f25_1, f26_1, f30_1, f32_1, f34_1, f34_3, f34_4, f34_11, f37_0, f37_1, f37_2, f37_3, f38_0, f38_1, f38_2, f39_0, f39_1, f39_2, f41_0, f41_1, f41_2, f41_3, f41_4, f41_5, g34_7, g34_8, hro0, hro1, hro1_0, hro1_1, hro1_2, hro2, hro2_0, hro2_1, hro2_2, hro13, mTn0, mTn1, mTn2, mTn10, mTs7, mTs8, mTs9, Int32.lt_iff_toInt_lt, Int32.le_iff_toInt_le, ← Int32.toInt_inj, mLi0, mLi1, mLi2, mLi3, mLi4, mLi5, mLi6, mLi7, mLi8, mLi9, mLi16, mLi99, mLi120, mLi127, mLi1584, mLi999999, mLim] at a0 a1 a2 a3 ⊢; omega)) ?_
          refine mB 2 (s2 := (9, 112, 15, [some (.int ((ro 0).2 1)), some (.int 0), some (.int 999999)], [.int 1], 0, 0, (mSH, (mUp I 0 9 ((I 0 9) + 1)), L))) rfl ?_
          refine mRt (r := (some (.int 1))) (h := (mSH, (mUp I 0 9 ((I 0 9) + 1)), L)) rfl rfl ?_
          show mWP mTb_ mFT ro (10, 121, 7, [some (.ref 34), some (.int ((ro 0).2 1)), some (.int ((ro 0).2 2)), none, none, none, none, none], [.int 1], 0, 0, (mSH, (mUp I 0 9 ((I 0 9) + 1)), L)) _
          refine mBF (s3 := (10, 121, 10, [some (.ref 34), some (.int ((ro 0).2 1)), some (.int ((ro 0).2 2)), none, none, none, none, none], [], 0, 0, (mSH, (mUp I 0 9 ((I 0 9) + 1)), L))) rfl (by decide) ?_
          refine mB 3 (s2 := (10, 121, 14, [some (.ref 34), some (.int ((ro 0).2 1)), some (.int ((ro 0).2 2)), none, none, none, none, none], [.int 16, .int 1, .int ((ro 0).2 2)], 0, 0, (mSH, (mUp I 0 9 ((I 0 9) + 1)), L))) rfl ?_
          refine mCall (s2 := (9, 112, 0, [some (.int ((ro 0).2 2)), some (.int 1), some (.int 16)], [], 0, 0, (mSH, (mUp I 0 9 ((I 0 9) + 1)), L))) rfl ?_
          refine mB 2 (s2 := (9, 112, 2, [some (.int ((ro 0).2 2)), some (.int 1), some (.int 16)], [.int 1, .int ((ro 0).2 2)], 0, 0, (mSH, (mUp I 0 9 ((I 0 9) + 1)), L))) rfl ?_
          refine mBF (c := decide (((ro 0).2 2) < 1)) (s3 := (9, 112, 5, [some (.int ((ro 0).2 2)), some (.int 1), some (.int 16)], [], 0, 0, (mSH, (mUp I 0 9 ((I 0 9) + 1)), L))) rfl (decide_eq_false (by have a0 := of_decide_eq_false c0; have a1 := of_decide_eq_false c1; have a2 := of_decide_eq_false c2; have a3 := of_decide_eq_false c3; simp only [f0_9, f0_10, f0_11, f1_2, f2_1, f4_1, f6_0, f6_1, f6_2, f6_3, f7_0, f7_1, f7_2, f7_3, f9_0, f9_1, f9_2, f25_0, f25_1, f26_1, f30_1, f32_1, f34_1, f34_3, f34_4, f34_11, f37_0, f37_1, f37_2, f37_3, f38_0, f38_1, f38_2, f39_0, f39_1, f39_2, f41_0, f41_1, f41_2, f41_3, f41_4, f41_5, g34_7, g34_8, hro0, hro1, hro1_0, hro1_1, hro1_2, hro2, hro2_0, hro2_1, hro2_2, hro13, mTn0, mTn1, mTn2, mTn10, mTs7, mTs8, mTs9, Int32.lt_iff_toInt_lt, Int32.le_iff_toInt_le, ← Int32.toInt_inj, mLi0, mLi1, mLi2, mLi3, mLi4, mLi5, mLi6, mLi7, mLi8, mLi9, mLi16, mLi99, mLi120, mLi127, mLi1584, mLi999999, mLim] at a0 a1 a2 a3 ⊢; omega)) ?_
          refine mB 2 (s2 := (9, 112, 7, [some (.int ((ro 0).2 2)), some (.int 1), some (.int 16)], [.int 16, .int ((ro 0).2 2)], 0, 0, (mSH, (mUp I 0 9 ((I 0 9) + 1)), L))) rfl ?_
          refine mBT (c := decide ((16 : Int32) < ((ro 0).2 2))) (s2 := (9, 112, 14, [some (.int ((ro 0).2 2)), some (.int 1), some (.int 16)], [], 0, 0, (mSH, (mUp I 0 9 ((I 0 9) + 1)), L))) rfl (decide_eq_true (by have a0 := of_decide_eq_false c0; have a1 := of_decide_eq_false c1; have a2 := of_decide_eq_false c2; have a3 := of_decide_eq_false c3; simp only [f0_9, f0_10, f0_11, f1_2, f2_1, f4_1, f6_0, f6_1, f6_2, f6_3, f7_0, f7_1, f7_2, f7_3, f9_0, f9_1, f9_2, f25_0, f25_1, f26_1, f30_1, f32_1, f34_1, f34_3, f34_4, f34_11, f37_0, f37_1, f37_2, f37_3, f38_0, f38_1, f38_2, f39_0, f39_1, f39_2, f41_0, f41_1, f41_2, f41_3, f41_4, f41_5, g34_7, g34_8, hro0, hro1, hro1_0, hro1_1, hro1_2, hro2, hro2_0, hro2_1, hro2_2, hro13, mTn0, mTn1, mTn2, mTn10, mTs7, mTs8, mTs9, Int32.lt_iff_toInt_lt, Int32.le_iff_toInt_le, ← Int32.toInt_inj, mLi0, mLi1, mLi2, mLi3, mLi4, mLi5, mLi6, mLi7, mLi8, mLi9, mLi16, mLi99, mLi120, mLi127, mLi1584, mLi999999, mLim] at a0 a1 a2 a3 ⊢; omega)) ?_
          refine mB 1 (s2 := (9, 112, 15, [some (.int ((ro 0).2 2)), some (.int 1), some (.int 16)], [.int 0], 0, 0, (mSH, (mUp I 0 9 ((I 0 9) + 1)), L))) rfl ?_
          refine mRt (r := (some (.int 0))) (h := (mSH, (mUp I 0 9 ((I 0 9) + 1)), L)) rfl rfl ?_
          show mWP mTb_ mFT ro (10, 121, 17, [some (.ref 34), some (.int ((ro 0).2 1)), some (.int ((ro 0).2 2)), none, none, none, none, none], [.int 0], 0, 0, (mSH, (mUp I 0 9 ((I 0 9) + 1)), L)) _
          refine mBT (s2 := (10, 121, 20, [some (.ref 34), some (.int ((ro 0).2 1)), some (.int ((ro 0).2 2)), none, none, none, none, none], [], 0, 0, (mSH, (mUp I 0 9 ((I 0 9) + 1)), L))) rfl (by decide) ?_
          refine mB 2 (s2 := (10, 121, 23, [some (.ref 34), some (.int ((ro 0).2 1)), some (.int ((ro 0).2 2)), none, none, none, none, none], [.int (-2), .ref 34], 0, 0, (mSH, (mUp I 0 9 ((I 0 9) + 1)), L))) rfl ?_
          refine mCall (s2 := (9, 113, 0, [some (.ref 34), some (.int (-2))], [], 0, 0, (mSH, (mUp I 0 9 ((I 0 9) + 1)), L))) rfl ?_
          refine mB 6 (s2 := (9, 113, 9, [some (.ref 34), some (.int (-2))], [.int 0, .ref 39, .int 0, .ref 39], 0, 0, (mSH, (mUp I 0 9 ((I 0 9) + 1)), L))) rfl ?_
          refine mRq (s2 := (9, 113, 10, [some (.ref 34), some (.int (-2))], [.int (I 39 0), .int 0, .ref 39], 0, 0, (mSH, (mUp I 0 9 ((I 0 9) + 1)), L))) rfl (by decide) ?_
          refine mB 2 (s2 := (9, 113, 12, [some (.ref 34), some (.int (-2))], [.int ((I 39 0) + 1), .int 0, .ref 39], 0, 0, (mSH, (mUp I 0 9 ((I 0 9) + 1)), L))) rfl ?_
          refine mRq (s2 := (9, 113, 13, [some (.ref 34), some (.int (-2))], [], 0, 0, (mSH, (mUp (mUp I 0 9 ((I 0 9) + 1)) 39 0 ((I 39 0) + 1)), L))) rfl (by decide) ?_
          refine mB 1 (s2 := (9, 113, 14, [some (.ref 34), some (.int (-2))], [.int (-2)], 0, 0, (mSH, (mUp (mUp I 0 9 ((I 0 9) + 1)) 39 0 ((I 39 0) + 1)), L))) rfl ?_
          refine mRt (r := (some (.int (-2)))) (h := (mSH, (mUp (mUp I 0 9 ((I 0 9) + 1)) 39 0 ((I 39 0) + 1)), L)) rfl (mRet_int rfl) ?_
          show mWP mTb_ mFT ro (10, 121, 26, [some (.ref 34), some (.int ((ro 0).2 1)), some (.int ((ro 0).2 2)), none, none, none, none, none], [.int (-2)], 0, 0, (mSH, (mUp (mUp I 0 9 ((I 0 9) + 1)) 39 0 ((I 39 0) + 1)), L)) _
          refine mRt (r := (some (.int (-2)))) (h := (mSH, (mUp (mUp I 0 9 ((I 0 9) + 1)) 39 0 ((I 39 0) + 1)), L)) rfl (mRet_int rfl) ?_
          show mWP mTb_ mFT ro (11, 163, 319, [some (.ref 1000), some (.ref 0), some (.ref 34), some (.int 0)], [.int (-2), .int (-2)], 62, 3336, (mSH, (mUp (mUp I 0 9 ((I 0 9) + 1)) 39 0 ((I 39 0) + 1)), L)) _
          refine mBT (s2 := (11, 163, 808, [some (.ref 1000), some (.ref 0), some (.ref 34), some (.int 0)], [], 62, 3336, (mSH, (mUp (mUp I 0 9 ((I 0 9) + 1)) 39 0 ((I 39 0) + 1)), L))) rfl (by decide) ?_
          exact h5 (of_decide_eq_false c0) (of_decide_eq_false c1) (of_decide_eq_false c2) (of_decide_eq_false c3)
