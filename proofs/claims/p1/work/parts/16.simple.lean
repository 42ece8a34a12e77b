/-! Methods without loops, a hypothesis a path: written by a program (wip/mk_simple.py). -/
theorem c_span {ro : Nat → Nat × (Nat → Int32)} {Q : mPo} {I : Nat → Nat → Int32} {L : Nat → Nat → Int64} {v0 : Int32}  (h1 : (v0 < 1) → Q (some (.int (-2))) (mSH, (mUp I 0 9 ((I 0 9) + 1)), L)) (h2 : ¬ (v0 < 1) → ((99 : Int32) < v0) → Q (some (.int (-2))) (mSH, (mUp I 0 9 ((I 0 9) + 1)), L)) (h3 : ¬ (v0 < 1) → ¬ ((99 : Int32) < v0) → ((I 2 1) < 16) → vp_in (I 2 1) 16) (h4 : ¬ (v0 < 1) → ¬ ((99 : Int32) < v0) → ((I 2 1) < 16) → Q (some (.int (((I 2 1) + 1) - 1))) (mSH, (mUp (mUp I 3 ((I 2 1).toNatClampNeg) v0) 2 1 ((I 2 1) + 1)), L)) (h5 : ¬ (v0 < 1) → ¬ ((99 : Int32) < v0) → ¬ ((I 2 1) < 16) → Q (some (.int (-4))) (mSH, (mUp I 0 11 ((I 0 11) + 1)), L)) : mWP mTb_ mFT ro (10, 76, 0, [some (.ref 0), some (.int v0)], [], 0, 0, (mSH, I, L)) Q := by
  refine mB 5 (s2 := (10, 76, 9, [some (.ref 0), some (.int v0)], [.int v0, .ref 2, .ref 0], 0, 0, (mSH, I, L))) rfl ?_
  refine mCall (s2 := (9, 104, 0, [some (.ref 0), some (.ref 2), some (.int v0)], [], 0, 0, (mSH, I, L))) rfl ?_
  refine mB 1 (s2 := (9, 104, 1, [some (.ref 0), some (.ref 2), some (.int v0)], [.int v0], 0, 0, (mSH, I, L))) rfl ?_
  refine mCall (s2 := (8, 109, 0, [some (.int v0)], [], 0, 0, (mSH, I, L))) rfl ?_
  refine mB 2 (s2 := (8, 109, 2, [some (.int v0)], [.int 1, .int v0], 0, 0, (mSH, I, L))) rfl ?_
  refine mBr (s2 := (8, 109, 15, [some (.int v0)], [], 0, 0, (mSH, I, L))) (s3 := (8, 109, 5, [some (.int v0)], [], 0, 0, (mSH, I, L))) rfl (fun c0 => ?_) (fun c0 => ?_)
  · refine mB 1 (s2 := (8, 109, 16, [some (.int v0)], [.int 0], 0, 0, (mSH, I, L))) rfl ?_
    refine mRt (r := (some (.int 0))) (h := (mSH, I, L)) rfl rfl ?_
    show mWP mTb_ mFT ro (9, 104, 4, [some (.ref 0), some (.ref 2), some (.int v0)], [.int 0], 0, 0, (mSH, I, L)) _
    refine mBT (s2 := (9, 104, 7, [some (.ref 0), some (.ref 2), some (.int v0)], [], 0, 0, (mSH, I, L))) rfl (by decide) ?_
    refine mB 2 (s2 := (9, 104, 10, [some (.ref 0), some (.ref 2), some (.int v0)], [.int (-2), .ref 0], 0, 0, (mSH, I, L))) rfl ?_
    refine mCall (s2 := (8, 103, 0, [some (.ref 0), some (.int (-2))], [], 0, 0, (mSH, I, L))) rfl ?_
    refine mB 2 (s2 := (8, 103, 3, [some (.ref 0), some (.int (-2))], [.int (-2), .int (-2)], 0, 0, (mSH, I, L))) rfl ?_
    refine mBT (s2 := (8, 103, 6, [some (.ref 0), some (.int (-2))], [], 0, 0, (mSH, I, L))) rfl (by decide) ?_
    refine mB 8 (s2 := (8, 103, 49, [some (.ref 0), some (.int (-2))], [.int (-2)], 0, 0, (mSH, (mUp I 0 9 ((I 0 9) + 1)), L))) rfl ?_
    refine mRt (r := (some (.int (-2)))) (h := (mSH, (mUp I 0 9 ((I 0 9) + 1)), L)) rfl (mRet_int rfl) ?_
    show mWP mTb_ mFT ro (9, 104, 13, [some (.ref 0), some (.ref 2), some (.int v0)], [.int (-2)], 0, 0, (mSH, (mUp I 0 9 ((I 0 9) + 1)), L)) _
    refine mRt (r := (some (.int (-2)))) (h := (mSH, (mUp I 0 9 ((I 0 9) + 1)), L)) rfl (mRet_int rfl) ?_
    show mWP mTb_ mFT ro (10, 76, 12, [some (.ref 0), some (.int v0)], [.int (-2)], 0, 0, (mSH, (mUp I 0 9 ((I 0 9) + 1)), L)) _
    refine mRt (r := (some (.int (-2)))) (h := (mSH, (mUp I 0 9 ((I 0 9) + 1)), L)) rfl (mRet_int rfl) ?_
    exact h1 (of_decide_eq_true c0)
  · refine mB 2 (s2 := (8, 109, 8, [some (.int v0)], [.int 99, .int v0], 0, 0, (mSH, I, L))) rfl ?_
    refine mBr (s2 := (8, 109, 15, [some (.int v0)], [], 0, 0, (mSH, I, L))) (s3 := (8, 109, 11, [some (.int v0)], [], 0, 0, (mSH, I, L))) rfl (fun c1 => ?_) (fun c1 => ?_)
    · refine mB 1 (s2 := (8, 109, 16, [some (.int v0)], [.int 0], 0, 0, (mSH, I, L))) rfl ?_
      refine mRt (r := (some (.int 0))) (h := (mSH, I, L)) rfl rfl ?_
      show mWP mTb_ mFT ro (9, 104, 4, [some (.ref 0), some (.ref 2), some (.int v0)], [.int 0], 0, 0, (mSH, I, L)) _
      refine mBT (s2 := (9, 104, 7, [some (.ref 0), some (.ref 2), some (.int v0)], [], 0, 0, (mSH, I, L))) rfl (by decide) ?_
      refine mB 2 (s2 := (9, 104, 10, [some (.ref 0), some (.ref 2), some (.int v0)], [.int (-2), .ref 0], 0, 0, (mSH, I, L))) rfl ?_
      refine mCall (s2 := (8, 103, 0, [some (.ref 0), some (.int (-2))], [], 0, 0, (mSH, I, L))) rfl ?_
      refine mB 2 (s2 := (8, 103, 3, [some (.ref 0), some (.int (-2))], [.int (-2), .int (-2)], 0, 0, (mSH, I, L))) rfl ?_
      refine mBT (s2 := (8, 103, 6, [some (.ref 0), some (.int (-2))], [], 0, 0, (mSH, I, L))) rfl (by decide) ?_
      refine mB 8 (s2 := (8, 103, 49, [some (.ref 0), some (.int (-2))], [.int (-2)], 0, 0, (mSH, (mUp I 0 9 ((I 0 9) + 1)), L))) rfl ?_
      refine mRt (r := (some (.int (-2)))) (h := (mSH, (mUp I 0 9 ((I 0 9) + 1)), L)) rfl (mRet_int rfl) ?_
      show mWP mTb_ mFT ro (9, 104, 13, [some (.ref 0), some (.ref 2), some (.int v0)], [.int (-2)], 0, 0, (mSH, (mUp I 0 9 ((I 0 9) + 1)), L)) _
      refine mRt (r := (some (.int (-2)))) (h := (mSH, (mUp I 0 9 ((I 0 9) + 1)), L)) rfl (mRet_int rfl) ?_
      show mWP mTb_ mFT ro (10, 76, 12, [some (.ref 0), some (.int v0)], [.int (-2)], 0, 0, (mSH, (mUp I 0 9 ((I 0 9) + 1)), L)) _
      refine mRt (r := (some (.int (-2)))) (h := (mSH, (mUp I 0 9 ((I 0 9) + 1)), L)) rfl (mRet_int rfl) ?_
      exact h2 (of_decide_eq_false c0) (of_decide_eq_true c1)
    · refine mB 2 (s2 := (8, 109, 16, [some (.int v0)], [.int 1], 0, 0, (mSH, I, L))) rfl ?_
      refine mRt (r := (some (.int 1))) (h := (mSH, I, L)) rfl rfl ?_
      show mWP mTb_ mFT ro (9, 104, 4, [some (.ref 0), some (.ref 2), some (.int v0)], [.int 1], 0, 0, (mSH, I, L)) _
      refine mBF (s3 := (9, 104, 14, [some (.ref 0), some (.ref 2), some (.int v0)], [], 0, 0, (mSH, I, L))) rfl (by decide) ?_
      refine mB 1 (s2 := (9, 104, 15, [some (.ref 0), some (.ref 2), some (.int v0)], [.ref 2], 0, 0, (mSH, I, L))) rfl ?_
      refine mCall (s2 := (8, 40, 0, [some (.ref 2)], [], 0, 0, (mSH, I, L))) rfl ?_
      refine mB 5 (s2 := (8, 40, 9, [some (.ref 2)], [.int 16, .int (I 2 1)], 0, 0, (mSH, I, L))) rfl ?_
      refine mBr (s2 := (8, 40, 16, [some (.ref 2)], [], 0, 0, (mSH, I, L))) (s3 := (8, 40, 12, [some (.ref 2)], [], 0, 0, (mSH, I, L))) rfl (fun c2 => ?_) (fun c2 => ?_)
      · refine mB 1 (s2 := (8, 40, 17, [some (.ref 2)], [.int 0], 0, 0, (mSH, I, L))) rfl ?_
        refine mRt (r := (some (.int 0))) (h := (mSH, I, L)) rfl rfl ?_
        show mWP mTb_ mFT ro (9, 104, 18, [some (.ref 0), some (.ref 2), some (.int v0)], [.int 0], 0, 0, (mSH, I, L)) _
        refine mBT (s2 := (9, 104, 28, [some (.ref 0), some (.ref 2), some (.int v0)], [], 0, 0, (mSH, I, L))) rfl (by decide) ?_
        refine mB 2 (s2 := (9, 104, 30, [some (.ref 0), some (.ref 2), some (.int v0)], [.int v0, .ref 2], 0, 0, (mSH, I, L))) rfl ?_
        refine mCall (s2 := (8, 44, 0, [some (.ref 2), some (.int v0)], [], 0, 0, (mSH, I, L))) rfl ?_
        refine mB 1 (s2 := (8, 44, 1, [some (.ref 2), some (.int v0)], [.ref 2], 0, 0, (mSH, I, L))) rfl ?_
        refine mCall (s2 := (7, 40, 0, [some (.ref 2)], [], 0, 0, (mSH, I, L))) rfl ?_
        refine mB 5 (s2 := (7, 40, 9, [some (.ref 2)], [.int 16, .int (I 2 1)], 0, 0, (mSH, I, L))) rfl ?_
        refine mBT (s2 := (7, 40, 16, [some (.ref 2)], [], 0, 0, (mSH, I, L))) rfl (decide_eq_true (of_decide_eq_true c2)) ?_
        refine mB 1 (s2 := (7, 40, 17, [some (.ref 2)], [.int 0], 0, 0, (mSH, I, L))) rfl ?_
        refine mRt (r := (some (.int 0))) (h := (mSH, I, L)) rfl rfl ?_
        show mWP mTb_ mFT ro (8, 44, 4, [some (.ref 2), some (.int v0)], [.int 0], 0, 0, (mSH, I, L)) _
        refine mBT (s2 := (8, 44, 7, [some (.ref 2), some (.int v0)], [], 0, 0, (mSH, I, L))) rfl (by decide) ?_
        refine mB 5 (s2 := (8, 44, 16, [some (.ref 2), some (.int v0)], [.int v0, .int (I 2 1), .ref 3], 0, 0, (mSH, I, L))) rfl ?_
        refine mRq (s2 := (8, 44, 17, [some (.ref 2), some (.int v0)], [], 0, 0, (mSH, (mUp I 3 ((I 2 1).toNatClampNeg) v0), L))) rfl (mVp_of (h3 (of_decide_eq_false c0) (of_decide_eq_false c1) (of_decide_eq_true c2))) ?_
        refine mB 6 (s2 := (8, 44, 27, [some (.ref 2), some (.int v0)], [], 0, 0, (mSH, (mUp (mUp I 3 ((I 2 1).toNatClampNeg) v0) 2 1 ((I 2 1) + 1)), L))) rfl ?_
        refine mRt (r := none) (h := (mSH, (mUp (mUp I 3 ((I 2 1).toNatClampNeg) v0) 2 1 ((I 2 1) + 1)), L)) rfl rfl ?_
        show mWP mTb_ mFT ro (9, 104, 33, [some (.ref 0), some (.ref 2), some (.int v0)], [], 0, 0, (mSH, (mUp (mUp I 3 ((I 2 1).toNatClampNeg) v0) 2 1 ((I 2 1) + 1)), L)) _
        refine mB 1 (s2 := (9, 104, 34, [some (.ref 0), some (.ref 2), some (.int v0)], [.ref 2], 0, 0, (mSH, (mUp (mUp I 3 ((I 2 1).toNatClampNeg) v0) 2 1 ((I 2 1) + 1)), L))) rfl ?_
        refine mCall (s2 := (8, 39, 0, [some (.ref 2)], [], 0, 0, (mSH, (mUp (mUp I 3 ((I 2 1).toNatClampNeg) v0) 2 1 ((I 2 1) + 1)), L))) rfl ?_
        refine mB 2 (s2 := (8, 39, 4, [some (.ref 2)], [.int ((I 2 1) + 1)], 0, 0, (mSH, (mUp (mUp I 3 ((I 2 1).toNatClampNeg) v0) 2 1 ((I 2 1) + 1)), L))) rfl ?_
        refine mRt (r := (some (.int ((I 2 1) + 1)))) (h := (mSH, (mUp (mUp I 3 ((I 2 1).toNatClampNeg) v0) 2 1 ((I 2 1) + 1)), L)) rfl (mRet_int rfl) ?_
        show mWP mTb_ mFT ro (9, 104, 37, [some (.ref 0), some (.ref 2), some (.int v0)], [.int ((I 2 1) + 1)], 0, 0, (mSH, (mUp (mUp I 3 ((I 2 1).toNatClampNeg) v0) 2 1 ((I 2 1) + 1)), L)) _
        refine mB 2 (s2 := (9, 104, 39, [some (.ref 0), some (.ref 2), some (.int v0)], [.int (((I 2 1) + 1) - 1)], 0, 0, (mSH, (mUp (mUp I 3 ((I 2 1).toNatClampNeg) v0) 2 1 ((I 2 1) + 1)), L))) rfl ?_
        refine mRt (r := (some (.int (((I 2 1) + 1) - 1)))) (h := (mSH, (mUp (mUp I 3 ((I 2 1).toNatClampNeg) v0) 2 1 ((I 2 1) + 1)), L)) rfl (mRet_int rfl) ?_
        show mWP mTb_ mFT ro (10, 76, 12, [some (.ref 0), some (.int v0)], [.int (((I 2 1) + 1) - 1)], 0, 0, (mSH, (mUp (mUp I 3 ((I 2 1).toNatClampNeg) v0) 2 1 ((I 2 1) + 1)), L)) _
        refine mRt (r := (some (.int (((I 2 1) + 1) - 1)))) (h := (mSH, (mUp (mUp I 3 ((I 2 1).toNatClampNeg) v0) 2 1 ((I 2 1) + 1)), L)) rfl (mRet_int rfl) ?_
        exact h4 (of_decide_eq_false c0) (of_decide_eq_false c1) (of_decide_eq_true c2)
      · refine mB 2 (s2 := (8, 40, 17, [some (.ref 2)], [.int 1], 0, 0, (mSH, I, L))) rfl ?_
        refine mRt (r := (some (.int 1))) (h := (mSH, I, L)) rfl rfl ?_
        show mWP mTb_ mFT ro (9, 104, 18, [some (.ref 0), some (.ref 2), some (.int v0)], [.int 1], 0, 0, (mSH, I, L)) _
        refine mBF (s3 := (9, 104, 21, [some (.ref 0), some (.ref 2), some (.int v0)], [], 0, 0, (mSH, I, L))) rfl (by decide) ?_
        refine mB 2 (s2 := (9, 104, 24, [some (.ref 0), some (.ref 2), some (.int v0)], [.int (-4), .ref 0], 0, 0, (mSH, I, L))) rfl ?_
        refine mCall (s2 := (8, 103, 0, [some (.ref 0), some (.int (-4))], [], 0, 0, (mSH, I, L))) rfl ?_
        refine mB 2 (s2 := (8, 103, 3, [some (.ref 0), some (.int (-4))], [.int (-2), .int (-4)], 0, 0, (mSH, I, L))) rfl ?_
        refine mBF (s3 := (8, 103, 19, [some (.ref 0), some (.int (-4))], [], 0, 0, (mSH, I, L))) rfl (by decide) ?_
        refine mB 2 (s2 := (8, 103, 22, [some (.ref 0), some (.int (-4))], [.int (-3), .int (-4)], 0, 0, (mSH, I, L))) rfl ?_
        refine mBF (s3 := (8, 103, 38, [some (.ref 0), some (.int (-4))], [], 0, 0, (mSH, I, L))) rfl (by decide) ?_
        refine mB 7 (s2 := (8, 103, 49, [some (.ref 0), some (.int (-4))], [.int (-4)], 0, 0, (mSH, (mUp I 0 11 ((I 0 11) + 1)), L))) rfl ?_
        refine mRt (r := (some (.int (-4)))) (h := (mSH, (mUp I 0 11 ((I 0 11) + 1)), L)) rfl (mRet_int rfl) ?_
        show mWP mTb_ mFT ro (9, 104, 27, [some (.ref 0), some (.ref 2), some (.int v0)], [.int (-4)], 0, 0, (mSH, (mUp I 0 11 ((I 0 11) + 1)), L)) _
        refine mRt (r := (some (.int (-4)))) (h := (mSH, (mUp I 0 11 ((I 0 11) + 1)), L)) rfl (mRet_int rfl) ?_
        show mWP mTb_ mFT ro (10, 76, 12, [some (.ref 0), some (.int v0)], [.int (-4)], 0, 0, (mSH, (mUp I 0 11 ((I 0 11) + 1)), L)) _
        refine mRt (r := (some (.int (-4)))) (h := (mSH, (mUp I 0 11 ((I 0 11) + 1)), L)) rfl (mRet_int rfl) ?_
        exact h5 (of_decide_eq_false c0) (of_decide_eq_false c1) (of_decide_eq_false c2)
theorem c_layer {ro : Nat → Nat × (Nat → Int32)} {Q : mPo} {I : Nat → Nat → Int32} {L : Nat → Nat → Int64} {v0 : Int32}  (h1 : (v0 < 1) → Q (some (.int (-2))) (mSH, (mUp I 0 9 ((I 0 9) + 1)), L)) (h2 : ¬ (v0 < 1) → ((99 : Int32) < v0) → Q (some (.int (-2))) (mSH, (mUp I 0 9 ((I 0 9) + 1)), L)) (h3 : ¬ (v0 < 1) → ¬ ((99 : Int32) < v0) → ((I 4 1) < 8) → vp_in (I 4 1) 8) (h4 : ¬ (v0 < 1) → ¬ ((99 : Int32) < v0) → ((I 4 1) < 8) → Q (some (.int (((I 4 1) + 1) - 1))) (mSH, (mUp (mUp I 5 ((I 4 1).toNatClampNeg) v0) 4 1 ((I 4 1) + 1)), L)) (h5 : ¬ (v0 < 1) → ¬ ((99 : Int32) < v0) → ¬ ((I 4 1) < 8) → Q (some (.int (-4))) (mSH, (mUp I 0 11 ((I 0 11) + 1)), L)) : mWP mTb_ mFT ro (10, 77, 0, [some (.ref 0), some (.int v0)], [], 0, 0, (mSH, I, L)) Q := by
  refine mB 5 (s2 := (10, 77, 9, [some (.ref 0), some (.int v0)], [.int v0, .ref 4, .ref 0], 0, 0, (mSH, I, L))) rfl ?_
  refine mCall (s2 := (9, 104, 0, [some (.ref 0), some (.ref 4), some (.int v0)], [], 0, 0, (mSH, I, L))) rfl ?_
  refine mB 1 (s2 := (9, 104, 1, [some (.ref 0), some (.ref 4), some (.int v0)], [.int v0], 0, 0, (mSH, I, L))) rfl ?_
  refine mCall (s2 := (8, 109, 0, [some (.int v0)], [], 0, 0, (mSH, I, L))) rfl ?_
  refine mB 2 (s2 := (8, 109, 2, [some (.int v0)], [.int 1, .int v0], 0, 0, (mSH, I, L))) rfl ?_
  refine mBr (s2 := (8, 109, 15, [some (.int v0)], [], 0, 0, (mSH, I, L))) (s3 := (8, 109, 5, [some (.int v0)], [], 0, 0, (mSH, I, L))) rfl (fun c0 => ?_) (fun c0 => ?_)
  · refine mB 1 (s2 := (8, 109, 16, [some (.int v0)], [.int 0], 0, 0, (mSH, I, L))) rfl ?_
    refine mRt (r := (some (.int 0))) (h := (mSH, I, L)) rfl rfl ?_
    show mWP mTb_ mFT ro (9, 104, 4, [some (.ref 0), some (.ref 4), some (.int v0)], [.int 0], 0, 0, (mSH, I, L)) _
    refine mBT (s2 := (9, 104, 7, [some (.ref 0), some (.ref 4), some (.int v0)], [], 0, 0, (mSH, I, L))) rfl (by decide) ?_
    refine mB 2 (s2 := (9, 104, 10, [some (.ref 0), some (.ref 4), some (.int v0)], [.int (-2), .ref 0], 0, 0, (mSH, I, L))) rfl ?_
    refine mCall (s2 := (8, 103, 0, [some (.ref 0), some (.int (-2))], [], 0, 0, (mSH, I, L))) rfl ?_
    refine mB 2 (s2 := (8, 103, 3, [some (.ref 0), some (.int (-2))], [.int (-2), .int (-2)], 0, 0, (mSH, I, L))) rfl ?_
    refine mBT (s2 := (8, 103, 6, [some (.ref 0), some (.int (-2))], [], 0, 0, (mSH, I, L))) rfl (by decide) ?_
    refine mB 8 (s2 := (8, 103, 49, [some (.ref 0), some (.int (-2))], [.int (-2)], 0, 0, (mSH, (mUp I 0 9 ((I 0 9) + 1)), L))) rfl ?_
    refine mRt (r := (some (.int (-2)))) (h := (mSH, (mUp I 0 9 ((I 0 9) + 1)), L)) rfl (mRet_int rfl) ?_
    show mWP mTb_ mFT ro (9, 104, 13, [some (.ref 0), some (.ref 4), some (.int v0)], [.int (-2)], 0, 0, (mSH, (mUp I 0 9 ((I 0 9) + 1)), L)) _
    refine mRt (r := (some (.int (-2)))) (h := (mSH, (mUp I 0 9 ((I 0 9) + 1)), L)) rfl (mRet_int rfl) ?_
    show mWP mTb_ mFT ro (10, 77, 12, [some (.ref 0), some (.int v0)], [.int (-2)], 0, 0, (mSH, (mUp I 0 9 ((I 0 9) + 1)), L)) _
    refine mRt (r := (some (.int (-2)))) (h := (mSH, (mUp I 0 9 ((I 0 9) + 1)), L)) rfl (mRet_int rfl) ?_
    exact h1 (of_decide_eq_true c0)
  · refine mB 2 (s2 := (8, 109, 8, [some (.int v0)], [.int 99, .int v0], 0, 0, (mSH, I, L))) rfl ?_
    refine mBr (s2 := (8, 109, 15, [some (.int v0)], [], 0, 0, (mSH, I, L))) (s3 := (8, 109, 11, [some (.int v0)], [], 0, 0, (mSH, I, L))) rfl (fun c1 => ?_) (fun c1 => ?_)
    · refine mB 1 (s2 := (8, 109, 16, [some (.int v0)], [.int 0], 0, 0, (mSH, I, L))) rfl ?_
      refine mRt (r := (some (.int 0))) (h := (mSH, I, L)) rfl rfl ?_
      show mWP mTb_ mFT ro (9, 104, 4, [some (.ref 0), some (.ref 4), some (.int v0)], [.int 0], 0, 0, (mSH, I, L)) _
      refine mBT (s2 := (9, 104, 7, [some (.ref 0), some (.ref 4), some (.int v0)], [], 0, 0, (mSH, I, L))) rfl (by decide) ?_
      refine mB 2 (s2 := (9, 104, 10, [some (.ref 0), some (.ref 4), some (.int v0)], [.int (-2), .ref 0], 0, 0, (mSH, I, L))) rfl ?_
      refine mCall (s2 := (8, 103, 0, [some (.ref 0), some (.int (-2))], [], 0, 0, (mSH, I, L))) rfl ?_
      refine mB 2 (s2 := (8, 103, 3, [some (.ref 0), some (.int (-2))], [.int (-2), .int (-2)], 0, 0, (mSH, I, L))) rfl ?_
      refine mBT (s2 := (8, 103, 6, [some (.ref 0), some (.int (-2))], [], 0, 0, (mSH, I, L))) rfl (by decide) ?_
      refine mB 8 (s2 := (8, 103, 49, [some (.ref 0), some (.int (-2))], [.int (-2)], 0, 0, (mSH, (mUp I 0 9 ((I 0 9) + 1)), L))) rfl ?_
      refine mRt (r := (some (.int (-2)))) (h := (mSH, (mUp I 0 9 ((I 0 9) + 1)), L)) rfl (mRet_int rfl) ?_
      show mWP mTb_ mFT ro (9, 104, 13, [some (.ref 0), some (.ref 4), some (.int v0)], [.int (-2)], 0, 0, (mSH, (mUp I 0 9 ((I 0 9) + 1)), L)) _
      refine mRt (r := (some (.int (-2)))) (h := (mSH, (mUp I 0 9 ((I 0 9) + 1)), L)) rfl (mRet_int rfl) ?_
      show mWP mTb_ mFT ro (10, 77, 12, [some (.ref 0), some (.int v0)], [.int (-2)], 0, 0, (mSH, (mUp I 0 9 ((I 0 9) + 1)), L)) _
      refine mRt (r := (some (.int (-2)))) (h := (mSH, (mUp I 0 9 ((I 0 9) + 1)), L)) rfl (mRet_int rfl) ?_
      exact h2 (of_decide_eq_false c0) (of_decide_eq_true c1)
    · refine mB 2 (s2 := (8, 109, 16, [some (.int v0)], [.int 1], 0, 0, (mSH, I, L))) rfl ?_
      refine mRt (r := (some (.int 1))) (h := (mSH, I, L)) rfl rfl ?_
      show mWP mTb_ mFT ro (9, 104, 4, [some (.ref 0), some (.ref 4), some (.int v0)], [.int 1], 0, 0, (mSH, I, L)) _
      refine mBF (s3 := (9, 104, 14, [some (.ref 0), some (.ref 4), some (.int v0)], [], 0, 0, (mSH, I, L))) rfl (by decide) ?_
      refine mB 1 (s2 := (9, 104, 15, [some (.ref 0), some (.ref 4), some (.int v0)], [.ref 4], 0, 0, (mSH, I, L))) rfl ?_
      refine mCall (s2 := (8, 40, 0, [some (.ref 4)], [], 0, 0, (mSH, I, L))) rfl ?_
      refine mB 5 (s2 := (8, 40, 9, [some (.ref 4)], [.int 8, .int (I 4 1)], 0, 0, (mSH, I, L))) rfl ?_
      refine mBr (s2 := (8, 40, 16, [some (.ref 4)], [], 0, 0, (mSH, I, L))) (s3 := (8, 40, 12, [some (.ref 4)], [], 0, 0, (mSH, I, L))) rfl (fun c2 => ?_) (fun c2 => ?_)
      · refine mB 1 (s2 := (8, 40, 17, [some (.ref 4)], [.int 0], 0, 0, (mSH, I, L))) rfl ?_
        refine mRt (r := (some (.int 0))) (h := (mSH, I, L)) rfl rfl ?_
        show mWP mTb_ mFT ro (9, 104, 18, [some (.ref 0), some (.ref 4), some (.int v0)], [.int 0], 0, 0, (mSH, I, L)) _
        refine mBT (s2 := (9, 104, 28, [some (.ref 0), some (.ref 4), some (.int v0)], [], 0, 0, (mSH, I, L))) rfl (by decide) ?_
        refine mB 2 (s2 := (9, 104, 30, [some (.ref 0), some (.ref 4), some (.int v0)], [.int v0, .ref 4], 0, 0, (mSH, I, L))) rfl ?_
        refine mCall (s2 := (8, 44, 0, [some (.ref 4), some (.int v0)], [], 0, 0, (mSH, I, L))) rfl ?_
        refine mB 1 (s2 := (8, 44, 1, [some (.ref 4), some (.int v0)], [.ref 4], 0, 0, (mSH, I, L))) rfl ?_
        refine mCall (s2 := (7, 40, 0, [some (.ref 4)], [], 0, 0, (mSH, I, L))) rfl ?_
        refine mB 5 (s2 := (7, 40, 9, [some (.ref 4)], [.int 8, .int (I 4 1)], 0, 0, (mSH, I, L))) rfl ?_
        refine mBT (s2 := (7, 40, 16, [some (.ref 4)], [], 0, 0, (mSH, I, L))) rfl (decide_eq_true (of_decide_eq_true c2)) ?_
        refine mB 1 (s2 := (7, 40, 17, [some (.ref 4)], [.int 0], 0, 0, (mSH, I, L))) rfl ?_
        refine mRt (r := (some (.int 0))) (h := (mSH, I, L)) rfl rfl ?_
        show mWP mTb_ mFT ro (8, 44, 4, [some (.ref 4), some (.int v0)], [.int 0], 0, 0, (mSH, I, L)) _
        refine mBT (s2 := (8, 44, 7, [some (.ref 4), some (.int v0)], [], 0, 0, (mSH, I, L))) rfl (by decide) ?_
        refine mB 5 (s2 := (8, 44, 16, [some (.ref 4), some (.int v0)], [.int v0, .int (I 4 1), .ref 5], 0, 0, (mSH, I, L))) rfl ?_
        refine mRq (s2 := (8, 44, 17, [some (.ref 4), some (.int v0)], [], 0, 0, (mSH, (mUp I 5 ((I 4 1).toNatClampNeg) v0), L))) rfl (mVp_of (h3 (of_decide_eq_false c0) (of_decide_eq_false c1) (of_decide_eq_true c2))) ?_
        refine mB 6 (s2 := (8, 44, 27, [some (.ref 4), some (.int v0)], [], 0, 0, (mSH, (mUp (mUp I 5 ((I 4 1).toNatClampNeg) v0) 4 1 ((I 4 1) + 1)), L))) rfl ?_
        refine mRt (r := none) (h := (mSH, (mUp (mUp I 5 ((I 4 1).toNatClampNeg) v0) 4 1 ((I 4 1) + 1)), L)) rfl rfl ?_
        show mWP mTb_ mFT ro (9, 104, 33, [some (.ref 0), some (.ref 4), some (.int v0)], [], 0, 0, (mSH, (mUp (mUp I 5 ((I 4 1).toNatClampNeg) v0) 4 1 ((I 4 1) + 1)), L)) _
        refine mB 1 (s2 := (9, 104, 34, [some (.ref 0), some (.ref 4), some (.int v0)], [.ref 4], 0, 0, (mSH, (mUp (mUp I 5 ((I 4 1).toNatClampNeg) v0) 4 1 ((I 4 1) + 1)), L))) rfl ?_
        refine mCall (s2 := (8, 39, 0, [some (.ref 4)], [], 0, 0, (mSH, (mUp (mUp I 5 ((I 4 1).toNatClampNeg) v0) 4 1 ((I 4 1) + 1)), L))) rfl ?_
        refine mB 2 (s2 := (8, 39, 4, [some (.ref 4)], [.int ((I 4 1) + 1)], 0, 0, (mSH, (mUp (mUp I 5 ((I 4 1).toNatClampNeg) v0) 4 1 ((I 4 1) + 1)), L))) rfl ?_
        refine mRt (r := (some (.int ((I 4 1) + 1)))) (h := (mSH, (mUp (mUp I 5 ((I 4 1).toNatClampNeg) v0) 4 1 ((I 4 1) + 1)), L)) rfl (mRet_int rfl) ?_
        show mWP mTb_ mFT ro (9, 104, 37, [some (.ref 0), some (.ref 4), some (.int v0)], [.int ((I 4 1) + 1)], 0, 0, (mSH, (mUp (mUp I 5 ((I 4 1).toNatClampNeg) v0) 4 1 ((I 4 1) + 1)), L)) _
        refine mB 2 (s2 := (9, 104, 39, [some (.ref 0), some (.ref 4), some (.int v0)], [.int (((I 4 1) + 1) - 1)], 0, 0, (mSH, (mUp (mUp I 5 ((I 4 1).toNatClampNeg) v0) 4 1 ((I 4 1) + 1)), L))) rfl ?_
        refine mRt (r := (some (.int (((I 4 1) + 1) - 1)))) (h := (mSH, (mUp (mUp I 5 ((I 4 1).toNatClampNeg) v0) 4 1 ((I 4 1) + 1)), L)) rfl (mRet_int rfl) ?_
        show mWP mTb_ mFT ro (10, 77, 12, [some (.ref 0), some (.int v0)], [.int (((I 4 1) + 1) - 1)], 0, 0, (mSH, (mUp (mUp I 5 ((I 4 1).toNatClampNeg) v0) 4 1 ((I 4 1) + 1)), L)) _
        refine mRt (r := (some (.int (((I 4 1) + 1) - 1)))) (h := (mSH, (mUp (mUp I 5 ((I 4 1).toNatClampNeg) v0) 4 1 ((I 4 1) + 1)), L)) rfl (mRet_int rfl) ?_
        exact h4 (of_decide_eq_false c0) (of_decide_eq_false c1) (of_decide_eq_true c2)
      · refine mB 2 (s2 := (8, 40, 17, [some (.ref 4)], [.int 1], 0, 0, (mSH, I, L))) rfl ?_
        refine mRt (r := (some (.int 1))) (h := (mSH, I, L)) rfl rfl ?_
        show mWP mTb_ mFT ro (9, 104, 18, [some (.ref 0), some (.ref 4), some (.int v0)], [.int 1], 0, 0, (mSH, I, L)) _
        refine mBF (s3 := (9, 104, 21, [some (.ref 0), some (.ref 4), some (.int v0)], [], 0, 0, (mSH, I, L))) rfl (by decide) ?_
        refine mB 2 (s2 := (9, 104, 24, [some (.ref 0), some (.ref 4), some (.int v0)], [.int (-4), .ref 0], 0, 0, (mSH, I, L))) rfl ?_
        refine mCall (s2 := (8, 103, 0, [some (.ref 0), some (.int (-4))], [], 0, 0, (mSH, I, L))) rfl ?_
        refine mB 2 (s2 := (8, 103, 3, [some (.ref 0), some (.int (-4))], [.int (-2), .int (-4)], 0, 0, (mSH, I, L))) rfl ?_
        refine mBF (s3 := (8, 103, 19, [some (.ref 0), some (.int (-4))], [], 0, 0, (mSH, I, L))) rfl (by decide) ?_
        refine mB 2 (s2 := (8, 103, 22, [some (.ref 0), some (.int (-4))], [.int (-3), .int (-4)], 0, 0, (mSH, I, L))) rfl ?_
        refine mBF (s3 := (8, 103, 38, [some (.ref 0), some (.int (-4))], [], 0, 0, (mSH, I, L))) rfl (by decide) ?_
        refine mB 7 (s2 := (8, 103, 49, [some (.ref 0), some (.int (-4))], [.int (-4)], 0, 0, (mSH, (mUp I 0 11 ((I 0 11) + 1)), L))) rfl ?_
        refine mRt (r := (some (.int (-4)))) (h := (mSH, (mUp I 0 11 ((I 0 11) + 1)), L)) rfl (mRet_int rfl) ?_
        show mWP mTb_ mFT ro (9, 104, 27, [some (.ref 0), some (.ref 4), some (.int v0)], [.int (-4)], 0, 0, (mSH, (mUp I 0 11 ((I 0 11) + 1)), L)) _
        refine mRt (r := (some (.int (-4)))) (h := (mSH, (mUp I 0 11 ((I 0 11) + 1)), L)) rfl (mRet_int rfl) ?_
        show mWP mTb_ mFT ro (10, 77, 12, [some (.ref 0), some (.int v0)], [.int (-4)], 0, 0, (mSH, (mUp I 0 11 ((I 0 11) + 1)), L)) _
        refine mRt (r := (some (.int (-4)))) (h := (mSH, (mUp I 0 11 ((I 0 11) + 1)), L)) rfl (mRet_int rfl) ?_
        exact h5 (of_decide_eq_false c0) (of_decide_eq_false c1) (of_decide_eq_false c2)
theorem c_points {ro : Nat → Nat × (Nat → Int32)} {Q : mPo} {I : Nat → Nat → Int32} {L : Nat → Nat → Int64} {v0 : Int32}  (h1 : (v0 = 0) → Q (some (.int (I 1 2))) (mSH, (mUp I 1 2 v0), L)) (h2 : ¬ (v0 = 0) → (v0 = 1) → Q (some (.int (I 1 2))) (mSH, (mUp I 1 2 v0), L)) (h3 : ¬ (v0 = 0) → ¬ (v0 = 1) → Q (some (.int (-2))) (mSH, (mUp I 0 9 ((I 0 9) + 1)), L)) : mWP mTb_ mFT ro (10, 78, 0, [some (.ref 0), some (.int v0), none], [], 0, 0, (mSH, I, L)) Q := by
  refine mB 1 (s2 := (10, 78, 1, [some (.ref 0), some (.int v0), none], [.int v0], 0, 0, (mSH, I, L))) rfl ?_
  refine mCall (s2 := (9, 108, 0, [some (.int v0)], [], 0, 0, (mSH, I, L))) rfl ?_
  refine mB 1 (s2 := (9, 108, 1, [some (.int v0)], [.int v0], 0, 0, (mSH, I, L))) rfl ?_
  refine mBr (s2 := (9, 108, 9, [some (.int v0)], [], 0, 0, (mSH, I, L))) (s3 := (9, 108, 4, [some (.int v0)], [], 0, 0, (mSH, I, L))) rfl (fun c0 => ?_) (fun c0 => ?_)
  · refine mB 2 (s2 := (9, 108, 14, [some (.int v0)], [.int 1], 0, 0, (mSH, I, L))) rfl ?_
    refine mRt (r := (some (.int 1))) (h := (mSH, I, L)) rfl rfl ?_
    show mWP mTb_ mFT ro (10, 78, 4, [some (.ref 0), some (.int v0), none], [.int 1], 0, 0, (mSH, I, L)) _
    refine mBF (s3 := (10, 78, 14, [some (.ref 0), some (.int v0), none], [], 0, 0, (mSH, I, L))) rfl (by decide) ?_
    refine mB 9 (s2 := (10, 78, 31, [some (.ref 0), some (.int v0), some (.int (I 1 2))], [.int (I 1 2)], 0, 0, (mSH, (mUp I 1 2 v0), L))) rfl ?_
    refine mRt (r := (some (.int (I 1 2)))) (h := (mSH, (mUp I 1 2 v0), L)) rfl (mRet_int rfl) ?_
    exact h1 (of_decide_eq_true c0)
  · refine mB 2 (s2 := (9, 108, 6, [some (.int v0)], [.int 1, .int v0], 0, 0, (mSH, I, L))) rfl ?_
    refine mBr (s2 := (9, 108, 9, [some (.int v0)], [], 0, 0, (mSH, I, L))) (s3 := (9, 108, 13, [some (.int v0)], [], 0, 0, (mSH, I, L))) rfl (fun c1 => ?_) (fun c1 => ?_)
    · refine mB 2 (s2 := (9, 108, 14, [some (.int v0)], [.int 1], 0, 0, (mSH, I, L))) rfl ?_
      refine mRt (r := (some (.int 1))) (h := (mSH, I, L)) rfl rfl ?_
      show mWP mTb_ mFT ro (10, 78, 4, [some (.ref 0), some (.int v0), none], [.int 1], 0, 0, (mSH, I, L)) _
      refine mBF (s3 := (10, 78, 14, [some (.ref 0), some (.int v0), none], [], 0, 0, (mSH, I, L))) rfl (by decide) ?_
      refine mB 9 (s2 := (10, 78, 31, [some (.ref 0), some (.int v0), some (.int (I 1 2))], [.int (I 1 2)], 0, 0, (mSH, (mUp I 1 2 v0), L))) rfl ?_
      refine mRt (r := (some (.int (I 1 2)))) (h := (mSH, (mUp I 1 2 v0), L)) rfl (mRet_int rfl) ?_
      exact h2 (of_decide_eq_false c0) (of_decide_eq_true c1)
    · refine mB 1 (s2 := (9, 108, 14, [some (.int v0)], [.int 0], 0, 0, (mSH, I, L))) rfl ?_
      refine mRt (r := (some (.int 0))) (h := (mSH, I, L)) rfl rfl ?_
      show mWP mTb_ mFT ro (10, 78, 4, [some (.ref 0), some (.int v0), none], [.int 0], 0, 0, (mSH, I, L)) _
      refine mBT (s2 := (10, 78, 7, [some (.ref 0), some (.int v0), none], [], 0, 0, (mSH, I, L))) rfl (by decide) ?_
      refine mB 2 (s2 := (10, 78, 10, [some (.ref 0), some (.int v0), none], [.int (-2), .ref 0], 0, 0, (mSH, I, L))) rfl ?_
      refine mCall (s2 := (9, 103, 0, [some (.ref 0), some (.int (-2))], [], 0, 0, (mSH, I, L))) rfl ?_
      refine mB 2 (s2 := (9, 103, 3, [some (.ref 0), some (.int (-2))], [.int (-2), .int (-2)], 0, 0, (mSH, I, L))) rfl ?_
      refine mBT (s2 := (9, 103, 6, [some (.ref 0), some (.int (-2))], [], 0, 0, (mSH, I, L))) rfl (by decide) ?_
      refine mB 8 (s2 := (9, 103, 49, [some (.ref 0), some (.int (-2))], [.int (-2)], 0, 0, (mSH, (mUp I 0 9 ((I 0 9) + 1)), L))) rfl ?_
      refine mRt (r := (some (.int (-2)))) (h := (mSH, (mUp I 0 9 ((I 0 9) + 1)), L)) rfl (mRet_int rfl) ?_
      show mWP mTb_ mFT ro (10, 78, 13, [some (.ref 0), some (.int v0), none], [.int (-2)], 0, 0, (mSH, (mUp I 0 9 ((I 0 9) + 1)), L)) _
      refine mRt (r := (some (.int (-2)))) (h := (mSH, (mUp I 0 9 ((I 0 9) + 1)), L)) rfl (mRet_int rfl) ?_
      exact h3 (of_decide_eq_false c0) (of_decide_eq_false c1)
