/-! begins and mildest, exactly. Written by a program (wip/mk_c.py). -/
theorem s_bgx {ro : Nat → Nat × (Nat → Int32)} {Q : mPo} {d : Nat} {I : Nat → Nat → Int32} {L : Nat → Nat → Int64} {b : Int32} {k : Nat}  (h1 : ((I 2 1) ≤ (nI k)) → Q (some (.int b)) (mSH, I, L)) (h2 : ¬ ((I 2 1) ≤ (nI k)) → ((nI k) < 0) → ((I 12 153) = 1000000000) → mWP mTb_ mFT ro (d + 7, 89, 8, [some (.ref 0), some (.int b), some (.int ((nI k) + 1))], [], 0, 0, (mSH, I, L)) Q) (h3 : ¬ ((I 2 1) ≤ (nI k)) → ((nI k) < 0) → ¬ ((I 12 153) = 1000000000) → ((I 12 153) = (-1)) → mWP mTb_ mFT ro (d + 7, 89, 8, [some (.ref 0), some (.int b), some (.int ((nI k) + 1))], [], 0, 0, (mSH, I, L)) Q) (h4 : ¬ ((I 2 1) ≤ (nI k)) → ((nI k) < 0) → ¬ ((I 12 153) = 1000000000) → ¬ ((I 12 153) = (-1)) → mWP mTb_ mFT ro (d + 7, 89, 8, [some (.ref 0), some (.int (b ||| (1 <<< ((nI k) &&& 31)))), some (.int ((nI k) + 1))], [], 0, 0, (mSH, I, L)) Q) (h5 : ¬ ((I 2 1) ≤ (nI k)) → ¬ ((nI k) < 0) → ((16 : Int32) < (nI k)) → ((I 12 153) = 1000000000) → mWP mTb_ mFT ro (d + 7, 89, 8, [some (.ref 0), some (.int b), some (.int ((nI k) + 1))], [], 0, 0, (mSH, I, L)) Q) (h6 : ¬ ((I 2 1) ≤ (nI k)) → ¬ ((nI k) < 0) → ((16 : Int32) < (nI k)) → ¬ ((I 12 153) = 1000000000) → ((I 12 153) = (-1)) → mWP mTb_ mFT ro (d + 7, 89, 8, [some (.ref 0), some (.int b), some (.int ((nI k) + 1))], [], 0, 0, (mSH, I, L)) Q) (h7 : ¬ ((I 2 1) ≤ (nI k)) → ¬ ((nI k) < 0) → ((16 : Int32) < (nI k)) → ¬ ((I 12 153) = 1000000000) → ¬ ((I 12 153) = (-1)) → mWP mTb_ mFT ro (d + 7, 89, 8, [some (.ref 0), some (.int (b ||| (1 <<< ((nI k) &&& 31)))), some (.int ((nI k) + 1))], [], 0, 0, (mSH, I, L)) Q) (h8 : ¬ ((I 2 1) ≤ (nI k)) → ¬ ((nI k) < 0) → ¬ ((16 : Int32) < (nI k)) → vp_in (0 + (nI k)) 154) (h9 : ¬ ((I 2 1) ≤ (nI k)) → ¬ ((nI k) < 0) → ¬ ((16 : Int32) < (nI k)) → ((I 12 ((0 + (nI k)).toNatClampNeg)) = 1000000000) → mWP mTb_ mFT ro (d + 7, 89, 8, [some (.ref 0), some (.int b), some (.int ((nI k) + 1))], [], 0, 0, (mSH, I, L)) Q) (h10 : ¬ ((I 2 1) ≤ (nI k)) → ¬ ((nI k) < 0) → ¬ ((16 : Int32) < (nI k)) → ¬ ((I 12 ((0 + (nI k)).toNatClampNeg)) = 1000000000) → vp_in (0 + (nI k)) 154) (h11 : ¬ ((I 2 1) ≤ (nI k)) → ¬ ((nI k) < 0) → ¬ ((16 : Int32) < (nI k)) → ¬ ((I 12 ((0 + (nI k)).toNatClampNeg)) = 1000000000) → ((I 12 ((0 + (nI k)).toNatClampNeg)) = (-1)) → mWP mTb_ mFT ro (d + 7, 89, 8, [some (.ref 0), some (.int b), some (.int ((nI k) + 1))], [], 0, 0, (mSH, I, L)) Q) (h12 : ¬ ((I 2 1) ≤ (nI k)) → ¬ ((nI k) < 0) → ¬ ((16 : Int32) < (nI k)) → ¬ ((I 12 ((0 + (nI k)).toNatClampNeg)) = 1000000000) → ¬ ((I 12 ((0 + (nI k)).toNatClampNeg)) = (-1)) → mWP mTb_ mFT ro (d + 7, 89, 8, [some (.ref 0), some (.int (b ||| (1 <<< ((nI k) &&& 31)))), some (.int ((nI k) + 1))], [], 0, 0, (mSH, I, L)) Q) : mWP mTb_ mFT ro (d + 7, 89, 8, [some (.ref 0), some (.int b), some (.int (nI k))], [], 0, 0, (mSH, I, L)) Q := by
  refine mB 4 (s2 := (d + 7, 89, 16, [some (.ref 0), some (.int b), some (.int (nI k))], [.ref 2, .int (nI k)], 0, 0, (mSH, I, L))) rfl ?_
  refine mCall (s2 := (d + 6, 39, 0, [some (.ref 2)], [], 0, 0, (mSH, I, L))) rfl ?_
  refine mB 2 (s2 := (d + 6, 39, 4, [some (.ref 2)], [.int (I 2 1)], 0, 0, (mSH, I, L))) rfl ?_
  refine mRt (r := (some (.int (I 2 1)))) (h := (mSH, I, L)) rfl (mRet_int rfl) ?_
  show mWP mTb_ mFT ro (d + 7, 89, 19, [some (.ref 0), some (.int b), some (.int (nI k))], [.int (I 2 1), .int (nI k)], 0, 0, (mSH, I, L)) _
  refine mBr (s2 := (d + 7, 89, 46, [some (.ref 0), some (.int b), some (.int (nI k))], [], 0, 0, (mSH, I, L))) (s3 := (d + 7, 89, 22, [some (.ref 0), some (.int b), some (.int (nI k))], [], 0, 0, (mSH, I, L))) rfl (fun c0 => ?_) (fun c0 => ?_)
  · refine mB 1 (s2 := (d + 7, 89, 47, [some (.ref 0), some (.int b), some (.int (nI k))], [.int b], 0, 0, (mSH, I, L))) rfl ?_
    refine mRt (r := (some (.int b))) (h := (mSH, I, L)) rfl (mRet_int rfl) ?_
    exact h1 (of_decide_eq_true c0)
  · refine mB 3 (s2 := (d + 7, 89, 27, [some (.ref 0), some (.int b), some (.int (nI k))], [.int (nI k), .ref 10], 0, 0, (mSH, I, L))) rfl ?_
    refine mCall (s2 := (d + 6, 62, 0, [some (.ref 10), some (.int (nI k))], [], 0, 0, (mSH, I, L))) rfl ?_
    refine mB 3 (s2 := (d + 6, 62, 3, [some (.ref 10), some (.int (nI k))], [.int (nI k), .int 0, .ref 10], 0, 0, (mSH, I, L))) rfl ?_
    refine mCall (s2 := (d + 5, 59, 0, [some (.int 0), some (.int (nI k)), none], [], 0, 0, (mSH, I, L))) rfl ?_
    refine mB 1 (s2 := (d + 5, 59, 1, [some (.int 0), some (.int (nI k)), none], [.int 0], 0, 0, (mSH, I, L))) rfl ?_
    refine mBF (s3 := (d + 5, 59, 4, [some (.int 0), some (.int (nI k)), none], [], 0, 0, (mSH, I, L))) rfl (by decide) ?_
    refine mB 2 (s2 := (d + 5, 59, 7, [some (.int 0), some (.int (nI k)), none], [.int 8, .int 0], 0, 0, (mSH, I, L))) rfl ?_
    refine mBF (s3 := (d + 5, 59, 10, [some (.int 0), some (.int (nI k)), none], [], 0, 0, (mSH, I, L))) rfl (by decide) ?_
    refine mB 1 (s2 := (d + 5, 59, 11, [some (.int 0), some (.int (nI k)), none], [.int (nI k)], 0, 0, (mSH, I, L))) rfl ?_
    refine mBr (s2 := (d + 5, 59, 24, [some (.int 0), some (.int (nI k)), none], [], 0, 0, (mSH, I, L))) (s3 := (d + 5, 59, 14, [some (.int 0), some (.int (nI k)), none], [], 0, 0, (mSH, I, L))) rfl (fun c1 => ?_) (fun c1 => ?_)
    · refine mB 3 (s2 := (d + 5, 59, 27, [some (.int 0), some (.int (nI k)), some (.int 0)], [.int 0], 0, 0, (mSH, I, L))) rfl ?_
      refine mBT (s2 := (d + 5, 59, 39, [some (.int 0), some (.int (nI k)), some (.int 0)], [], 0, 0, (mSH, I, L))) rfl (by decide) ?_
      refine mB 1 (s2 := (d + 5, 59, 42, [some (.int 0), some (.int (nI k)), some (.int 0)], [.int 153], 0, 0, (mSH, I, L))) rfl ?_
      refine mRt (r := (some (.int 153))) (h := (mSH, I, L)) rfl (mRet_int rfl) ?_
      show mWP mTb_ mFT ro (d + 6, 62, 6, [some (.ref 10), some (.int (nI k))], [.int 153, .ref 10], 0, 0, (mSH, I, L)) _
      refine mCall (s2 := (d + 5, 60, 0, [some (.ref 10), some (.int 153)], [], 0, 0, (mSH, I, L))) rfl ?_
      refine mB 3 (s2 := (d + 5, 60, 5, [some (.ref 10), some (.int 153)], [.int 0, .ref 11], 0, 0, (mSH, I, L))) rfl ?_
      refine mRq (s2 := (d + 5, 60, 6, [some (.ref 10), some (.int 153)], [.ref 12], 0, 0, (mSH, I, L))) rfl (by decide) ?_
      refine mB 1 (s2 := (d + 5, 60, 7, [some (.ref 10), some (.int 153)], [.int 153, .ref 12], 0, 0, (mSH, I, L))) rfl ?_
      refine mRq (s2 := (d + 5, 60, 8, [some (.ref 10), some (.int 153)], [.int (I 12 153)], 0, 0, (mSH, I, L))) rfl (by decide) ?_
      refine mB 1 (s2 := (d + 5, 60, 10, [some (.ref 10), some (.int 153)], [.int 1000000000, .int (I 12 153)], 0, 0, (mSH, I, L))) rfl ?_
      refine mBr (s2 := (d + 5, 60, 13, [some (.ref 10), some (.int 153)], [], 0, 0, (mSH, I, L))) (s3 := (d + 5, 60, 17, [some (.ref 10), some (.int 153)], [], 0, 0, (mSH, I, L))) rfl (fun c2 => ?_) (fun c2 => ?_)
      · refine mB 2 (s2 := (d + 5, 60, 25, [some (.ref 10), some (.int 153)], [.int (-1)], 0, 0, (mSH, I, L))) rfl ?_
        refine mRt (r := (some (.int (-1)))) (h := (mSH, I, L)) rfl (mRet_int rfl) ?_
        show mWP mTb_ mFT ro (d + 6, 62, 9, [some (.ref 10), some (.int (nI k))], [.int (-1)], 0, 0, (mSH, I, L)) _
        refine mRt (r := (some (.int (-1)))) (h := (mSH, I, L)) rfl (mRet_int rfl) ?_
        show mWP mTb_ mFT ro (d + 7, 89, 30, [some (.ref 0), some (.int b), some (.int (nI k))], [.int (-1)], 0, 0, (mSH, I, L)) _
        refine mB 1 (s2 := (d + 7, 89, 31, [some (.ref 0), some (.int b), some (.int (nI k))], [.int (-1), .int (-1)], 0, 0, (mSH, I, L))) rfl ?_
        refine mBT (s2 := (d + 7, 89, 40, [some (.ref 0), some (.int b), some (.int (nI k))], [], 0, 0, (mSH, I, L))) rfl (by decide) ?_
        refine mB 2 (s2 := (d + 7, 89, 8, [some (.ref 0), some (.int b), some (.int ((nI k) + 1))], [], 0, 0, (mSH, I, L))) rfl ?_
        exact h2 (of_decide_eq_false c0) (of_decide_eq_true c1) (of_decide_eq_true c2)
      · refine mB 3 (s2 := (d + 5, 60, 22, [some (.ref 10), some (.int 153)], [.int 0, .ref 11], 0, 0, (mSH, I, L))) rfl ?_
        refine mRq (s2 := (d + 5, 60, 23, [some (.ref 10), some (.int 153)], [.ref 12], 0, 0, (mSH, I, L))) rfl (by decide) ?_
        refine mB 1 (s2 := (d + 5, 60, 24, [some (.ref 10), some (.int 153)], [.int 153, .ref 12], 0, 0, (mSH, I, L))) rfl ?_
        refine mRq (s2 := (d + 5, 60, 25, [some (.ref 10), some (.int 153)], [.int (I 12 153)], 0, 0, (mSH, I, L))) rfl (by decide) ?_
        refine mRt (r := (some (.int (I 12 153)))) (h := (mSH, I, L)) rfl (mRet_int rfl) ?_
        show mWP mTb_ mFT ro (d + 6, 62, 9, [some (.ref 10), some (.int (nI k))], [.int (I 12 153)], 0, 0, (mSH, I, L)) _
        refine mRt (r := (some (.int (I 12 153)))) (h := (mSH, I, L)) rfl (mRet_int rfl) ?_
        show mWP mTb_ mFT ro (d + 7, 89, 30, [some (.ref 0), some (.int b), some (.int (nI k))], [.int (I 12 153)], 0, 0, (mSH, I, L)) _
        refine mB 1 (s2 := (d + 7, 89, 31, [some (.ref 0), some (.int b), some (.int (nI k))], [.int (-1), .int (I 12 153)], 0, 0, (mSH, I, L))) rfl ?_
        refine mBr (s2 := (d + 7, 89, 40, [some (.ref 0), some (.int b), some (.int (nI k))], [], 0, 0, (mSH, I, L))) (s3 := (d + 7, 89, 34, [some (.ref 0), some (.int b), some (.int (nI k))], [], 0, 0, (mSH, I, L))) rfl (fun c3 => ?_) (fun c3 => ?_)
        · refine mB 2 (s2 := (d + 7, 89, 8, [some (.ref 0), some (.int b), some (.int ((nI k) + 1))], [], 0, 0, (mSH, I, L))) rfl ?_
          exact h3 (of_decide_eq_false c0) (of_decide_eq_true c1) (of_decide_eq_false c2) (of_decide_eq_true c3)
        · refine mB 8 (s2 := (d + 7, 89, 8, [some (.ref 0), some (.int (b ||| (1 <<< ((nI k) &&& 31)))), some (.int ((nI k) + 1))], [], 0, 0, (mSH, I, L))) rfl ?_
          exact h4 (of_decide_eq_false c0) (of_decide_eq_true c1) (of_decide_eq_false c2) (of_decide_eq_false c3)
    · refine mB 2 (s2 := (d + 5, 59, 17, [some (.int 0), some (.int (nI k)), none], [.int 16, .int (nI k)], 0, 0, (mSH, I, L))) rfl ?_
      refine mBr (s2 := (d + 5, 59, 24, [some (.int 0), some (.int (nI k)), none], [], 0, 0, (mSH, I, L))) (s3 := (d + 5, 59, 20, [some (.int 0), some (.int (nI k)), none], [], 0, 0, (mSH, I, L))) rfl (fun c2 => ?_) (fun c2 => ?_)
      · refine mB 3 (s2 := (d + 5, 59, 27, [some (.int 0), some (.int (nI k)), some (.int 0)], [.int 0], 0, 0, (mSH, I, L))) rfl ?_
        refine mBT (s2 := (d + 5, 59, 39, [some (.int 0), some (.int (nI k)), some (.int 0)], [], 0, 0, (mSH, I, L))) rfl (by decide) ?_
        refine mB 1 (s2 := (d + 5, 59, 42, [some (.int 0), some (.int (nI k)), some (.int 0)], [.int 153], 0, 0, (mSH, I, L))) rfl ?_
        refine mRt (r := (some (.int 153))) (h := (mSH, I, L)) rfl (mRet_int rfl) ?_
        show mWP mTb_ mFT ro (d + 6, 62, 6, [some (.ref 10), some (.int (nI k))], [.int 153, .ref 10], 0, 0, (mSH, I, L)) _
        refine mCall (s2 := (d + 5, 60, 0, [some (.ref 10), some (.int 153)], [], 0, 0, (mSH, I, L))) rfl ?_
        refine mB 3 (s2 := (d + 5, 60, 5, [some (.ref 10), some (.int 153)], [.int 0, .ref 11], 0, 0, (mSH, I, L))) rfl ?_
        refine mRq (s2 := (d + 5, 60, 6, [some (.ref 10), some (.int 153)], [.ref 12], 0, 0, (mSH, I, L))) rfl (by decide) ?_
        refine mB 1 (s2 := (d + 5, 60, 7, [some (.ref 10), some (.int 153)], [.int 153, .ref 12], 0, 0, (mSH, I, L))) rfl ?_
        refine mRq (s2 := (d + 5, 60, 8, [some (.ref 10), some (.int 153)], [.int (I 12 153)], 0, 0, (mSH, I, L))) rfl (by decide) ?_
        refine mB 1 (s2 := (d + 5, 60, 10, [some (.ref 10), some (.int 153)], [.int 1000000000, .int (I 12 153)], 0, 0, (mSH, I, L))) rfl ?_
        refine mBr (s2 := (d + 5, 60, 13, [some (.ref 10), some (.int 153)], [], 0, 0, (mSH, I, L))) (s3 := (d + 5, 60, 17, [some (.ref 10), some (.int 153)], [], 0, 0, (mSH, I, L))) rfl (fun c3 => ?_) (fun c3 => ?_)
        · refine mB 2 (s2 := (d + 5, 60, 25, [some (.ref 10), some (.int 153)], [.int (-1)], 0, 0, (mSH, I, L))) rfl ?_
          refine mRt (r := (some (.int (-1)))) (h := (mSH, I, L)) rfl (mRet_int rfl) ?_
          show mWP mTb_ mFT ro (d + 6, 62, 9, [some (.ref 10), some (.int (nI k))], [.int (-1)], 0, 0, (mSH, I, L)) _
          refine mRt (r := (some (.int (-1)))) (h := (mSH, I, L)) rfl (mRet_int rfl) ?_
          show mWP mTb_ mFT ro (d + 7, 89, 30, [some (.ref 0), some (.int b), some (.int (nI k))], [.int (-1)], 0, 0, (mSH, I, L)) _
          refine mB 1 (s2 := (d + 7, 89, 31, [some (.ref 0), some (.int b), some (.int (nI k))], [.int (-1), .int (-1)], 0, 0, (mSH, I, L))) rfl ?_
          refine mBT (s2 := (d + 7, 89, 40, [some (.ref 0), some (.int b), some (.int (nI k))], [], 0, 0, (mSH, I, L))) rfl (by decide) ?_
          refine mB 2 (s2 := (d + 7, 89, 8, [some (.ref 0), some (.int b), some (.int ((nI k) + 1))], [], 0, 0, (mSH, I, L))) rfl ?_
          exact h5 (of_decide_eq_false c0) (of_decide_eq_false c1) (of_decide_eq_true c2) (of_decide_eq_true c3)
        · refine mB 3 (s2 := (d + 5, 60, 22, [some (.ref 10), some (.int 153)], [.int 0, .ref 11], 0, 0, (mSH, I, L))) rfl ?_
          refine mRq (s2 := (d + 5, 60, 23, [some (.ref 10), some (.int 153)], [.ref 12], 0, 0, (mSH, I, L))) rfl (by decide) ?_
          refine mB 1 (s2 := (d + 5, 60, 24, [some (.ref 10), some (.int 153)], [.int 153, .ref 12], 0, 0, (mSH, I, L))) rfl ?_
          refine mRq (s2 := (d + 5, 60, 25, [some (.ref 10), some (.int 153)], [.int (I 12 153)], 0, 0, (mSH, I, L))) rfl (by decide) ?_
          refine mRt (r := (some (.int (I 12 153)))) (h := (mSH, I, L)) rfl (mRet_int rfl) ?_
          show mWP mTb_ mFT ro (d + 6, 62, 9, [some (.ref 10), some (.int (nI k))], [.int (I 12 153)], 0, 0, (mSH, I, L)) _
          refine mRt (r := (some (.int (I 12 153)))) (h := (mSH, I, L)) rfl (mRet_int rfl) ?_
          show mWP mTb_ mFT ro (d + 7, 89, 30, [some (.ref 0), some (.int b), some (.int (nI k))], [.int (I 12 153)], 0, 0, (mSH, I, L)) _
          refine mB 1 (s2 := (d + 7, 89, 31, [some (.ref 0), some (.int b), some (.int (nI k))], [.int (-1), .int (I 12 153)], 0, 0, (mSH, I, L))) rfl ?_
          refine mBr (s2 := (d + 7, 89, 40, [some (.ref 0), some (.int b), some (.int (nI k))], [], 0, 0, (mSH, I, L))) (s3 := (d + 7, 89, 34, [some (.ref 0), some (.int b), some (.int (nI k))], [], 0, 0, (mSH, I, L))) rfl (fun c4 => ?_) (fun c4 => ?_)
          · refine mB 2 (s2 := (d + 7, 89, 8, [some (.ref 0), some (.int b), some (.int ((nI k) + 1))], [], 0, 0, (mSH, I, L))) rfl ?_
            exact h6 (of_decide_eq_false c0) (of_decide_eq_false c1) (of_decide_eq_true c2) (of_decide_eq_false c3) (of_decide_eq_true c4)
          · refine mB 8 (s2 := (d + 7, 89, 8, [some (.ref 0), some (.int (b ||| (1 <<< ((nI k) &&& 31)))), some (.int ((nI k) + 1))], [], 0, 0, (mSH, I, L))) rfl ?_
            exact h7 (of_decide_eq_false c0) (of_decide_eq_false c1) (of_decide_eq_true c2) (of_decide_eq_false c3) (of_decide_eq_false c4)
      · refine mB 4 (s2 := (d + 5, 59, 27, [some (.int 0), some (.int (nI k)), some (.int 1)], [.int 1], 0, 0, (mSH, I, L))) rfl ?_
        refine mBF (s3 := (d + 5, 59, 30, [some (.int 0), some (.int (nI k)), some (.int 1)], [], 0, 0, (mSH, I, L))) rfl (by decide) ?_
        refine mB 6 (s2 := (d + 5, 59, 42, [some (.int 0), some (.int (nI k)), some (.int 1)], [.int (0 + (nI k))], 0, 0, (mSH, I, L))) rfl ?_
        refine mRt (r := (some (.int (0 + (nI k))))) (h := (mSH, I, L)) rfl (mRet_int rfl) ?_
        show mWP mTb_ mFT ro (d + 6, 62, 6, [some (.ref 10), some (.int (nI k))], [.int (0 + (nI k)), .ref 10], 0, 0, (mSH, I, L)) _
        refine mCall (s2 := (d + 5, 60, 0, [some (.ref 10), some (.int (0 + (nI k)))], [], 0, 0, (mSH, I, L))) rfl ?_
        refine mB 3 (s2 := (d + 5, 60, 5, [some (.ref 10), some (.int (0 + (nI k)))], [.int 0, .ref 11], 0, 0, (mSH, I, L))) rfl ?_
        refine mRq (s2 := (d + 5, 60, 6, [some (.ref 10), some (.int (0 + (nI k)))], [.ref 12], 0, 0, (mSH, I, L))) rfl (by decide) ?_
        refine mB 1 (s2 := (d + 5, 60, 7, [some (.ref 10), some (.int (0 + (nI k)))], [.int (0 + (nI k)), .ref 12], 0, 0, (mSH, I, L))) rfl ?_
        refine mRq (s2 := (d + 5, 60, 8, [some (.ref 10), some (.int (0 + (nI k)))], [.int (I 12 ((0 + (nI k)).toNatClampNeg))], 0, 0, (mSH, I, L))) rfl (mVp_of (h8 (of_decide_eq_false c0) (of_decide_eq_false c1) (of_decide_eq_false c2))) ?_
        refine mB 1 (s2 := (d + 5, 60, 10, [some (.ref 10), some (.int (0 + (nI k)))], [.int 1000000000, .int (I 12 ((0 + (nI k)).toNatClampNeg))], 0, 0, (mSH, I, L))) rfl ?_
        refine mBr (s2 := (d + 5, 60, 13, [some (.ref 10), some (.int (0 + (nI k)))], [], 0, 0, (mSH, I, L))) (s3 := (d + 5, 60, 17, [some (.ref 10), some (.int (0 + (nI k)))], [], 0, 0, (mSH, I, L))) rfl (fun c3 => ?_) (fun c3 => ?_)
        · refine mB 2 (s2 := (d + 5, 60, 25, [some (.ref 10), some (.int (0 + (nI k)))], [.int (-1)], 0, 0, (mSH, I, L))) rfl ?_
          refine mRt (r := (some (.int (-1)))) (h := (mSH, I, L)) rfl (mRet_int rfl) ?_
          show mWP mTb_ mFT ro (d + 6, 62, 9, [some (.ref 10), some (.int (nI k))], [.int (-1)], 0, 0, (mSH, I, L)) _
          refine mRt (r := (some (.int (-1)))) (h := (mSH, I, L)) rfl (mRet_int rfl) ?_
          show mWP mTb_ mFT ro (d + 7, 89, 30, [some (.ref 0), some (.int b), some (.int (nI k))], [.int (-1)], 0, 0, (mSH, I, L)) _
          refine mB 1 (s2 := (d + 7, 89, 31, [some (.ref 0), some (.int b), some (.int (nI k))], [.int (-1), .int (-1)], 0, 0, (mSH, I, L))) rfl ?_
          refine mBT (s2 := (d + 7, 89, 40, [some (.ref 0), some (.int b), some (.int (nI k))], [], 0, 0, (mSH, I, L))) rfl (by decide) ?_
          refine mB 2 (s2 := (d + 7, 89, 8, [some (.ref 0), some (.int b), some (.int ((nI k) + 1))], [], 0, 0, (mSH, I, L))) rfl ?_
          exact h9 (of_decide_eq_false c0) (of_decide_eq_false c1) (of_decide_eq_false c2) (of_decide_eq_true c3)
        · refine mB 3 (s2 := (d + 5, 60, 22, [some (.ref 10), some (.int (0 + (nI k)))], [.int 0, .ref 11], 0, 0, (mSH, I, L))) rfl ?_
          refine mRq (s2 := (d + 5, 60, 23, [some (.ref 10), some (.int (0 + (nI k)))], [.ref 12], 0, 0, (mSH, I, L))) rfl (by decide) ?_
          refine mB 1 (s2 := (d + 5, 60, 24, [some (.ref 10), some (.int (0 + (nI k)))], [.int (0 + (nI k)), .ref 12], 0, 0, (mSH, I, L))) rfl ?_
          refine mRq (s2 := (d + 5, 60, 25, [some (.ref 10), some (.int (0 + (nI k)))], [.int (I 12 ((0 + (nI k)).toNatClampNeg))], 0, 0, (mSH, I, L))) rfl (mVp_of (h10 (of_decide_eq_false c0) (of_decide_eq_false c1) (of_decide_eq_false c2) (of_decide_eq_false c3))) ?_
          refine mRt (r := (some (.int (I 12 ((0 + (nI k)).toNatClampNeg))))) (h := (mSH, I, L)) rfl (mRet_int rfl) ?_
          show mWP mTb_ mFT ro (d + 6, 62, 9, [some (.ref 10), some (.int (nI k))], [.int (I 12 ((0 + (nI k)).toNatClampNeg))], 0, 0, (mSH, I, L)) _
          refine mRt (r := (some (.int (I 12 ((0 + (nI k)).toNatClampNeg))))) (h := (mSH, I, L)) rfl (mRet_int rfl) ?_
          show mWP mTb_ mFT ro (d + 7, 89, 30, [some (.ref 0), some (.int b), some (.int (nI k))], [.int (I 12 ((0 + (nI k)).toNatClampNeg))], 0, 0, (mSH, I, L)) _
          refine mB 1 (s2 := (d + 7, 89, 31, [some (.ref 0), some (.int b), some (.int (nI k))], [.int (-1), .int (I 12 ((0 + (nI k)).toNatClampNeg))], 0, 0, (mSH, I, L))) rfl ?_
          refine mBr (s2 := (d + 7, 89, 40, [some (.ref 0), some (.int b), some (.int (nI k))], [], 0, 0, (mSH, I, L))) (s3 := (d + 7, 89, 34, [some (.ref 0), some (.int b), some (.int (nI k))], [], 0, 0, (mSH, I, L))) rfl (fun c4 => ?_) (fun c4 => ?_)
          · refine mB 2 (s2 := (d + 7, 89, 8, [some (.ref 0), some (.int b), some (.int ((nI k) + 1))], [], 0, 0, (mSH, I, L))) rfl ?_
            exact h11 (of_decide_eq_false c0) (of_decide_eq_false c1) (of_decide_eq_false c2) (of_decide_eq_false c3) (of_decide_eq_true c4)
          · refine mB 8 (s2 := (d + 7, 89, 8, [some (.ref 0), some (.int (b ||| (1 <<< ((nI k) &&& 31)))), some (.int ((nI k) + 1))], [], 0, 0, (mSH, I, L))) rfl ?_
            exact h12 (of_decide_eq_false c0) (of_decide_eq_false c1) (of_decide_eq_false c2) (of_decide_eq_false c3) (of_decide_eq_false c4)
theorem an_be {T : ct_S} {B : ct_B} {kd g pe i : Nat} (hO : pm_O T B kd g pe) (hn : 0 < T.1.2.1) : an_f T B kd g pe i < bt_U ↔ ¬ bt_al (ct_cc T B kd g pe) T.1.2.1 0 i = [] := by
  have hX : ∀ x, x ∈ bt_al (ct_cc T B kd g pe) T.1.2.1 0 i → x.1 < bt_U := fun x hx => by
    have := (bt_al_b (ct_ccb hO.1 hO.2.2.1) _ _ _ x hx).1
    have := bt_nV hO.1.2.1
    omega
  have ok := (bt_topok (v := 0) (fun x hx => by have := hX x hx; omega)).le1
  have e := bt_top_e hX
  unfold an_f
  rw [if_neg (by omega)]
  constructor
  · intro z y
    have := e.mpr y
    omega
  · intro z
    rcases Nat.lt_or_ge (bt_top (bt_al (ct_cc T B kd g pe) T.1.2.1 0 i)).1.1 bt_U with y | y
    · exact y
    · exact absurd (e.mp (by omega)) z
/-- the bits below k -/
def an_bg (T : ct_S) (B : ct_B) (kd g pe k : Nat) : Int32 := if T.1.2.1 = 0 then 0 else bm_bits (ct_cc T B kd g pe) T.1.2.1 k
theorem an_bg1 {T : ct_S} {B : ct_B} {kd g pe k : Nat} (hO : pm_O T B kd g pe) (h : an_f T B kd g pe k < bt_U) : an_bg T B kd g pe k ||| bm_b k = an_bg T B kd g pe (k + 1) := by
  have n0 : ¬ T.1.2.1 = 0 := fun z => by
    unfold an_f at h
    rw [if_pos z] at h
    exact absurd h (Nat.lt_irrefl _)
  have ne := (an_be hO (by omega)).mp h
  unfold an_bg
  rw [if_neg n0, if_neg n0]
  show _ = bm_bit _ k (bt_al (ct_cc T B kd g pe) T.1.2.1 0 k)
  cases e : bt_al (ct_cc T B kd g pe) T.1.2.1 0 k with
  | nil => exact absurd e ne
  | cons x X => rfl
theorem an_bg0 {T : ct_S} {B : ct_B} {kd g pe k : Nat} (hO : pm_O T B kd g pe) (h : ¬ an_f T B kd g pe k < bt_U) : an_bg T B kd g pe k = an_bg T B kd g pe (k + 1) := by
  unfold an_bg
  by_cases z : T.1.2.1 = 0
  · rw [if_pos z, if_pos z]
  · rw [if_neg z, if_neg z]
    show _ = bm_bit _ k (bt_al (ct_cc T B kd g pe) T.1.2.1 0 k)
    rw [Decidable.of_not_not (mt (an_be hO (by omega)).mpr h)]
    rfl
theorem l_bgx {ro : Nat → Nat × (Nat → Int32)} {Q : mPo} {d : Nat} {I : Nat → Nat → Int32} {L : Nat → Nat → Int64} {T : ct_S} {B : ct_B} {kd g pe : Nat} (hO : pm_O T B kd g pe) (h2 : I 2 1 = nI T.1.1) (hW : bs_W T B kd g pe I) (hq : Q (some (.int (an_bg T B kd g pe T.1.1))) (mSH, I, L)) : ∀ (e k : Nat), k + e = T.1.1 → mWP mTb_ mFT ro (d + 7, 89, 8, [some (.ref 0), some (.int (an_bg T B kd g pe k)), some (.int (nI k))], [], 0, 0, (mSH, I, L)) Q := by
  have s16 := hO.1.1
  intro e
  induction e with
  | zero =>
    intro k he
    have ek : k = T.1.1 := by omega
    subst ek
    have z : I 2 1 ≤ nI T.1.1 := by
      rw [h2]
      exact nI_le (Nat.le_refl _) (by omega)
    apply s_bgx
    all_goals intros
    all_goals first
      | exact hq
      | exact absurd z (by assumption)
  | succ e ih =>
    intro k he
    have z : ¬ I 2 1 ≤ nI k := by
      rw [h2]
      exact nI_ge (by omega) (by omega)
    have f := an_fc (v0 := nI k) hO h2 hW (nI_pos (by omega)) z
    have p0 : ¬ nI k < 0 := nI_pos (by omega)
    have vv := f.2.2.1
    rw [pm_tn (by omega)] at f
    have go1 : an_f T B kd g pe k < bt_U → mWP mTb_ mFT ro (d + 7, 89, 8, [some (.ref 0), some (.int (an_bg T B kd g pe k ||| bm_b k)), some (.int (nI k + 1))], [], 0, 0, (mSH, I, L)) Q := fun y => by
      rw [nI_1]
      have := ih (k + 1) (by omega)
      rw [← an_bg1 hO y] at this
      exact this
    have go0 : ¬ an_f T B kd g pe k < bt_U → mWP mTb_ mFT ro (d + 7, 89, 8, [some (.ref 0), some (.int (an_bg T B kd g pe k)), some (.int (nI k + 1))], [], 0, 0, (mSH, I, L)) Q := fun y => by
      rw [nI_1]
      have := ih (k + 1) (by omega)
      rw [← an_bg0 hO y] at this
      exact this
    have m1 : ¬ I 12 (0 + nI k).toNatClampNeg = -1 := an_m1 f.2.1 f.1
    apply s_bgx
    case h9 => exact fun _ _ _ c => go0 (fun y => by have w := an_sn f.2.1 f.1 c; unfold an_s at w; rw [if_pos y] at w; exact an_n1 y w)
    case h12 => exact fun _ _ _ c _ => go1 (an_lt f.2.1 f.1 c)
    all_goals intros
    all_goals first
      | exact vv
      | exact absurd (by assumption) z
      | exact absurd (by assumption) p0
      | exact absurd (by assumption) f.2.2.2
      | exact absurd (by assumption) m1
theorem v_begins {ro : Nat → Nat × (Nat → Int32)} {Q : mPo} {d : Nat} {I : Nat → Nat → Int32} {L : Nat → Nat → Int64} {T : ct_S} {B : ct_B} {kd g pe : Nat} (hI : mIC I) (hO : pm_O T B kd g pe) (hC : pm_C T B kd g pe I) (hq : ∀ r I1, mFr mSQ I I1 → mIC I1 → r = bm_Bs (ct_cc T B kd g pe) T.1.2.1 T.1.1 → Q (some (.int r)) (mSH, I1, L))   : mWP mTb_ mFT ro (d + 7, 89, 0, [some (.ref 0), none, none], [], 0, 0, (mSH, I, L)) Q := by
  refine mB 1 (s2 := (d + 7, 89, 1, [some (.ref 0), none, none], [.ref 0], 0, 0, (mSH, I, L))) rfl ?_
  refine mCall (s2 := (d + 6, 105, 0, [some (.ref 0)], [], 0, 0, (mSH, I, L))) rfl ?_
  refine mB 7 (s2 := (d + 6, 105, 13, [some (.ref 0)], [.int 0, .ref 8, .ref 6, .ref 10], 0, 0, (mSH, I, L))) rfl ?_
  refine mCall (s2 := (d + 5, 10, 0, [some (.ref 8), some (.int 0)], [], 0, 0, (mSH, I, L))) rfl ?_
  refine mB 2 (s2 := (d + 5, 10, 2, [some (.ref 8), some (.int 0)], [.int 0, .ref 8], 0, 0, (mSH, I, L))) rfl ?_
  refine mCall (s2 := (d + 4, 8, 0, [some (.ref 8), some (.int 0)], [], 0, 0, (mSH, I, L))) rfl ?_
  refine mB 1 (s2 := (d + 4, 8, 1, [some (.ref 8), some (.int 0)], [.int 0], 0, 0, (mSH, I, L))) rfl ?_
  refine mBF (s3 := (d + 4, 8, 4, [some (.ref 8), some (.int 0)], [], 0, 0, (mSH, I, L))) rfl (by decide) ?_
  refine mB 4 (s2 := (d + 4, 8, 10, [some (.ref 8), some (.int 0)], [.int 3, .int 0], 0, 0, (mSH, I, L))) rfl ?_
  refine mBF (s3 := (d + 4, 8, 13, [some (.ref 8), some (.int 0)], [], 0, 0, (mSH, I, L))) rfl (by decide) ?_
  refine mB 2 (s2 := (d + 4, 8, 18, [some (.ref 8), some (.int 0)], [.int 1], 0, 0, (mSH, I, L))) rfl ?_
  refine mRt (r := (some (.int 1))) (h := (mSH, I, L)) rfl rfl ?_
  show mWP mTb_ mFT ro (d + 5, 10, 5, [some (.ref 8), some (.int 0)], [.int 1], 0, 0, (mSH, I, L)) _
  refine mBF (s3 := (d + 5, 10, 8, [some (.ref 8), some (.int 0)], [], 0, 0, (mSH, I, L))) rfl (by decide) ?_
  refine mB 3 (s2 := (d + 5, 10, 13, [some (.ref 8), some (.int 0)], [.int 0, .ref 9], 0, 0, (mSH, I, L))) rfl ?_
  refine mRq (s2 := (d + 5, 10, 14, [some (.ref 8), some (.int 0)], [.int (I 9 0)], 0, 0, (mSH, I, L))) rfl (by decide) ?_
  refine mB 1 (s2 := (d + 5, 10, 18, [some (.ref 8), some (.int 0)], [.int (I 9 0)], 0, 0, (mSH, I, L))) rfl ?_
  refine mRt (r := (some (.int (I 9 0)))) (h := (mSH, I, L)) rfl (mRet_int rfl) ?_
  show mWP mTb_ mFT ro (d + 6, 105, 16, [some (.ref 0)], [.int (I 9 0), .ref 6, .ref 10], 0, 0, (mSH, I, L)) _
  refine mCall (s2 := (d + 5, 52, 0, [some (.ref 10), some (.ref 6), some (.int (I 9 0)), none, none, none], [], 0, 0, (mSH, I, L))) rfl ?_
  refine x_fillv_6 (k2 := kd) hC.2.2.2.2 hO.2.2.2 hO hC hI.2.2.2.2.2.2 (fun J fJ rJ wJ => ?_)
  show mWP mTb_ mFT ro (d + 6, 105, 19, [some (.ref 0)], [], 0, 0, (mSH, J, L)) _
  refine mRt (r := none) (h := (mSH, J, L)) rfl rfl ?_
  show mWP mTb_ mFT ro (d + 7, 89, 4, [some (.ref 0), none, none], [], 0, 0, (mSH, J, L)) _
  refine mB 4 (s2 := (d + 7, 89, 8, [some (.ref 0), some (.int 0), some (.int 0)], [], 0, 0, (mSH, J, L))) rfl ?_
  (have z := l_bgx (ro := ro) (d := d) (Q := Q) (L := L) hO (by rw [fJ 2 rfl]; exact hC.1.1) wJ (hq _ _ (mFr.sub (by decide) fJ) (hI.ss fJ rJ) rfl) T.1.1 0 (by omega); rw [show an_bg T B kd g pe 0 = 0 by unfold an_bg; split <;> rfl] at z; exact z)
theorem s_mla {ro : Nat → Nat × (Nat → Int32)} {Q : mPo} {d : Nat} {I : Nat → Nat → Int32} {L : Nat → Nat → Int64} {v0 a b kk : Int32} {o5 : Option Value}  (h1 : ((4 : Int32) ≤ kk) → (b = (-1)) → Q (some (.int (-3))) (mSH, (mUp I 0 10 ((I 0 10) + 1)), L)) (h2 : ((4 : Int32) ≤ kk) → ¬ (b = (-1)) → (v0 = 0) → Q (some (.int a)) (mSH, I, L)) (h3 : ((4 : Int32) ≤ kk) → ¬ (b = (-1)) → ¬ (v0 = 0) → Q (some (.int b)) (mSH, I, L)) (h4 : ¬ ((4 : Int32) ≤ kk) → mWP mTb_ mFT ro (d + 7, 91, 37, [some (.ref 0), some (.int v0), some (.int a), some (.int b), some (.int kk), o5], [.int kk, .ref 6, .ref 10], 0, 0, (mSH, I, L)) Q) : mWP mTb_ mFT ro (d + 7, 91, 21, [some (.ref 0), some (.int v0), some (.int a), some (.int b), some (.int kk), o5], [], 0, 0, (mSH, I, L)) Q := by
  refine mB 2 (s2 := (d + 7, 91, 24, [some (.ref 0), some (.int v0), some (.int a), some (.int b), some (.int kk), o5], [.int 4, .int kk], 0, 0, (mSH, I, L))) rfl ?_
  refine mBr (s2 := (d + 7, 91, 78, [some (.ref 0), some (.int v0), some (.int a), some (.int b), some (.int kk), o5], [], 0, 0, (mSH, I, L))) (s3 := (d + 7, 91, 27, [some (.ref 0), some (.int v0), some (.int a), some (.int b), some (.int kk), o5], [], 0, 0, (mSH, I, L))) rfl (fun c0 => ?_) (fun c0 => ?_)
  · refine mB 2 (s2 := (d + 7, 91, 80, [some (.ref 0), some (.int v0), some (.int a), some (.int b), some (.int kk), o5], [.int (-1), .int b], 0, 0, (mSH, I, L))) rfl ?_
    refine mBr (s2 := (d + 7, 91, 83, [some (.ref 0), some (.int v0), some (.int a), some (.int b), some (.int kk), o5], [], 0, 0, (mSH, I, L))) (s3 := (d + 7, 91, 90, [some (.ref 0), some (.int v0), some (.int a), some (.int b), some (.int kk), o5], [], 0, 0, (mSH, I, L))) rfl (fun c1 => ?_) (fun c1 => ?_)
    · refine mB 2 (s2 := (d + 7, 91, 86, [some (.ref 0), some (.int v0), some (.int a), some (.int b), some (.int kk), o5], [.int (-3), .ref 0], 0, 0, (mSH, I, L))) rfl ?_
      refine mCall (s2 := (d + 6, 103, 0, [some (.ref 0), some (.int (-3))], [], 0, 0, (mSH, I, L))) rfl ?_
      refine mB 2 (s2 := (d + 6, 103, 3, [some (.ref 0), some (.int (-3))], [.int (-2), .int (-3)], 0, 0, (mSH, I, L))) rfl ?_
      refine mBF (s3 := (d + 6, 103, 19, [some (.ref 0), some (.int (-3))], [], 0, 0, (mSH, I, L))) rfl (by decide) ?_
      refine mB 2 (s2 := (d + 6, 103, 22, [some (.ref 0), some (.int (-3))], [.int (-3), .int (-3)], 0, 0, (mSH, I, L))) rfl ?_
      refine mBT (s2 := (d + 6, 103, 25, [some (.ref 0), some (.int (-3))], [], 0, 0, (mSH, I, L))) rfl (by decide) ?_
      refine mB 8 (s2 := (d + 6, 103, 49, [some (.ref 0), some (.int (-3))], [.int (-3)], 0, 0, (mSH, (mUp I 0 10 ((I 0 10) + 1)), L))) rfl ?_
      refine mRt (r := (some (.int (-3)))) (h := (mSH, (mUp I 0 10 ((I 0 10) + 1)), L)) rfl (mRet_int rfl) ?_
      show mWP mTb_ mFT ro (d + 7, 91, 89, [some (.ref 0), some (.int v0), some (.int a), some (.int b), some (.int kk), o5], [.int (-3)], 0, 0, (mSH, (mUp I 0 10 ((I 0 10) + 1)), L)) _
      refine mRt (r := (some (.int (-3)))) (h := (mSH, (mUp I 0 10 ((I 0 10) + 1)), L)) rfl (mRet_int rfl) ?_
      exact h1 (of_decide_eq_true c0) (of_decide_eq_true c1)
    · refine mB 1 (s2 := (d + 7, 91, 91, [some (.ref 0), some (.int v0), some (.int a), some (.int b), some (.int kk), o5], [.int v0], 0, 0, (mSH, I, L))) rfl ?_
      refine mBr (s2 := (d + 7, 91, 94, [some (.ref 0), some (.int v0), some (.int a), some (.int b), some (.int kk), o5], [], 0, 0, (mSH, I, L))) (s3 := (d + 7, 91, 98, [some (.ref 0), some (.int v0), some (.int a), some (.int b), some (.int kk), o5], [], 0, 0, (mSH, I, L))) rfl (fun c2 => ?_) (fun c2 => ?_)
      · refine mB 2 (s2 := (d + 7, 91, 99, [some (.ref 0), some (.int v0), some (.int a), some (.int b), some (.int kk), o5], [.int a], 0, 0, (mSH, I, L))) rfl ?_
        refine mRt (r := (some (.int a))) (h := (mSH, I, L)) rfl (mRet_int rfl) ?_
        exact h2 (of_decide_eq_true c0) (of_decide_eq_false c1) (of_decide_eq_true c2)
      · refine mB 1 (s2 := (d + 7, 91, 99, [some (.ref 0), some (.int v0), some (.int a), some (.int b), some (.int kk), o5], [.int b], 0, 0, (mSH, I, L))) rfl ?_
        refine mRt (r := (some (.int b))) (h := (mSH, I, L)) rfl (mRet_int rfl) ?_
        exact h3 (of_decide_eq_true c0) (of_decide_eq_false c1) (of_decide_eq_false c2)
  · refine mB 5 (s2 := (d + 7, 91, 37, [some (.ref 0), some (.int v0), some (.int a), some (.int b), some (.int kk), o5], [.int kk, .ref 6, .ref 10], 0, 0, (mSH, I, L))) rfl ?_
    exact h4 (of_decide_eq_false c0)
theorem s_mlb {ro : Nat → Nat × (Nat → Int32)} {Q : mPo} {d : Nat} {I : Nat → Nat → Int32} {L : Nat → Nat → Int64} {v0 a b kk : Int32} {o5 : Option Value}  (h1 : ((I 12 153) = 1000000000) → mWP mTb_ mFT ro (d + 7, 91, 21, [some (.ref 0), some (.int v0), some (.int a), some (.int b), some (.int (kk + 1)), some (.int (-1))], [], 0, 0, (mSH, I, L)) Q) (h2 : ¬ ((I 12 153) = 1000000000) → ((I 12 153) = (-1)) → mWP mTb_ mFT ro (d + 7, 91, 21, [some (.ref 0), some (.int v0), some (.int a), some (.int b), some (.int (kk + 1)), some (.int (I 12 153))], [], 0, 0, (mSH, I, L)) Q) (h3 : ¬ ((I 12 153) = 1000000000) → ¬ ((I 12 153) = (-1)) → (b = (-1)) → mWP mTb_ mFT ro (d + 7, 91, 21, [some (.ref 0), some (.int v0), some (.int kk), some (.int (I 12 153)), some (.int (kk + 1)), some (.int (I 12 153))], [], 0, 0, (mSH, I, L)) Q) (h4 : ¬ ((I 12 153) = 1000000000) → ¬ ((I 12 153) = (-1)) → ¬ (b = (-1)) → (b ≤ (I 12 153)) → mWP mTb_ mFT ro (d + 7, 91, 21, [some (.ref 0), some (.int v0), some (.int a), some (.int b), some (.int (kk + 1)), some (.int (I 12 153))], [], 0, 0, (mSH, I, L)) Q) (h5 : ¬ ((I 12 153) = 1000000000) → ¬ ((I 12 153) = (-1)) → ¬ (b = (-1)) → ¬ (b ≤ (I 12 153)) → mWP mTb_ mFT ro (d + 7, 91, 21, [some (.ref 0), some (.int v0), some (.int kk), some (.int (I 12 153)), some (.int (kk + 1)), some (.int (I 12 153))], [], 0, 0, (mSH, I, L)) Q) : mWP mTb_ mFT ro (d + 7, 91, 40, [some (.ref 0), some (.int v0), some (.int a), some (.int b), some (.int kk), o5], [], 0, 0, (mSH, I, L)) Q := by
  refine mB 2 (s2 := (d + 7, 91, 44, [some (.ref 0), some (.int v0), some (.int a), some (.int b), some (.int kk), o5], [.ref 10], 0, 0, (mSH, I, L))) rfl ?_
  refine mCall (s2 := (d + 6, 61, 0, [some (.ref 10)], [], 0, 0, (mSH, I, L))) rfl ?_
  refine mB 2 (s2 := (d + 6, 61, 4, [some (.ref 10)], [.int 153, .ref 10], 0, 0, (mSH, I, L))) rfl ?_
  refine mCall (s2 := (d + 5, 60, 0, [some (.ref 10), some (.int 153)], [], 0, 0, (mSH, I, L))) rfl ?_
  refine mB 3 (s2 := (d + 5, 60, 5, [some (.ref 10), some (.int 153)], [.int 0, .ref 11], 0, 0, (mSH, I, L))) rfl ?_
  refine mRq (s2 := (d + 5, 60, 6, [some (.ref 10), some (.int 153)], [.ref 12], 0, 0, (mSH, I, L))) rfl (by decide) ?_
  refine mB 1 (s2 := (d + 5, 60, 7, [some (.ref 10), some (.int 153)], [.int 153, .ref 12], 0, 0, (mSH, I, L))) rfl ?_
  refine mRq (s2 := (d + 5, 60, 8, [some (.ref 10), some (.int 153)], [.int (I 12 153)], 0, 0, (mSH, I, L))) rfl (by decide) ?_
  refine mB 1 (s2 := (d + 5, 60, 10, [some (.ref 10), some (.int 153)], [.int 1000000000, .int (I 12 153)], 0, 0, (mSH, I, L))) rfl ?_
  refine mBr (s2 := (d + 5, 60, 13, [some (.ref 10), some (.int 153)], [], 0, 0, (mSH, I, L))) (s3 := (d + 5, 60, 17, [some (.ref 10), some (.int 153)], [], 0, 0, (mSH, I, L))) rfl (fun c0 => ?_) (fun c0 => ?_)
  · refine mB 2 (s2 := (d + 5, 60, 25, [some (.ref 10), some (.int 153)], [.int (-1)], 0, 0, (mSH, I, L))) rfl ?_
    refine mRt (r := (some (.int (-1)))) (h := (mSH, I, L)) rfl (mRet_int rfl) ?_
    show mWP mTb_ mFT ro (d + 6, 61, 7, [some (.ref 10)], [.int (-1)], 0, 0, (mSH, I, L)) _
    refine mRt (r := (some (.int (-1)))) (h := (mSH, I, L)) rfl (mRet_int rfl) ?_
    show mWP mTb_ mFT ro (d + 7, 91, 47, [some (.ref 0), some (.int v0), some (.int a), some (.int b), some (.int kk), o5], [.int (-1)], 0, 0, (mSH, I, L)) _
    refine mB 3 (s2 := (d + 7, 91, 52, [some (.ref 0), some (.int v0), some (.int a), some (.int b), some (.int kk), some (.int (-1))], [.int (-1), .int (-1)], 0, 0, (mSH, I, L))) rfl ?_
    refine mBT (s2 := (d + 7, 91, 72, [some (.ref 0), some (.int v0), some (.int a), some (.int b), some (.int kk), some (.int (-1))], [], 0, 0, (mSH, I, L))) rfl (by decide) ?_
    refine mB 2 (s2 := (d + 7, 91, 21, [some (.ref 0), some (.int v0), some (.int a), some (.int b), some (.int (kk + 1)), some (.int (-1))], [], 0, 0, (mSH, I, L))) rfl ?_
    exact h1 (of_decide_eq_true c0)
  · refine mB 3 (s2 := (d + 5, 60, 22, [some (.ref 10), some (.int 153)], [.int 0, .ref 11], 0, 0, (mSH, I, L))) rfl ?_
    refine mRq (s2 := (d + 5, 60, 23, [some (.ref 10), some (.int 153)], [.ref 12], 0, 0, (mSH, I, L))) rfl (by decide) ?_
    refine mB 1 (s2 := (d + 5, 60, 24, [some (.ref 10), some (.int 153)], [.int 153, .ref 12], 0, 0, (mSH, I, L))) rfl ?_
    refine mRq (s2 := (d + 5, 60, 25, [some (.ref 10), some (.int 153)], [.int (I 12 153)], 0, 0, (mSH, I, L))) rfl (by decide) ?_
    refine mRt (r := (some (.int (I 12 153)))) (h := (mSH, I, L)) rfl (mRet_int rfl) ?_
    show mWP mTb_ mFT ro (d + 6, 61, 7, [some (.ref 10)], [.int (I 12 153)], 0, 0, (mSH, I, L)) _
    refine mRt (r := (some (.int (I 12 153)))) (h := (mSH, I, L)) rfl (mRet_int rfl) ?_
    show mWP mTb_ mFT ro (d + 7, 91, 47, [some (.ref 0), some (.int v0), some (.int a), some (.int b), some (.int kk), o5], [.int (I 12 153)], 0, 0, (mSH, I, L)) _
    refine mB 3 (s2 := (d + 7, 91, 52, [some (.ref 0), some (.int v0), some (.int a), some (.int b), some (.int kk), some (.int (I 12 153))], [.int (-1), .int (I 12 153)], 0, 0, (mSH, I, L))) rfl ?_
    refine mBr (s2 := (d + 7, 91, 72, [some (.ref 0), some (.int v0), some (.int a), some (.int b), some (.int kk), some (.int (I 12 153))], [], 0, 0, (mSH, I, L))) (s3 := (d + 7, 91, 55, [some (.ref 0), some (.int v0), some (.int a), some (.int b), some (.int kk), some (.int (I 12 153))], [], 0, 0, (mSH, I, L))) rfl (fun c1 => ?_) (fun c1 => ?_)
    · refine mB 2 (s2 := (d + 7, 91, 21, [some (.ref 0), some (.int v0), some (.int a), some (.int b), some (.int (kk + 1)), some (.int (I 12 153))], [], 0, 0, (mSH, I, L))) rfl ?_
      exact h2 (of_decide_eq_false c0) (of_decide_eq_true c1)
    · refine mB 2 (s2 := (d + 7, 91, 57, [some (.ref 0), some (.int v0), some (.int a), some (.int b), some (.int kk), some (.int (I 12 153))], [.int (-1), .int b], 0, 0, (mSH, I, L))) rfl ?_
      refine mBr (s2 := (d + 7, 91, 66, [some (.ref 0), some (.int v0), some (.int a), some (.int b), some (.int kk), some (.int (I 12 153))], [], 0, 0, (mSH, I, L))) (s3 := (d + 7, 91, 60, [some (.ref 0), some (.int v0), some (.int a), some (.int b), some (.int kk), some (.int (I 12 153))], [], 0, 0, (mSH, I, L))) rfl (fun c2 => ?_) (fun c2 => ?_)
      · refine mB 6 (s2 := (d + 7, 91, 21, [some (.ref 0), some (.int v0), some (.int kk), some (.int (I 12 153)), some (.int (kk + 1)), some (.int (I 12 153))], [], 0, 0, (mSH, I, L))) rfl ?_
        exact h3 (of_decide_eq_false c0) (of_decide_eq_false c1) (of_decide_eq_true c2)
      · refine mB 2 (s2 := (d + 7, 91, 63, [some (.ref 0), some (.int v0), some (.int a), some (.int b), some (.int kk), some (.int (I 12 153))], [.int b, .int (I 12 153)], 0, 0, (mSH, I, L))) rfl ?_
        refine mBr (s2 := (d + 7, 91, 72, [some (.ref 0), some (.int v0), some (.int a), some (.int b), some (.int kk), some (.int (I 12 153))], [], 0, 0, (mSH, I, L))) (s3 := (d + 7, 91, 66, [some (.ref 0), some (.int v0), some (.int a), some (.int b), some (.int kk), some (.int (I 12 153))], [], 0, 0, (mSH, I, L))) rfl (fun c3 => ?_) (fun c3 => ?_)
        · refine mB 2 (s2 := (d + 7, 91, 21, [some (.ref 0), some (.int v0), some (.int a), some (.int b), some (.int (kk + 1)), some (.int (I 12 153))], [], 0, 0, (mSH, I, L))) rfl ?_
          exact h4 (of_decide_eq_false c0) (of_decide_eq_false c1) (of_decide_eq_false c2) (of_decide_eq_true c3)
        · refine mB 6 (s2 := (d + 7, 91, 21, [some (.ref 0), some (.int v0), some (.int kk), some (.int (I 12 153)), some (.int (kk + 1)), some (.int (I 12 153))], [], 0, 0, (mSH, I, L))) rfl ?_
          exact h5 (of_decide_eq_false c0) (of_decide_eq_false c1) (of_decide_eq_false c2) (of_decide_eq_false c3)
theorem s_nla {ro : Nat → Nat × (Nat → Int32)} {Q : mPo} {d : Nat} {I : Nat → Nat → Int32} {L : Nat → Nat → Int64} {v0 a b kk : Int32}  (h1 : ((3 : Int32) < kk) → (a = (-1)) → Q (some (.int (-3))) (mSH, (mUp I 39 1 ((I 39 1) + 1)), L)) (h2 : ((3 : Int32) < kk) → ¬ (a = (-1)) → (v0 = 0) → Q (some (.int a)) (mSH, I, L)) (h3 : ((3 : Int32) < kk) → ¬ (a = (-1)) → ¬ (v0 = 0) → Q (some (.int b)) (mSH, I, L)) (h4 : ¬ ((3 : Int32) < kk) → mWP mTb_ mFT ro (d + 5, 139, 33, [some (.ref 34), some (.int v0), some (.int a), some (.int b), some (.int kk)], [.int 0, .int kk, .ref 34], 0, 0, (mSH, I, L)) Q) : mWP mTb_ mFT ro (d + 5, 139, 23, [some (.ref 34), some (.int v0), some (.int a), some (.int b), some (.int kk)], [], 0, 0, (mSH, I, L)) Q := by
  refine mB 2 (s2 := (d + 5, 139, 26, [some (.ref 34), some (.int v0), some (.int a), some (.int b), some (.int kk)], [.int 3, .int kk], 0, 0, (mSH, I, L))) rfl ?_
  refine mBr (s2 := (d + 5, 139, 70, [some (.ref 34), some (.int v0), some (.int a), some (.int b), some (.int kk)], [], 0, 0, (mSH, I, L))) (s3 := (d + 5, 139, 29, [some (.ref 34), some (.int v0), some (.int a), some (.int b), some (.int kk)], [], 0, 0, (mSH, I, L))) rfl (fun c0 => ?_) (fun c0 => ?_)
  · refine mB 2 (s2 := (d + 5, 139, 72, [some (.ref 34), some (.int v0), some (.int a), some (.int b), some (.int kk)], [.int (-1), .int a], 0, 0, (mSH, I, L))) rfl ?_
    refine mBr (s2 := (d + 5, 139, 75, [some (.ref 34), some (.int v0), some (.int a), some (.int b), some (.int kk)], [], 0, 0, (mSH, I, L))) (s3 := (d + 5, 139, 84, [some (.ref 34), some (.int v0), some (.int a), some (.int b), some (.int kk)], [], 0, 0, (mSH, I, L))) rfl (fun c1 => ?_) (fun c1 => ?_)
    · refine mB 2 (s2 := (d + 5, 139, 78, [some (.ref 34), some (.int v0), some (.int a), some (.int b), some (.int kk)], [.int (-3), .ref 34], 0, 0, (mSH, I, L))) rfl ?_
      refine mCall (s2 := (d + 4, 113, 0, [some (.ref 34), some (.int (-3))], [], 0, 0, (mSH, I, L))) rfl ?_
      refine mB 6 (s2 := (d + 4, 113, 9, [some (.ref 34), some (.int (-3))], [.int 1, .ref 39, .int 1, .ref 39], 0, 0, (mSH, I, L))) rfl ?_
      refine mRq (s2 := (d + 4, 113, 10, [some (.ref 34), some (.int (-3))], [.int (I 39 1), .int 1, .ref 39], 0, 0, (mSH, I, L))) rfl (by decide) ?_
      refine mB 2 (s2 := (d + 4, 113, 12, [some (.ref 34), some (.int (-3))], [.int ((I 39 1) + 1), .int 1, .ref 39], 0, 0, (mSH, I, L))) rfl ?_
      refine mRq (s2 := (d + 4, 113, 13, [some (.ref 34), some (.int (-3))], [], 0, 0, (mSH, (mUp I 39 1 ((I 39 1) + 1)), L))) rfl (by decide) ?_
      refine mB 1 (s2 := (d + 4, 113, 14, [some (.ref 34), some (.int (-3))], [.int (-3)], 0, 0, (mSH, (mUp I 39 1 ((I 39 1) + 1)), L))) rfl ?_
      refine mRt (r := (some (.int (-3)))) (h := (mSH, (mUp I 39 1 ((I 39 1) + 1)), L)) rfl (mRet_int rfl) ?_
      show mWP mTb_ mFT ro (d + 5, 139, 81, [some (.ref 34), some (.int v0), some (.int a), some (.int b), some (.int kk)], [.int (-3)], 0, 0, (mSH, (mUp I 39 1 ((I 39 1) + 1)), L)) _
      refine mB 1 (s2 := (d + 5, 139, 93, [some (.ref 34), some (.int v0), some (.int a), some (.int b), some (.int kk)], [.int (-3)], 0, 0, (mSH, (mUp I 39 1 ((I 39 1) + 1)), L))) rfl ?_
      refine mRt (r := (some (.int (-3)))) (h := (mSH, (mUp I 39 1 ((I 39 1) + 1)), L)) rfl (mRet_int rfl) ?_
      exact h1 (of_decide_eq_true c0) (of_decide_eq_true c1)
    · refine mB 1 (s2 := (d + 5, 139, 85, [some (.ref 34), some (.int v0), some (.int a), some (.int b), some (.int kk)], [.int v0], 0, 0, (mSH, I, L))) rfl ?_
      refine mBr (s2 := (d + 5, 139, 88, [some (.ref 34), some (.int v0), some (.int a), some (.int b), some (.int kk)], [], 0, 0, (mSH, I, L))) (s3 := (d + 5, 139, 92, [some (.ref 34), some (.int v0), some (.int a), some (.int b), some (.int kk)], [], 0, 0, (mSH, I, L))) rfl (fun c2 => ?_) (fun c2 => ?_)
      · refine mB 2 (s2 := (d + 5, 139, 93, [some (.ref 34), some (.int v0), some (.int a), some (.int b), some (.int kk)], [.int a], 0, 0, (mSH, I, L))) rfl ?_
        refine mRt (r := (some (.int a))) (h := (mSH, I, L)) rfl (mRet_int rfl) ?_
        exact h2 (of_decide_eq_true c0) (of_decide_eq_false c1) (of_decide_eq_true c2)
      · refine mB 1 (s2 := (d + 5, 139, 93, [some (.ref 34), some (.int v0), some (.int a), some (.int b), some (.int kk)], [.int b], 0, 0, (mSH, I, L))) rfl ?_
        refine mRt (r := (some (.int b))) (h := (mSH, I, L)) rfl (mRet_int rfl) ?_
        exact h3 (of_decide_eq_true c0) (of_decide_eq_false c1) (of_decide_eq_false c2)
  · refine mB 3 (s2 := (d + 5, 139, 33, [some (.ref 34), some (.int v0), some (.int a), some (.int b), some (.int kk)], [.int 0, .int kk, .ref 34], 0, 0, (mSH, I, L))) rfl ?_
    exact h4 (of_decide_eq_false c0)
theorem s_nlb {ro : Nat → Nat × (Nat → Int32)} {Q : mPo} {d : Nat} {I : Nat → Nat → Int32} {L : Nat → Nat → Int64} {v0 a b kk r1 : Int32}  (h1 : (r1 = 0) → mWP mTb_ mFT ro (d + 5, 139, 23, [some (.ref 34), some (.int v0), some (.int a), some (.int b), some (.int (kk + 1))], [], 0, 0, (mSH, I, L)) Q) (h2 : ¬ (r1 = 0) → (a = (-1)) → mWP mTb_ mFT ro (d + 5, 139, 23, [some (.ref 34), some (.int v0), some (.int kk), some (.int (I 46 0)), some (.int (kk + 1))], [], 0, 0, (mSH, I, L)) Q) (h3 : ¬ (r1 = 0) → ¬ (a = (-1)) → (b ≤ (I 46 0)) → mWP mTb_ mFT ro (d + 5, 139, 23, [some (.ref 34), some (.int v0), some (.int a), some (.int b), some (.int (kk + 1))], [], 0, 0, (mSH, I, L)) Q) (h4 : ¬ (r1 = 0) → ¬ (a = (-1)) → ¬ (b ≤ (I 46 0)) → mWP mTb_ mFT ro (d + 5, 139, 23, [some (.ref 34), some (.int v0), some (.int kk), some (.int (I 46 0)), some (.int (kk + 1))], [], 0, 0, (mSH, I, L)) Q) : mWP mTb_ mFT ro (d + 5, 139, 36, [some (.ref 34), some (.int v0), some (.int a), some (.int b), some (.int kk)], [.int r1], 0, 0, (mSH, I, L)) Q := by
  refine mBr (s2 := (d + 5, 139, 64, [some (.ref 34), some (.int v0), some (.int a), some (.int b), some (.int kk)], [], 0, 0, (mSH, I, L))) (s3 := (d + 5, 139, 39, [some (.ref 34), some (.int v0), some (.int a), some (.int b), some (.int kk)], [], 0, 0, (mSH, I, L))) rfl (fun c0 => ?_) (fun c0 => ?_)
  · refine mB 2 (s2 := (d + 5, 139, 23, [some (.ref 34), some (.int v0), some (.int a), some (.int b), some (.int (kk + 1))], [], 0, 0, (mSH, I, L))) rfl ?_
    exact h1 (of_decide_eq_true c0)
  · refine mB 2 (s2 := (d + 5, 139, 41, [some (.ref 34), some (.int v0), some (.int a), some (.int b), some (.int kk)], [.int (-1), .int a], 0, 0, (mSH, I, L))) rfl ?_
    refine mBr (s2 := (d + 5, 139, 54, [some (.ref 34), some (.int v0), some (.int a), some (.int b), some (.int kk)], [], 0, 0, (mSH, I, L))) (s3 := (d + 5, 139, 44, [some (.ref 34), some (.int v0), some (.int a), some (.int b), some (.int kk)], [], 0, 0, (mSH, I, L))) rfl (fun c1 => ?_) (fun c1 => ?_)
    · refine mB 5 (s2 := (d + 5, 139, 62, [some (.ref 34), some (.int v0), some (.int kk), some (.int b), some (.int kk)], [.int 0, .ref 46], 0, 0, (mSH, I, L))) rfl ?_
      refine mRq (s2 := (d + 5, 139, 63, [some (.ref 34), some (.int v0), some (.int kk), some (.int b), some (.int kk)], [.int (I 46 0)], 0, 0, (mSH, I, L))) rfl (by decide) ?_
      refine mB 3 (s2 := (d + 5, 139, 23, [some (.ref 34), some (.int v0), some (.int kk), some (.int (I 46 0)), some (.int (kk + 1))], [], 0, 0, (mSH, I, L))) rfl ?_
      exact h2 (of_decide_eq_false c0) (of_decide_eq_true c1)
    · refine mB 3 (s2 := (d + 5, 139, 49, [some (.ref 34), some (.int v0), some (.int a), some (.int b), some (.int kk)], [.int 0, .ref 46], 0, 0, (mSH, I, L))) rfl ?_
      refine mRq (s2 := (d + 5, 139, 50, [some (.ref 34), some (.int v0), some (.int a), some (.int b), some (.int kk)], [.int (I 46 0)], 0, 0, (mSH, I, L))) rfl (by decide) ?_
      refine mB 1 (s2 := (d + 5, 139, 51, [some (.ref 34), some (.int v0), some (.int a), some (.int b), some (.int kk)], [.int b, .int (I 46 0)], 0, 0, (mSH, I, L))) rfl ?_
      refine mBr (s2 := (d + 5, 139, 64, [some (.ref 34), some (.int v0), some (.int a), some (.int b), some (.int kk)], [], 0, 0, (mSH, I, L))) (s3 := (d + 5, 139, 54, [some (.ref 34), some (.int v0), some (.int a), some (.int b), some (.int kk)], [], 0, 0, (mSH, I, L))) rfl (fun c2 => ?_) (fun c2 => ?_)
      · refine mB 2 (s2 := (d + 5, 139, 23, [some (.ref 34), some (.int v0), some (.int a), some (.int b), some (.int (kk + 1))], [], 0, 0, (mSH, I, L))) rfl ?_
        exact h3 (of_decide_eq_false c0) (of_decide_eq_false c1) (of_decide_eq_true c2)
      · refine mB 5 (s2 := (d + 5, 139, 62, [some (.ref 34), some (.int v0), some (.int kk), some (.int b), some (.int kk)], [.int 0, .ref 46], 0, 0, (mSH, I, L))) rfl ?_
        refine mRq (s2 := (d + 5, 139, 63, [some (.ref 34), some (.int v0), some (.int kk), some (.int b), some (.int kk)], [.int (I 46 0)], 0, 0, (mSH, I, L))) rfl (by decide) ?_
        refine mB 3 (s2 := (d + 5, 139, 23, [some (.ref 34), some (.int v0), some (.int kk), some (.int (I 46 0)), some (.int (kk + 1))], [], 0, 0, (mSH, I, L))) rfl ?_
        exact h4 (of_decide_eq_false c0) (of_decide_eq_false c1) (of_decide_eq_false c2)
/-- the mildest kind below k, and its misfit -/
def an_ml (T : ct_S) (B : ct_B) (g pe : Nat) : Nat → Nat × Nat
  | 0 => (0, bt_U)
  | k + 1 => if (an_W T B k g pe).1.1 < (an_ml T B g pe k).2 then (k, (an_W T B k g pe).1.1) else an_ml T B g pe k
def an_mil (T : ct_S) (B : ct_B) (g pe : Nat) (v0 : Int32) : Int32 := if (an_ml T B g pe 4).2 < bt_U then (if v0.toInt = 0 then nI (an_ml T B g pe 4).1 else nI (an_ml T B g pe 4).2) else -3
def an_mildest (T : ct_S) (B : ct_B) (g pe : Nat) (v0 : Int32) : Int32 := if kEi v0 then an_mil T B g pe v0 else -2
section ML
variable {T : ct_S} {B : ct_B} {kd g pe k : Nat} {a b v0 x : Int32}
theorem pm_Ok (hO : pm_O T B kd g pe) (hk : k ≤ 3) : pm_O T B k g pe := ⟨hO.1, hO.2.1, hO.2.2.1, hk⟩
theorem an_mle (hO : pm_O T B kd g pe) : ∀ k, k ≤ 4 → (an_ml T B g pe k).2 ≤ bt_U ∧ (an_ml T B g pe k).1 ≤ k
  | 0, _ => ⟨Nat.le_refl _, Nat.le_refl _⟩
  | k + 1, h => by
    have z := an_mle hO k (by omega)
    have w := (an_ok (pm_Ok hO (show k ≤ 3 by omega))).le1
    unfold an_ml
    split
    · exact ⟨w, by show k ≤ k + 1; omega⟩
    · exact ⟨z.1, by omega⟩
/-- how the class holds it -/
def an_Mc (q : Nat × Nat) (a b : Int32) : Prop := (q.2 = bt_U ∧ a = -1 ∧ b = -1) ∨ (q.2 < bt_U ∧ a = nI q.1 ∧ b = nI q.2)
def an_Mm (q : Nat × Nat) (a b : Int32) : Prop := (q.2 = bt_U ∧ a = -1) ∨ (q.2 < bt_U ∧ a = nI q.1 ∧ b = nI q.2)
theorem an_Mc1 {q : Nat × Nat} (h : an_Mc q a b) : b = -1 ↔ ¬ q.2 < bt_U := by
  rcases h with ⟨h1, h2, h3⟩ | ⟨h1, h2, h3⟩
  · exact ⟨fun _ => by omega, fun _ => h3⟩
  · exact ⟨fun z => absurd (h3.symm.trans z).symm (an_n1 h1), fun z => absurd h1 z⟩
theorem an_Mm1 {q : Nat × Nat} (h : an_Mm q a b) (hq : q.1 ≤ 4) : a = -1 ↔ ¬ q.2 < bt_U := by
  rcases h with ⟨h1, h2⟩ | ⟨h1, h2, h3⟩
  · exact ⟨fun _ => by omega, fun _ => h2⟩
  · exact ⟨fun z => absurd (h2.symm.trans z).symm (an_n1 (Nat.lt_of_le_of_lt hq (by decide))), fun z => absurd h1 z⟩
theorem an_mlt (h : (an_W T B k g pe).1.1 < (an_ml T B g pe k).2) : an_ml T B g pe (k + 1) = (k, (an_W T B k g pe).1.1) := if_pos h
theorem an_mlf (h : ¬ (an_W T B k g pe).1.1 < (an_ml T B g pe k).2) : an_ml T B g pe (k + 1) = an_ml T B g pe k := if_neg h
theorem l_mlx {ro : Nat → Nat × (Nat → Int32)} {Q : mPo} {d : Nat} {I0 : Nat → Nat → Int32} {L : Nat → Nat → Int64} (hI : mIC I0) (hO : pm_O T B kd g pe) (hC : pm_C T B kd g pe I0) (hq : ∀ r I1, mFr mSQ I0 I1 → mIC I1 → r = an_mil T B g pe v0 → Q (some (.int r)) (mSH, I1, L)) : ∀ (e k : Nat), k + e = 4 → ∀ (I : Nat → Nat → Int32) (a b : Int32) (o5 : Option Value), mFr mSS I0 I → mRk I → an_Mc (an_ml T B g pe k) a b → mWP mTb_ mFT ro (d + 7, 91, 21, [some (.ref 0), some (.int v0), some (.int (a)), some (.int (b)), some (.int (nI k)), o5], [], 0, 0, (mSH, I, L)) Q := by
  intro e
  induction e with
  | zero =>
    intro k he I a b o5 F R hc
    have ek : k = 4 := by omega
    subst ek
    have z : (4 : Int32) ≤ nI 4 := by decide
    have b1 := an_Mc1 hc
    refine s_mla (fun _ c => ?_) (fun _ c c2 => ?_) (fun _ c c2 => ?_) (fun c => absurd z c)
    · refine hq _ _ (mFr.up (by rfl) (mFr.sub (by decide) F)) (hI.ss F R).u0 ?_
      unfold an_mil
      rw [if_neg (b1.mp c)]
    · refine hq _ _ (mFr.sub (by decide) F) (hI.ss F R) ?_
      unfold an_mil
      have lt := Decidable.of_not_not (mt b1.mpr c)
      rcases hc with ⟨h1, _, _⟩ | ⟨_, h2, _⟩
      · omega
      · rw [if_pos lt, if_pos (by rw [c2]; rfl)]
        exact h2
    · refine hq _ _ (mFr.sub (by decide) F) (hI.ss F R) ?_
      unfold an_mil
      have lt := Decidable.of_not_not (mt b1.mpr c)
      rcases hc with ⟨h1, _, _⟩ | ⟨_, _, h3⟩
      · omega
      · rw [if_pos lt, if_neg (c := v0.toInt = 0) (fun y => c2 (Int32.toInt_inj.mp y))]
        exact h3
  | succ e ih =>
    intro k he I a b o5 F R hc
    have z : ¬ (4 : Int32) ≤ nI k := nI_ge (b := 4) (by omega) (by omega)
    refine s_mla (fun c => absurd c z) (fun c => absurd c z) (fun c => absurd c z) (fun _ => ?_)
    refine mCall (s2 := (d + 6, 52, 0, [some (.ref 10), some (.ref 6), some (.int (nI k)), none, none, none], [], 0, 0, (mSH, I, L))) rfl ?_
    refine x_fillv_6 (k2 := k) rfl (by omega) hO (hC.fr F (by decide)) R (fun J fJ rJ wJ => ?_)
    show mWP mTb_ mFT ro (d + 7, 91, 40, [some (.ref 0), some (.int v0), some (.int (a)), some (.int (b)), some (.int (nI k)), o5], [], 0, 0, (mSH, J, L)) _
    have F2 : mFr mSS I0 J := fun c hc => (fJ c hc).trans (F c hc)
    have okk := (an_ok (pm_Ok hO (show k ≤ 3 by omega))).le1
    have oke := (an_mle hO k (by omega)).1
    have h12 : J 12 153 = nI (an_W T B k g pe).1.1 := wJ.n.1.1
    have b1 := an_Mc1 hc
    have keep : ¬ (an_W T B k g pe).1.1 < (an_ml T B g pe k).2 → ∀ o5, mWP mTb_ mFT ro (d + 7, 91, 21, [some (.ref 0), some (.int v0), some (.int (a)), some (.int (b)), some (.int (nI k + 1)), o5], [], 0, 0, (mSH, J, L)) Q := fun y o5 => by
      rw [nI_1]
      exact ih (k + 1) (by omega) J a b o5 F2 rJ (by rw [an_mlf y]; exact hc)
    have take : (an_W T B k g pe).1.1 < (an_ml T B g pe k).2 → ∀ o5, mWP mTb_ mFT ro (d + 7, 91, 21, [some (.ref 0), some (.int v0), some (.int (nI k)), some (.int (J 12 153)), some (.int (nI k + 1)), o5], [], 0, 0, (mSH, J, L)) Q := fun y o5 => by
      rw [nI_1]
      exact ih (k + 1) (by omega) J _ _ o5 F2 rJ (by rw [an_mlt y]; exact Or.inr ⟨by show (an_W T B k g pe).1.1 < bt_U; omega, rfl, h12⟩)
    refine s_mlb (fun c => keep (fun y => ?_) _) (fun _ c => absurd c (an_m1 okk h12)) (fun c _ c2 => take ?_ _) (fun c _ c2 c3 => keep (fun y => ?_) _) (fun c _ c2 c3 => take ?_ _)
    · have w := an_sn okk h12 c
      unfold an_s at w
      rw [if_pos (by omega)] at w
      exact an_n1 (by omega) w
    · have := an_lt okk h12 c
      have := b1.mp c2
      omega
    · rcases hc with ⟨h1, _, h3⟩ | ⟨h1, _, h3⟩
      · exact c2 h3
      · have U31 := bt_Ul
        rw [h12, h3, nI_leI (by omega) (by omega)] at c3
        omega
    · rcases hc with ⟨h1, _, h3⟩ | ⟨h1, _, h3⟩
      · exact absurd h3 c2
      · have U31 := bt_Ul
        rw [h12, h3, nI_leI (by omega) (by omega)] at c3
        omega
theorem l_nlx {ro : Nat → Nat × (Nat → Int32)} {Q : mPo} {d : Nat} {I0 : Nat → Nat → Int32} {L : Nat → Nat → Int64} {s n t : Nat} (hm : mM s n t I0) (hO : pm_O T B kd g pe) (hM : pm_M T B kd g pe I0) (hq : ∀ r I1 L1, mGr I0 I1 → mIM I1 → r = an_mil T B g pe v0 → Q (some (.int r)) (mSH, I1, L1)) : ∀ (e k : Nat), k + e = 4 → ∀ (I : Nat → Nat → Int32) (a b : Int32), mGr I0 I → an_Mm (an_ml T B g pe k) a b → mWP mTb_ mFT ro (d + 5, 139, 23, [some (.ref 34), some (.int v0), some (.int (a)), some (.int (b)), some (.int (nI k))], [], 0, 0, (mSH, I, L)) Q := by
  intro e
  induction e with
  | zero =>
    intro k he I a b G hc
    have ek : k = 4 := by omega
    subst ek
    have z : (3 : Int32) < nI 4 := by decide
    have b1 := an_Mm1 hc (an_mle hO 4 (by omega)).2
    refine s_nla (fun _ c => ?_) (fun _ c c2 => ?_) (fun _ c c2 => ?_) (fun c => absurd z c)
    · refine hq _ _ _ (mGr.up (by rfl) G) ⟨s, n, t, (mGr.up (by rfl) G).m hm⟩ ?_
      unfold an_mil
      rw [if_neg (b1.mp c)]
    · refine hq _ _ _ G ⟨s, n, t, G.m hm⟩ ?_
      unfold an_mil
      have lt := Decidable.of_not_not (mt b1.mpr c)
      rcases hc with ⟨h1, _⟩ | ⟨_, h2, _⟩
      · omega
      · rw [if_pos lt, if_pos (by rw [c2]; rfl)]
        exact h2
    · refine hq _ _ _ G ⟨s, n, t, G.m hm⟩ ?_
      unfold an_mil
      have lt := Decidable.of_not_not (mt b1.mpr c)
      rcases hc with ⟨h1, _⟩ | ⟨_, _, h3⟩
      · omega
      · rw [if_pos lt, if_neg (c := v0.toInt = 0) (fun y => c2 (Int32.toInt_inj.mp y))]
        exact h3
  | succ e ih =>
    intro k he I a b G hc
    have z : ¬ (3 : Int32) < nI k := nI_nlt (a := 3) (by omega) (by omega)
    refine s_nla (fun c => absurd c z) (fun c => absurd c z) (fun c => absurd c z) (fun _ => ?_)
    refine mCall (s2 := (d + 4, 131, 0, [some (.ref 34), some (.int (nI k)), some (.int 0), none], [], 0, 0, (mSH, I, L))) rfl ?_
    have hM2 : pm_M T B kd g pe I := ⟨hM.1.gr G, hM.2.1.gr G, hM.2.2.1.gr G, by rw [G.1 38 rfl]; exact hM.2.2.2⟩
    refine x_mf_0 (k2 := k) rfl (by omega) hO hM2 (fun r1 J gJ fJ _ iJ => ?_)
    show mWP mTb_ mFT ro (d + 5, 139, 36, [some (.ref 34), some (.int v0), some (.int (a)), some (.int (b)), some (.int (nI k))], [.int r1], 0, 0, (mSH, J, L)) _
    have G2 := G.tr gJ
    have okk := (an_ok (pm_Ok hO (show k ≤ 3 by omega))).le1
    have oke := an_mle hO k (by omega)
    have b1 := an_Mm1 hc (by omega)
    have keep : ¬ (an_W T B k g pe).1.1 < (an_ml T B g pe k).2 → mWP mTb_ mFT ro (d + 5, 139, 23, [some (.ref 34), some (.int v0), some (.int (a)), some (.int (b)), some (.int (nI k + 1))], [], 0, 0, (mSH, J, L)) Q := fun y => by
      rw [nI_1]
      exact ih (k + 1) (by omega) J a b G2 (by rw [an_mlf y]; exact hc)
    have take : (an_W T B k g pe).1.1 < bt_U → (an_W T B k g pe).1.1 < (an_ml T B g pe k).2 → mWP mTb_ mFT ro (d + 5, 139, 23, [some (.ref 34), some (.int v0), some (.int (nI k)), some (.int (J 46 0)), some (.int (nI k + 1))], [], 0, 0, (mSH, J, L)) Q := fun y0 y => by
      rw [nI_1]
      exact ih (k + 1) (by omega) J _ _ G2 (by rw [an_mlt y]; exact Or.inr ⟨y0, rfl, (fJ.1.1.2 y0).1⟩)
    have lt1 : ¬ r1 = 0 → (an_W T B k g pe).1.1 < bt_U := fun c => Decidable.of_not_not (mt iJ.mpr c)
    refine s_nlb (fun c => keep (fun y => (iJ.mp c) (by omega))) (fun c c2 => take (lt1 c) ?_) (fun c c2 c3 => keep (fun y => ?_)) (fun c c2 c3 => take (lt1 c) ?_)
    · have := lt1 c
      have := b1.mp c2
      omega
    · rcases hc with ⟨h1, h2⟩ | ⟨h1, _, h3⟩
      · exact c2 h2
      · have U31 := bt_Ul
        rw [(fJ.1.1.2 (lt1 c)).1, h3, nI_leI (by omega) (by omega)] at c3
        omega
    · rcases hc with ⟨h1, h2⟩ | ⟨h1, _, h3⟩
      · exact absurd h2 c2
      · have U31 := bt_Ul
        rw [(fJ.1.1.2 (lt1 c)).1, h3, nI_leI (by omega) (by have := lt1 c; omega)] at c3
        omega
end ML
theorem v_mildest {ro : Nat → Nat × (Nat → Int32)} {Q : mPo} {d : Nat} {I : Nat → Nat → Int32} {L : Nat → Nat → Int64} {T : ct_S} {B : ct_B} {kd g pe : Nat} {v0 : Int32} (hI : mIC I) (hO : pm_O T B kd g pe) (hC : pm_C T B kd g pe I) (hq : ∀ r I1, mFr mSQ I I1 → mIC I1 → r = an_mildest T B g pe v0 → Q (some (.int r)) (mSH, I1, L))   : mWP mTb_ mFT ro (d + 7, 91, 0, [some (.ref 0), some (.int v0), none, none, none, none], [], 0, 0, (mSH, I, L)) Q := by
  refine mB 1 (s2 := (d + 7, 91, 1, [some (.ref 0), some (.int v0), none, none, none, none], [.int v0], 0, 0, (mSH, I, L))) rfl ?_
  refine mCall (s2 := (d + 6, 108, 0, [some (.int v0)], [], 0, 0, (mSH, I, L))) rfl ?_
  refine mB 1 (s2 := (d + 6, 108, 1, [some (.int v0)], [.int v0], 0, 0, (mSH, I, L))) rfl ?_
  refine mBr (s2 := (d + 6, 108, 9, [some (.int v0)], [], 0, 0, (mSH, I, L))) (s3 := (d + 6, 108, 4, [some (.int v0)], [], 0, 0, (mSH, I, L))) rfl (fun c0 => ?_) (fun c0 => ?_)
  · refine mB 2 (s2 := (d + 6, 108, 14, [some (.int v0)], [.int 1], 0, 0, (mSH, I, L))) rfl ?_
    refine mRt (r := (some (.int 1))) (h := (mSH, I, L)) rfl rfl ?_
    show mWP mTb_ mFT ro (d + 7, 91, 4, [some (.ref 0), some (.int v0), none, none, none, none], [.int 1], 0, 0, (mSH, I, L)) _
    refine mBF (s3 := (d + 7, 91, 14, [some (.ref 0), some (.int v0), none, none, none, none], [], 0, 0, (mSH, I, L))) rfl (by decide) ?_
    refine mB 6 (s2 := (d + 7, 91, 21, [some (.ref 0), some (.int v0), some (.int (-1)), some (.int (-1)), some (.int 0), none], [], 0, 0, (mSH, I, L))) rfl ?_
    (have ek : an_mildest T B g pe v0 = an_mil T B g pe v0 := if_pos (c := kEi v0) (by have b0 : (v0).toInt = 0 := (by have z := of_decide_eq_true c0; rw [z]; rfl); omega); exact l_mlx hI hO hC (fun r I1 a b e => hq r I1 a b (e.trans ek.symm)) 4 0 (by omega) I _ _ _ mFr.rf hI.2.2.2.2.2.2 (Or.inl ⟨rfl, rfl, rfl⟩))
  · refine mB 2 (s2 := (d + 6, 108, 6, [some (.int v0)], [.int 1, .int v0], 0, 0, (mSH, I, L))) rfl ?_
    refine mBr (s2 := (d + 6, 108, 9, [some (.int v0)], [], 0, 0, (mSH, I, L))) (s3 := (d + 6, 108, 13, [some (.int v0)], [], 0, 0, (mSH, I, L))) rfl (fun c1 => ?_) (fun c1 => ?_)
    · refine mB 2 (s2 := (d + 6, 108, 14, [some (.int v0)], [.int 1], 0, 0, (mSH, I, L))) rfl ?_
      refine mRt (r := (some (.int 1))) (h := (mSH, I, L)) rfl rfl ?_
      show mWP mTb_ mFT ro (d + 7, 91, 4, [some (.ref 0), some (.int v0), none, none, none, none], [.int 1], 0, 0, (mSH, I, L)) _
      refine mBF (s3 := (d + 7, 91, 14, [some (.ref 0), some (.int v0), none, none, none, none], [], 0, 0, (mSH, I, L))) rfl (by decide) ?_
      refine mB 6 (s2 := (d + 7, 91, 21, [some (.ref 0), some (.int v0), some (.int (-1)), some (.int (-1)), some (.int 0), none], [], 0, 0, (mSH, I, L))) rfl ?_
      (have ek : an_mildest T B g pe v0 = an_mil T B g pe v0 := if_pos (c := kEi v0) (by have b0 : (v0).toInt = 1 := (by have z := of_decide_eq_true c1; rw [z]; rfl); have a0 := of_decide_eq_false c0; simp only [Int32.lt_iff_toInt_lt, Int32.le_iff_toInt_le, ← Int32.toInt_inj, mLi0, mLi1, mLi2, mLi3, mLi4, mLi5, mLi6, mLi7, mLi8, mLi9, mLi10, mLi16, mLi32, mLi48, mLi57, mLi59, mLi65, mLi90, mLi97, mLi99, mLi120, mLi122, mLi127, mLi1584, mLi999999, mLim] at a0 <;> omega); exact l_mlx hI hO hC (fun r I1 a b e => hq r I1 a b (e.trans ek.symm)) 4 0 (by omega) I _ _ _ mFr.rf hI.2.2.2.2.2.2 (Or.inl ⟨rfl, rfl, rfl⟩))
    · refine mB 1 (s2 := (d + 6, 108, 14, [some (.int v0)], [.int 0], 0, 0, (mSH, I, L))) rfl ?_
      refine mRt (r := (some (.int 0))) (h := (mSH, I, L)) rfl rfl ?_
      show mWP mTb_ mFT ro (d + 7, 91, 4, [some (.ref 0), some (.int v0), none, none, none, none], [.int 0], 0, 0, (mSH, I, L)) _
      refine mBT (s2 := (d + 7, 91, 7, [some (.ref 0), some (.int v0), none, none, none, none], [], 0, 0, (mSH, I, L))) rfl (by decide) ?_
      refine mB 2 (s2 := (d + 7, 91, 10, [some (.ref 0), some (.int v0), none, none, none, none], [.int (-2), .ref 0], 0, 0, (mSH, I, L))) rfl ?_
      refine mCall (s2 := (d + 6, 103, 0, [some (.ref 0), some (.int (-2))], [], 0, 0, (mSH, I, L))) rfl ?_
      refine mB 2 (s2 := (d + 6, 103, 3, [some (.ref 0), some (.int (-2))], [.int (-2), .int (-2)], 0, 0, (mSH, I, L))) rfl ?_
      refine mBT (s2 := (d + 6, 103, 6, [some (.ref 0), some (.int (-2))], [], 0, 0, (mSH, I, L))) rfl (by decide) ?_
      refine mB 8 (s2 := (d + 6, 103, 49, [some (.ref 0), some (.int (-2))], [.int (-2)], 0, 0, (mSH, (mUp I 0 9 ((I 0 9) + 1)), L))) rfl ?_
      refine mRt (r := (some (.int (-2)))) (h := (mSH, (mUp I 0 9 ((I 0 9) + 1)), L)) rfl (mRet_int rfl) ?_
      show mWP mTb_ mFT ro (d + 7, 91, 13, [some (.ref 0), some (.int v0), none, none, none, none], [.int (-2)], 0, 0, (mSH, (mUp I 0 9 ((I 0 9) + 1)), L)) _
      refine mRt (r := (some (.int (-2)))) (h := (mSH, (mUp I 0 9 ((I 0 9) + 1)), L)) rfl (mRet_int rfl) ?_
      exact hq _ _ (mFr.up (by rfl) mFr.rf) (mIC.u0 hI) (if_neg (c := kEi v0) (by have e1 := pm_ti hC.1.1 (by have := hO.1.1; omega); have e2 := pm_ti hC.1.2.1 (by have := hO.1.2.1; omega); have a0 := of_decide_eq_false c0; have a1 := of_decide_eq_false c1; simp only [Int32.lt_iff_toInt_lt, Int32.le_iff_toInt_le, ← Int32.toInt_inj, mLi0, mLi1, mLi2, mLi3, mLi4, mLi5, mLi6, mLi7, mLi8, mLi9, mLi10, mLi16, mLi32, mLi48, mLi57, mLi59, mLi65, mLi90, mLi97, mLi99, mLi120, mLi122, mLi127, mLi1584, mLi999999, mLim] at a0 a1 <;> omega)).symm
theorem v_nmildest {ro : Nat → Nat × (Nat → Int32)} {Q : mPo} {d : Nat} {I : Nat → Nat → Int32} {L : Nat → Nat → Int64} {s n t : Nat} {T : ct_S} {B : ct_B} {kd g pe : Nat} {v0 : Int32} (hm : mM s n t I) (hO : pm_O T B kd g pe) (hM : pm_M T B kd g pe I) (hq : ∀ r I1 L1, mGr I I1 → mIM I1 → r = an_mildest T B g pe v0 → Q (some (.int r)) (mSH, I1, L1))   : mWP mTb_ mFT ro (d + 5, 139, 0, [some (.ref 34), some (.int v0), none, none, none], [], 0, 0, (mSH, I, L)) Q := by
  refine mB 3 (s2 := (d + 5, 139, 3, [some (.ref 34), some (.int v0), none, none, none], [.int 1, .int 0, .int v0], 0, 0, (mSH, I, L))) rfl ?_
  refine mCall (s2 := (d + 4, 112, 0, [some (.int v0), some (.int 0), some (.int 1)], [], 0, 0, (mSH, I, L))) rfl ?_
  refine mB 2 (s2 := (d + 4, 112, 2, [some (.int v0), some (.int 0), some (.int 1)], [.int 0, .int v0], 0, 0, (mSH, I, L))) rfl ?_
  refine mBr (s2 := (d + 4, 112, 14, [some (.int v0), some (.int 0), some (.int 1)], [], 0, 0, (mSH, I, L))) (s3 := (d + 4, 112, 5, [some (.int v0), some (.int 0), some (.int 1)], [], 0, 0, (mSH, I, L))) rfl (fun c0 => ?_) (fun c0 => ?_)
  · refine mB 1 (s2 := (d + 4, 112, 15, [some (.int v0), some (.int 0), some (.int 1)], [.int 0], 0, 0, (mSH, I, L))) rfl ?_
    refine mRt (r := (some (.int 0))) (h := (mSH, I, L)) rfl rfl ?_
    show mWP mTb_ mFT ro (d + 5, 139, 6, [some (.ref 34), some (.int v0), none, none, none], [.int 0], 0, 0, (mSH, I, L)) _
    refine mBT (s2 := (d + 5, 139, 9, [some (.ref 34), some (.int v0), none, none, none], [], 0, 0, (mSH, I, L))) rfl (by decide) ?_
    refine mB 2 (s2 := (d + 5, 139, 12, [some (.ref 34), some (.int v0), none, none, none], [.int (-2), .ref 34], 0, 0, (mSH, I, L))) rfl ?_
    refine mCall (s2 := (d + 4, 113, 0, [some (.ref 34), some (.int (-2))], [], 0, 0, (mSH, I, L))) rfl ?_
    refine mB 6 (s2 := (d + 4, 113, 9, [some (.ref 34), some (.int (-2))], [.int 0, .ref 39, .int 0, .ref 39], 0, 0, (mSH, I, L))) rfl ?_
    refine mRq (s2 := (d + 4, 113, 10, [some (.ref 34), some (.int (-2))], [.int (I 39 0), .int 0, .ref 39], 0, 0, (mSH, I, L))) rfl (by decide) ?_
    refine mB 2 (s2 := (d + 4, 113, 12, [some (.ref 34), some (.int (-2))], [.int ((I 39 0) + 1), .int 0, .ref 39], 0, 0, (mSH, I, L))) rfl ?_
    refine mRq (s2 := (d + 4, 113, 13, [some (.ref 34), some (.int (-2))], [], 0, 0, (mSH, (mUp I 39 0 ((I 39 0) + 1)), L))) rfl (by decide) ?_
    refine mB 1 (s2 := (d + 4, 113, 14, [some (.ref 34), some (.int (-2))], [.int (-2)], 0, 0, (mSH, (mUp I 39 0 ((I 39 0) + 1)), L))) rfl ?_
    refine mRt (r := (some (.int (-2)))) (h := (mSH, (mUp I 39 0 ((I 39 0) + 1)), L)) rfl (mRet_int rfl) ?_
    show mWP mTb_ mFT ro (d + 5, 139, 15, [some (.ref 34), some (.int v0), none, none, none], [.int (-2)], 0, 0, (mSH, (mUp I 39 0 ((I 39 0) + 1)), L)) _
    refine mRt (r := (some (.int (-2)))) (h := (mSH, (mUp I 39 0 ((I 39 0) + 1)), L)) rfl (mRet_int rfl) ?_
    exact hq _ _ _ (mGr.up (by rfl) mGr.rf) ⟨s, n, t, ((mGr.up (by rfl) mGr.rf)).m hm⟩ (if_neg (c := kEi v0) (by have e1 := pm_ti hM.1.1 (by have := hO.1.1; omega); have e2 := pm_ti hM.1.2.1 (by have := hO.1.2.1; omega); have e3 := mSub1 hM.1.1 hO.1.1; have e4 := mSub1 hM.1.2.1 (Nat.le_trans hO.1.2.1 (by omega)); have e5 := hO.1.1; have e6 := hO.1.2.1; have a0 := of_decide_eq_true c0; simp only [Int32.lt_iff_toInt_lt, Int32.le_iff_toInt_le, ← Int32.toInt_inj, mLi0, mLi1, mLi2, mLi3, mLi4, mLi5, mLi6, mLi7, mLi8, mLi9, mLi10, mLi16, mLi32, mLi48, mLi57, mLi59, mLi65, mLi90, mLi97, mLi99, mLi120, mLi122, mLi127, mLi1584, mLi999999, mLim] at a0 <;> omega)).symm
  · refine mB 2 (s2 := (d + 4, 112, 7, [some (.int v0), some (.int 0), some (.int 1)], [.int 1, .int v0], 0, 0, (mSH, I, L))) rfl ?_
    refine mBr (s2 := (d + 4, 112, 14, [some (.int v0), some (.int 0), some (.int 1)], [], 0, 0, (mSH, I, L))) (s3 := (d + 4, 112, 10, [some (.int v0), some (.int 0), some (.int 1)], [], 0, 0, (mSH, I, L))) rfl (fun c1 => ?_) (fun c1 => ?_)
    · refine mB 1 (s2 := (d + 4, 112, 15, [some (.int v0), some (.int 0), some (.int 1)], [.int 0], 0, 0, (mSH, I, L))) rfl ?_
      refine mRt (r := (some (.int 0))) (h := (mSH, I, L)) rfl rfl ?_
      show mWP mTb_ mFT ro (d + 5, 139, 6, [some (.ref 34), some (.int v0), none, none, none], [.int 0], 0, 0, (mSH, I, L)) _
      refine mBT (s2 := (d + 5, 139, 9, [some (.ref 34), some (.int v0), none, none, none], [], 0, 0, (mSH, I, L))) rfl (by decide) ?_
      refine mB 2 (s2 := (d + 5, 139, 12, [some (.ref 34), some (.int v0), none, none, none], [.int (-2), .ref 34], 0, 0, (mSH, I, L))) rfl ?_
      refine mCall (s2 := (d + 4, 113, 0, [some (.ref 34), some (.int (-2))], [], 0, 0, (mSH, I, L))) rfl ?_
      refine mB 6 (s2 := (d + 4, 113, 9, [some (.ref 34), some (.int (-2))], [.int 0, .ref 39, .int 0, .ref 39], 0, 0, (mSH, I, L))) rfl ?_
      refine mRq (s2 := (d + 4, 113, 10, [some (.ref 34), some (.int (-2))], [.int (I 39 0), .int 0, .ref 39], 0, 0, (mSH, I, L))) rfl (by decide) ?_
      refine mB 2 (s2 := (d + 4, 113, 12, [some (.ref 34), some (.int (-2))], [.int ((I 39 0) + 1), .int 0, .ref 39], 0, 0, (mSH, I, L))) rfl ?_
      refine mRq (s2 := (d + 4, 113, 13, [some (.ref 34), some (.int (-2))], [], 0, 0, (mSH, (mUp I 39 0 ((I 39 0) + 1)), L))) rfl (by decide) ?_
      refine mB 1 (s2 := (d + 4, 113, 14, [some (.ref 34), some (.int (-2))], [.int (-2)], 0, 0, (mSH, (mUp I 39 0 ((I 39 0) + 1)), L))) rfl ?_
      refine mRt (r := (some (.int (-2)))) (h := (mSH, (mUp I 39 0 ((I 39 0) + 1)), L)) rfl (mRet_int rfl) ?_
      show mWP mTb_ mFT ro (d + 5, 139, 15, [some (.ref 34), some (.int v0), none, none, none], [.int (-2)], 0, 0, (mSH, (mUp I 39 0 ((I 39 0) + 1)), L)) _
      refine mRt (r := (some (.int (-2)))) (h := (mSH, (mUp I 39 0 ((I 39 0) + 1)), L)) rfl (mRet_int rfl) ?_
      exact hq _ _ _ (mGr.up (by rfl) mGr.rf) ⟨s, n, t, ((mGr.up (by rfl) mGr.rf)).m hm⟩ (if_neg (c := kEi v0) (by have e1 := pm_ti hM.1.1 (by have := hO.1.1; omega); have e2 := pm_ti hM.1.2.1 (by have := hO.1.2.1; omega); have e3 := mSub1 hM.1.1 hO.1.1; have e4 := mSub1 hM.1.2.1 (Nat.le_trans hO.1.2.1 (by omega)); have e5 := hO.1.1; have e6 := hO.1.2.1; have a0 := of_decide_eq_false c0; have a1 := of_decide_eq_true c1; simp only [Int32.lt_iff_toInt_lt, Int32.le_iff_toInt_le, ← Int32.toInt_inj, mLi0, mLi1, mLi2, mLi3, mLi4, mLi5, mLi6, mLi7, mLi8, mLi9, mLi10, mLi16, mLi32, mLi48, mLi57, mLi59, mLi65, mLi90, mLi97, mLi99, mLi120, mLi122, mLi127, mLi1584, mLi999999, mLim] at a0 a1 <;> omega)).symm
    · refine mB 2 (s2 := (d + 4, 112, 15, [some (.int v0), some (.int 0), some (.int 1)], [.int 1], 0, 0, (mSH, I, L))) rfl ?_
      refine mRt (r := (some (.int 1))) (h := (mSH, I, L)) rfl rfl ?_
      show mWP mTb_ mFT ro (d + 5, 139, 6, [some (.ref 34), some (.int v0), none, none, none], [.int 1], 0, 0, (mSH, I, L)) _
      refine mBF (s3 := (d + 5, 139, 16, [some (.ref 34), some (.int v0), none, none, none], [], 0, 0, (mSH, I, L))) rfl (by decide) ?_
      refine mB 6 (s2 := (d + 5, 139, 23, [some (.ref 34), some (.int v0), some (.int (-1)), some (.int 0), some (.int 0)], [], 0, 0, (mSH, I, L))) rfl ?_
      (have ek : an_mildest T B g pe v0 = an_mil T B g pe v0 := if_pos (c := kEi v0) (by have a0 := of_decide_eq_false c0; have a1 := of_decide_eq_false c1; simp only [Int32.lt_iff_toInt_lt, Int32.le_iff_toInt_le, ← Int32.toInt_inj, mLi0, mLi1, mLi2, mLi3, mLi4, mLi5, mLi6, mLi7, mLi8, mLi9, mLi10, mLi16, mLi32, mLi48, mLi57, mLi59, mLi65, mLi90, mLi97, mLi99, mLi120, mLi122, mLi127, mLi1584, mLi999999, mLim] at a0 a1 <;> omega); exact l_nlx hm hO hM (fun r I1 L1 a b e => hq r I1 L1 a b (e.trans ek.symm)) 4 0 (by omega) I _ _ mGr.rf (Or.inl ⟨rfl, rfl⟩))
