/-! The model goes through all matches. Written by a program (wip/mk_c.py). -/
theorem s_go1 {ro : Nat → Nat × (Nat → Int32)} {Q : mPo} {d : Nat} {I : Nat → Nat → Int32} {L : Nat → Nat → Int64} {f kd fr : Int32} {j : Nat} {o5 o6 : Option Value}  (h1 : ((nI j) < 0) → Q none (mSH, I, L)) (h2 : ¬ ((nI j) < 0) → vp_in (nI j) 9) (h3 : ¬ ((nI j) < 0) → vp_in (nI j) 9) (h4 : ¬ ((nI j) < 0) → vp_in (nI j) 9) (h5 : ¬ ((nI j) < 0) → (((mUp I 45 ((nI j).toNatClampNeg) ((I 45 ((nI j).toNatClampNeg)) + 1)) 45 ((nI j).toNatClampNeg)) ≤ 2) → vp_in (nI j) 9) (h6 : ¬ ((nI j) < 0) → (((mUp I 45 ((nI j).toNatClampNeg) ((I 45 ((nI j).toNatClampNeg)) + 1)) 45 ((nI j).toNatClampNeg)) ≤ 2) → vp_in (nI j) 9) (h7 : ¬ ((nI j) < 0) → (((mUp I 45 ((nI j).toNatClampNeg) ((I 45 ((nI j).toNatClampNeg)) + 1)) 45 ((nI j).toNatClampNeg)) ≤ 2) → mWP mTb_ mFT ro (d + 2, 129, 84, [some (.ref 34), some (.int f), some (.int kd), some (.int fr), some (.int (nI j)), some (.int ((2 * ((mUp I 45 ((nI j).toNatClampNeg) ((I 45 ((nI j).toNatClampNeg)) + 1)) 45 ((nI j).toNatClampNeg))) + 1)), o6], [.int fr, .int kd, .int ((2 * ((mUp I 45 ((nI j).toNatClampNeg) ((I 45 ((nI j).toNatClampNeg)) + 1)) 45 ((nI j).toNatClampNeg))) + 1), .int (I 44 ((nI j).toNatClampNeg)), .int (nI j), .ref 34], 0, 0, (mSH, (mUp I 45 ((nI j).toNatClampNeg) ((I 45 ((nI j).toNatClampNeg)) + 1)), L)) Q) (h8 : ¬ ((nI j) < 0) → ¬ (((mUp I 45 ((nI j).toNatClampNeg) ((I 45 ((nI j).toNatClampNeg)) + 1)) 45 ((nI j).toNatClampNeg)) ≤ 2) → mWP mTb_ mFT ro (d + 2, 129, 24, [some (.ref 34), some (.int f), some (.int kd), some (.int fr), some (.int ((nI j) + (-1))), o5, o6], [], 0, 0, (mSH, (mUp I 45 ((nI j).toNatClampNeg) ((I 45 ((nI j).toNatClampNeg)) + 1)), L)) Q) : mWP mTb_ mFT ro (d + 2, 129, 24, [some (.ref 34), some (.int f), some (.int kd), some (.int fr), some (.int (nI j)), o5, o6], [], 0, 0, (mSH, I, L)) Q := by
  refine mB 1 (s2 := (d + 2, 129, 26, [some (.ref 34), some (.int f), some (.int kd), some (.int fr), some (.int (nI j)), o5, o6], [.int (nI j)], 0, 0, (mSH, I, L))) rfl ?_
  refine mBr (s2 := (d + 2, 129, 181, [some (.ref 34), some (.int f), some (.int kd), some (.int fr), some (.int (nI j)), o5, o6], [], 0, 0, (mSH, I, L))) (s3 := (d + 2, 129, 29, [some (.ref 34), some (.int f), some (.int kd), some (.int fr), some (.int (nI j)), o5, o6], [], 0, 0, (mSH, I, L))) rfl (fun c0 => ?_) (fun c0 => ?_)
  · refine mRt (r := none) (h := (mSH, I, L)) rfl rfl ?_
    exact h1 (of_decide_eq_true c0)
  · refine mB 4 (s2 := (d + 2, 129, 36, [some (.ref 34), some (.int f), some (.int kd), some (.int fr), some (.int (nI j)), o5, o6], [.int (nI j), .ref 45, .int (nI j), .ref 45], 0, 0, (mSH, I, L))) rfl ?_
    refine mRq (s2 := (d + 2, 129, 37, [some (.ref 34), some (.int f), some (.int kd), some (.int fr), some (.int (nI j)), o5, o6], [.int (I 45 ((nI j).toNatClampNeg)), .int (nI j), .ref 45], 0, 0, (mSH, I, L))) rfl (mVp_of (h2 (of_decide_eq_false c0))) ?_
    refine mB 2 (s2 := (d + 2, 129, 39, [some (.ref 34), some (.int f), some (.int kd), some (.int fr), some (.int (nI j)), o5, o6], [.int ((I 45 ((nI j).toNatClampNeg)) + 1), .int (nI j), .ref 45], 0, 0, (mSH, I, L))) rfl ?_
    refine mRq (s2 := (d + 2, 129, 40, [some (.ref 34), some (.int f), some (.int kd), some (.int fr), some (.int (nI j)), o5, o6], [], 0, 0, (mSH, (mUp I 45 ((nI j).toNatClampNeg) ((I 45 ((nI j).toNatClampNeg)) + 1)), L))) rfl (mVp_of (h3 (of_decide_eq_false c0))) ?_
    refine mB 3 (s2 := (d + 2, 129, 46, [some (.ref 34), some (.int f), some (.int kd), some (.int fr), some (.int (nI j)), o5, o6], [.int (nI j), .ref 45], 0, 0, (mSH, (mUp I 45 ((nI j).toNatClampNeg) ((I 45 ((nI j).toNatClampNeg)) + 1)), L))) rfl ?_
    refine mRq (s2 := (d + 2, 129, 47, [some (.ref 34), some (.int f), some (.int kd), some (.int fr), some (.int (nI j)), o5, o6], [.int ((mUp I 45 ((nI j).toNatClampNeg) ((I 45 ((nI j).toNatClampNeg)) + 1)) 45 ((nI j).toNatClampNeg))], 0, 0, (mSH, (mUp I 45 ((nI j).toNatClampNeg) ((I 45 ((nI j).toNatClampNeg)) + 1)), L))) rfl (mVp_of (h4 (of_decide_eq_false c0))) ?_
    refine mB 1 (s2 := (d + 2, 129, 48, [some (.ref 34), some (.int f), some (.int kd), some (.int fr), some (.int (nI j)), o5, o6], [.int 2, .int ((mUp I 45 ((nI j).toNatClampNeg) ((I 45 ((nI j).toNatClampNeg)) + 1)) 45 ((nI j).toNatClampNeg))], 0, 0, (mSH, (mUp I 45 ((nI j).toNatClampNeg) ((I 45 ((nI j).toNatClampNeg)) + 1)), L))) rfl ?_
    refine mBr (s2 := (d + 2, 129, 57, [some (.ref 34), some (.int f), some (.int kd), some (.int fr), some (.int (nI j)), o5, o6], [], 0, 0, (mSH, (mUp I 45 ((nI j).toNatClampNeg) ((I 45 ((nI j).toNatClampNeg)) + 1)), L))) (s3 := (d + 2, 129, 51, [some (.ref 34), some (.int f), some (.int kd), some (.int fr), some (.int (nI j)), o5, o6], [], 0, 0, (mSH, (mUp I 45 ((nI j).toNatClampNeg) ((I 45 ((nI j).toNatClampNeg)) + 1)), L))) rfl (fun c1 => ?_) (fun c1 => ?_)
    · refine mB 4 (s2 := (d + 2, 129, 64, [some (.ref 34), some (.int f), some (.int kd), some (.int fr), some (.int (nI j)), o5, o6], [.int (nI j), .ref 45, .int 2], 0, 0, (mSH, (mUp I 45 ((nI j).toNatClampNeg) ((I 45 ((nI j).toNatClampNeg)) + 1)), L))) rfl ?_
      refine mRq (s2 := (d + 2, 129, 65, [some (.ref 34), some (.int f), some (.int kd), some (.int fr), some (.int (nI j)), o5, o6], [.int ((mUp I 45 ((nI j).toNatClampNeg) ((I 45 ((nI j).toNatClampNeg)) + 1)) 45 ((nI j).toNatClampNeg)), .int 2], 0, 0, (mSH, (mUp I 45 ((nI j).toNatClampNeg) ((I 45 ((nI j).toNatClampNeg)) + 1)), L))) rfl (mVp_of (h5 (of_decide_eq_false c0) (of_decide_eq_true c1))) ?_
      refine mB 9 (s2 := (d + 2, 129, 79, [some (.ref 34), some (.int f), some (.int kd), some (.int fr), some (.int (nI j)), some (.int ((2 * ((mUp I 45 ((nI j).toNatClampNeg) ((I 45 ((nI j).toNatClampNeg)) + 1)) 45 ((nI j).toNatClampNeg))) + 1)), o6], [.int (nI j), .ref 44, .int (nI j), .ref 34], 0, 0, (mSH, (mUp I 45 ((nI j).toNatClampNeg) ((I 45 ((nI j).toNatClampNeg)) + 1)), L))) rfl ?_
      refine mRq (s2 := (d + 2, 129, 80, [some (.ref 34), some (.int f), some (.int kd), some (.int fr), some (.int (nI j)), some (.int ((2 * ((mUp I 45 ((nI j).toNatClampNeg) ((I 45 ((nI j).toNatClampNeg)) + 1)) 45 ((nI j).toNatClampNeg))) + 1)), o6], [.int (I 44 ((nI j).toNatClampNeg)), .int (nI j), .ref 34], 0, 0, (mSH, (mUp I 45 ((nI j).toNatClampNeg) ((I 45 ((nI j).toNatClampNeg)) + 1)), L))) rfl (mVp_of (h6 (of_decide_eq_false c0) (of_decide_eq_true c1))) ?_
      refine mB 3 (s2 := (d + 2, 129, 84, [some (.ref 34), some (.int f), some (.int kd), some (.int fr), some (.int (nI j)), some (.int ((2 * ((mUp I 45 ((nI j).toNatClampNeg) ((I 45 ((nI j).toNatClampNeg)) + 1)) 45 ((nI j).toNatClampNeg))) + 1)), o6], [.int fr, .int kd, .int ((2 * ((mUp I 45 ((nI j).toNatClampNeg) ((I 45 ((nI j).toNatClampNeg)) + 1)) 45 ((nI j).toNatClampNeg))) + 1), .int (I 44 ((nI j).toNatClampNeg)), .int (nI j), .ref 34], 0, 0, (mSH, (mUp I 45 ((nI j).toNatClampNeg) ((I 45 ((nI j).toNatClampNeg)) + 1)), L))) rfl ?_
      exact h7 (of_decide_eq_false c0) (of_decide_eq_true c1)
    · refine mB 2 (s2 := (d + 2, 129, 24, [some (.ref 34), some (.int f), some (.int kd), some (.int fr), some (.int ((nI j) + (-1))), o5, o6], [], 0, 0, (mSH, (mUp I 45 ((nI j).toNatClampNeg) ((I 45 ((nI j).toNatClampNeg)) + 1)), L))) rfl ?_
      exact h8 (of_decide_eq_false c0) (of_decide_eq_false c1)
theorem s_go2 {ro : Nat → Nat × (Nat → Int32)} {Q : mPo} {d : Nat} {I : Nat → Nat → Int32} {L : Nat → Nat → Int64} {n : Nat} {f kd fr bk rr : Int32} {j : Nat} {o6 : Option Value} (hn : n ≤ 8) (g3 : I 34 3 = nI n)  (h1 : (rr < 0) → mWP mTb_ mFT ro (d + 2, 129, 24, [some (.ref 34), some (.int f), some (.int kd), some (.int fr), some (.int (nI j)), some (.int bk), some (.int rr)], [], 0, 0, (mSH, I, L)) Q) (h2 : ¬ (rr < 0) → (((nI j) + 1) = (I 34 3)) → vp_in (nI j) 9) (h3 : ¬ (rr < 0) → (((nI j) + 1) = (I 34 3)) → ∀ (K1 : Nat → Nat → Int32), (mGr I K1) → (K1 44 = I 44) → (K1 45 = I 45) → (K1 47 = I 47) → ((K1 46 1 = I 44 0 ∧ ∀ j, j < n → K1 46 (2 + j) = 2 * I 45 j + 1) ∨ (¬ I 46 0 < 0 ∧ ∀ j, j < 10 → K1 46 j = I 46 j)) → mWP mTb_ mFT ro (d + 2, 129, 24, [some (.ref 34), some (.int f), some (.int kd), some (.int fr), some (.int (nI j)), some (.int bk), some (.int rr)], [], 0, 0, (mSH, K1, L)) Q) (h4 : ¬ (rr < 0) → ¬ (((nI j) + 1) = (I 34 3)) → vp_in (nI j) 9) (h5 : ¬ (rr < 0) → ¬ (((nI j) + 1) = (I 34 3)) → vp_in ((nI j) + 1) 9) (h6 : ¬ (rr < 0) → ¬ (((nI j) + 1) = (I 34 3)) → vp_in (nI j) 9) (h7 : ¬ (rr < 0) → ¬ (((nI j) + 1) = (I 34 3)) → vp_in ((nI j) + 1) 9) (h8 : ¬ (rr < 0) → ¬ (((nI j) + 1) = (I 34 3)) → vp_in ((nI j) + 1) 9) (h9 : ¬ (rr < 0) → ¬ (((nI j) + 1) = (I 34 3)) → mWP mTb_ mFT ro (d + 2, 129, 24, [some (.ref 34), some (.int f), some (.int kd), some (.int fr), some (.int ((nI j) + 1)), some (.int bk), some (.int rr)], [], 0, 0, (mSH, (mUp (mUp (mUp I 47 (((nI j) + 1).toNatClampNeg) ((I 47 ((nI j).toNatClampNeg)) + rr)) 44 (((nI j) + 1).toNatClampNeg) ((I 44 ((nI j).toNatClampNeg)) + bk)) 45 (((nI j) + 1).toNatClampNeg) (-1)), L)) Q) : mWP mTb_ mFT ro (d + 2, 129, 87, [some (.ref 34), some (.int f), some (.int kd), some (.int fr), some (.int (nI j)), some (.int bk), o6], [.int rr], 0, 0, (mSH, I, L)) Q := by
  refine mB 2 (s2 := (d + 2, 129, 91, [some (.ref 34), some (.int f), some (.int kd), some (.int fr), some (.int (nI j)), some (.int bk), some (.int rr)], [.int rr], 0, 0, (mSH, I, L))) rfl ?_
  refine mBr (s2 := (d + 2, 129, 122, [some (.ref 34), some (.int f), some (.int kd), some (.int fr), some (.int (nI j)), some (.int bk), some (.int rr)], [], 0, 0, (mSH, I, L))) (s3 := (d + 2, 129, 94, [some (.ref 34), some (.int f), some (.int kd), some (.int fr), some (.int (nI j)), some (.int bk), some (.int rr)], [], 0, 0, (mSH, I, L))) rfl (fun c0 => ?_) (fun c0 => ?_)
  · refine mB 1 (s2 := (d + 2, 129, 124, [some (.ref 34), some (.int f), some (.int kd), some (.int fr), some (.int (nI j)), some (.int bk), some (.int rr)], [.int rr], 0, 0, (mSH, I, L))) rfl ?_
    refine mBT (c := decide (rr < 0)) (s2 := (d + 2, 129, 178, [some (.ref 34), some (.int f), some (.int kd), some (.int fr), some (.int (nI j)), some (.int bk), some (.int rr)], [], 0, 0, (mSH, I, L))) rfl (decide_eq_true (by have a0 := of_decide_eq_true c0; simp only [Int32.lt_iff_toInt_lt, Int32.le_iff_toInt_le, ← Int32.toInt_inj, mLi0, mLi1, mLi2, mLi3, mLi4, mLi5, mLi6, mLi7, mLi8, mLi9, mLi10, mLi16, mLi32, mLi48, mLi57, mLi59, mLi65, mLi90, mLi97, mLi99, mLi120, mLi122, mLi127, mLi1584, mLi999999, mLim] at a0 ⊢; omega)) ?_
    refine mB 1 (s2 := (d + 2, 129, 24, [some (.ref 34), some (.int f), some (.int kd), some (.int fr), some (.int (nI j)), some (.int bk), some (.int rr)], [], 0, 0, (mSH, I, L))) rfl ?_
    exact h1 (of_decide_eq_true c0)
  · refine mB 5 (s2 := (d + 2, 129, 102, [some (.ref 34), some (.int f), some (.int kd), some (.int fr), some (.int (nI j)), some (.int bk), some (.int rr)], [.int (I 34 3), .int ((nI j) + 1)], 0, 0, (mSH, I, L))) rfl ?_
    refine mBr (s2 := (d + 2, 129, 105, [some (.ref 34), some (.int f), some (.int kd), some (.int fr), some (.int (nI j)), some (.int bk), some (.int rr)], [], 0, 0, (mSH, I, L))) (s3 := (d + 2, 129, 122, [some (.ref 34), some (.int f), some (.int kd), some (.int fr), some (.int (nI j)), some (.int bk), some (.int rr)], [], 0, 0, (mSH, I, L))) rfl (fun c1 => ?_) (fun c1 => ?_)
    · refine mB 4 (s2 := (d + 2, 129, 112, [some (.ref 34), some (.int f), some (.int kd), some (.int fr), some (.int (nI j)), some (.int bk), some (.int rr)], [.int (nI j), .ref 47, .ref 34], 0, 0, (mSH, I, L))) rfl ?_
      refine mRq (s2 := (d + 2, 129, 113, [some (.ref 34), some (.int f), some (.int kd), some (.int fr), some (.int (nI j)), some (.int bk), some (.int rr)], [.int (I 47 ((nI j).toNatClampNeg)), .ref 34], 0, 0, (mSH, I, L))) rfl (mVp_of (h2 (of_decide_eq_false c0) (of_decide_eq_true c1))) ?_
      refine mB 2 (s2 := (d + 2, 129, 116, [some (.ref 34), some (.int f), some (.int kd), some (.int fr), some (.int (nI j)), some (.int bk), some (.int rr)], [.int ((I 47 ((nI j).toNatClampNeg)) + rr), .ref 34], 0, 0, (mSH, I, L))) rfl ?_
      refine mCall (s2 := (d + 1, 128, 0, [some (.ref 34), some (.int ((I 47 ((nI j).toNatClampNeg)) + rr)), none], [], 0, 0, (mSH, I, L))) rfl ?_
      refine w_meets hn g3 (fun K1 aK1 bK1 dK1 eK1 fK1 => ?_)
      show mWP mTb_ mFT ro (d + 2, 129, 119, [some (.ref 34), some (.int f), some (.int kd), some (.int fr), some (.int (nI j)), some (.int bk), some (.int rr)], [], 0, 0, (mSH, K1, L)) _
      refine mB 2 (s2 := (d + 2, 129, 24, [some (.ref 34), some (.int f), some (.int kd), some (.int fr), some (.int (nI j)), some (.int bk), some (.int rr)], [], 0, 0, (mSH, K1, L))) rfl ?_
      exact h3 (of_decide_eq_false c0) (of_decide_eq_true c1) K1 aK1 bK1 dK1 eK1 fK1
    · refine mB 1 (s2 := (d + 2, 129, 124, [some (.ref 34), some (.int f), some (.int kd), some (.int fr), some (.int (nI j)), some (.int bk), some (.int rr)], [.int rr], 0, 0, (mSH, I, L))) rfl ?_
      refine mBF (c := decide (rr < 0)) (s3 := (d + 2, 129, 127, [some (.ref 34), some (.int f), some (.int kd), some (.int fr), some (.int (nI j)), some (.int bk), some (.int rr)], [], 0, 0, (mSH, I, L))) rfl (decide_eq_false (by have a0 := of_decide_eq_false c0; simp only [Int32.lt_iff_toInt_lt, Int32.le_iff_toInt_le, ← Int32.toInt_inj, mLi0, mLi1, mLi2, mLi3, mLi4, mLi5, mLi6, mLi7, mLi8, mLi9, mLi10, mLi16, mLi32, mLi48, mLi57, mLi59, mLi65, mLi90, mLi97, mLi99, mLi120, mLi122, mLi127, mLi1584, mLi999999, mLim] at a0 ⊢; omega)) ?_
      refine mB 8 (s2 := (d + 2, 129, 141, [some (.ref 34), some (.int f), some (.int kd), some (.int fr), some (.int (nI j)), some (.int bk), some (.int rr)], [.int (nI j), .ref 47, .int ((nI j) + 1), .ref 47], 0, 0, (mSH, I, L))) rfl ?_
      refine mRq (s2 := (d + 2, 129, 142, [some (.ref 34), some (.int f), some (.int kd), some (.int fr), some (.int (nI j)), some (.int bk), some (.int rr)], [.int (I 47 ((nI j).toNatClampNeg)), .int ((nI j) + 1), .ref 47], 0, 0, (mSH, I, L))) rfl (mVp_of (h4 (of_decide_eq_false c0) (of_decide_eq_false c1))) ?_
      refine mB 2 (s2 := (d + 2, 129, 145, [some (.ref 34), some (.int f), some (.int kd), some (.int fr), some (.int (nI j)), some (.int bk), some (.int rr)], [.int ((I 47 ((nI j).toNatClampNeg)) + rr), .int ((nI j) + 1), .ref 47], 0, 0, (mSH, I, L))) rfl ?_
      refine mRq (s2 := (d + 2, 129, 146, [some (.ref 34), some (.int f), some (.int kd), some (.int fr), some (.int (nI j)), some (.int bk), some (.int rr)], [], 0, 0, (mSH, (mUp I 47 (((nI j) + 1).toNatClampNeg) ((I 47 ((nI j).toNatClampNeg)) + rr)), L))) rfl (mVp_of (h5 (of_decide_eq_false c0) (of_decide_eq_false c1))) ?_
      refine mB 8 (s2 := (d + 2, 129, 160, [some (.ref 34), some (.int f), some (.int kd), some (.int fr), some (.int (nI j)), some (.int bk), some (.int rr)], [.int (nI j), .ref 44, .int ((nI j) + 1), .ref 44], 0, 0, (mSH, (mUp I 47 (((nI j) + 1).toNatClampNeg) ((I 47 ((nI j).toNatClampNeg)) + rr)), L))) rfl ?_
      refine mRq (s2 := (d + 2, 129, 161, [some (.ref 34), some (.int f), some (.int kd), some (.int fr), some (.int (nI j)), some (.int bk), some (.int rr)], [.int (I 44 ((nI j).toNatClampNeg)), .int ((nI j) + 1), .ref 44], 0, 0, (mSH, (mUp I 47 (((nI j) + 1).toNatClampNeg) ((I 47 ((nI j).toNatClampNeg)) + rr)), L))) rfl (mVp_of (h6 (of_decide_eq_false c0) (of_decide_eq_false c1))) ?_
      refine mB 2 (s2 := (d + 2, 129, 164, [some (.ref 34), some (.int f), some (.int kd), some (.int fr), some (.int (nI j)), some (.int bk), some (.int rr)], [.int ((I 44 ((nI j).toNatClampNeg)) + bk), .int ((nI j) + 1), .ref 44], 0, 0, (mSH, (mUp I 47 (((nI j) + 1).toNatClampNeg) ((I 47 ((nI j).toNatClampNeg)) + rr)), L))) rfl ?_
      refine mRq (s2 := (d + 2, 129, 165, [some (.ref 34), some (.int f), some (.int kd), some (.int fr), some (.int (nI j)), some (.int bk), some (.int rr)], [], 0, 0, (mSH, (mUp (mUp I 47 (((nI j) + 1).toNatClampNeg) ((I 47 ((nI j).toNatClampNeg)) + rr)) 44 (((nI j) + 1).toNatClampNeg) ((I 44 ((nI j).toNatClampNeg)) + bk)), L))) rfl (mVp_of (h7 (of_decide_eq_false c0) (of_decide_eq_false c1))) ?_
      refine mB 6 (s2 := (d + 2, 129, 174, [some (.ref 34), some (.int f), some (.int kd), some (.int fr), some (.int (nI j)), some (.int bk), some (.int rr)], [.int (-1), .int ((nI j) + 1), .ref 45], 0, 0, (mSH, (mUp (mUp I 47 (((nI j) + 1).toNatClampNeg) ((I 47 ((nI j).toNatClampNeg)) + rr)) 44 (((nI j) + 1).toNatClampNeg) ((I 44 ((nI j).toNatClampNeg)) + bk)), L))) rfl ?_
      refine mRq (s2 := (d + 2, 129, 175, [some (.ref 34), some (.int f), some (.int kd), some (.int fr), some (.int (nI j)), some (.int bk), some (.int rr)], [], 0, 0, (mSH, (mUp (mUp (mUp I 47 (((nI j) + 1).toNatClampNeg) ((I 47 ((nI j).toNatClampNeg)) + rr)) 44 (((nI j) + 1).toNatClampNeg) ((I 44 ((nI j).toNatClampNeg)) + bk)) 45 (((nI j) + 1).toNatClampNeg) (-1)), L))) rfl (mVp_of (h8 (of_decide_eq_false c0) (of_decide_eq_false c1))) ?_
      refine mB 2 (s2 := (d + 2, 129, 24, [some (.ref 34), some (.int f), some (.int kd), some (.int fr), some (.int ((nI j) + 1)), some (.int bk), some (.int rr)], [], 0, 0, (mSH, (mUp (mUp (mUp I 47 (((nI j) + 1).toNatClampNeg) ((I 47 ((nI j).toNatClampNeg)) + rr)) 44 (((nI j) + 1).toNatClampNeg) ((I 44 ((nI j).toNatClampNeg)) + bk)) 45 (((nI j) + 1).toNatClampNeg) (-1)), L))) rfl ?_
      exact h9 (of_decide_eq_false c0) (of_decide_eq_false c1)
/-- a block of the path -/
def mStp (s : Nat) (I : Nat → Nat → Int32) (k : Nat) : Prop := ∃ b p, p ≤ 2 ∧ b + (2 * p + 1) ≤ s ∧ I 44 k = nI b ∧ I 45 k = nI p ∧ I 44 (k + 1) = nI (b + (2 * p + 1))
def mLv (s j : Nat) (I : Nat → Nat → Int32) : Prop := (∀ k, k < j → mStp s I k) ∧ ∃ b, b ≤ s ∧ I 44 j = nI b
/-- what was found is a match -/
def mVal (s n : Nat) (I : Nat → Nat → Int32) : Prop := ∃ b : Nat → Nat, I 46 1 = nI (b 0) ∧ b 0 ≤ s ∧ ∀ k, k < n → ∃ p, p ≤ 2 ∧ I 46 (2 + k) = nI (2 * p + 1) ∧ b (k + 1) = b k + (2 * p + 1) ∧ b (k + 1) ≤ s
def mFo (s n : Nat) (I : Nat → Nat → Int32) : Prop := (mVal s n I ∧ 0 < n) ∨ (I 46 0 < 0 ∧ I 34 20 = 0)
section LV
variable {I J K : Nat → Nat → Int32} {s n j : Nat}
theorem mLv.of (h : mLv s j I) (h1 : ∀ k, k ≤ j → J 44 k = I 44 k) (h2 : ∀ k, k < j → J 45 k = I 45 k) : mLv s j J := by
  obtain ⟨g, b, hb, e⟩ := h
  refine ⟨fun k hk => ?_, b, hb, (h1 j (Nat.le_refl j)).trans e⟩
  obtain ⟨b, p, a1, a2, a3, a4, a5⟩ := g k hk
  exact ⟨b, p, a1, a2, (h1 k (by omega)).trans a3, (h2 k hk).trans a4, (h1 (k + 1) (by omega)).trans a5⟩
theorem mVal.of (h : mVal s n I) (hn : n ≤ 8) (h1 : ∀ j, j < 10 → J 46 j = I 46 j) : mVal s n J := by
  obtain ⟨b, e1, e2, e3⟩ := h
  refine ⟨b, (h1 1 (by omega)).trans e1, e2, fun k hk => ?_⟩
  obtain ⟨p, a1, a2, a3⟩ := e3 k hk
  exact ⟨p, a1, (h1 (2 + k) (by omega)).trans a2, a3⟩
theorem mFo.of (h : mFo s n I) (h1 : J 46 = I 46) (h2 : J 34 20 = I 34 20) : mFo s n J := by
  unfold mFo mVal at *
  rw [h1, h2]
  exact h
theorem mFo.nn (h : mFo s n I) (h0 : ¬ I 46 0 < 0) : mVal s n I ∧ 0 < n := by
  rcases h with h | h
  · exact h
  · exact absurd h.1 h0
/-- a whole path is a match -/
theorem mVal.path {p b : Nat} (h : mLv s j I) (hb : I 44 j = nI b) (hs : b + (2 * p + 1) ≤ s) (hp : p ≤ 2) (hs16 : s ≤ 16) (e : I 45 j = nI p) (h1 : K 46 1 = I 44 0) (h2 : ∀ k, k < j + 1 → K 46 (2 + k) = 2 * I 45 k + 1) : mVal s (j + 1) K := by
  have e2 : ∀ q : Nat, (2 : Int32) * nI q + 1 = nI (2 * q + 1) := fun q => by
    rw [← nI_1]
    congr 1
    exact (Int32.ofNat_mul 2 q).symm
  have hcl : ∀ (x : Nat), x ≤ 16 → (nI x).toNatClampNeg = x := fun x hx => nI_clamp (by omega)
  refine ⟨fun k => if k ≤ j then (I 44 k).toNatClampNeg else b + (2 * p + 1), ?_, ?_, fun k hk => ?_⟩
  · show K 46 1 = nI (if 0 ≤ j then _ else _)
    rw [if_pos (Nat.zero_le j), h1]
    rcases Nat.eq_zero_or_pos j with z | z
    · subst z
      rw [hb, hcl b (by omega)]
    · obtain ⟨b', p', a1, a2, a3, a4, a5⟩ := h.1 0 z
      rw [a3, hcl b' (by omega)]
  · show (if 0 ≤ j then _ else _) ≤ s
    rw [if_pos (Nat.zero_le j)]
    rcases Nat.eq_zero_or_pos j with z | z
    · subst z
      rw [hb, hcl b (by omega)]
      omega
    · obtain ⟨b', p', a1, a2, a3, a4, a5⟩ := h.1 0 z
      rw [a3, hcl b' (by omega)]
      omega
  · show ∃ p_1, p_1 ≤ 2 ∧ _ ∧ (if k + 1 ≤ j then _ else _) = (if k ≤ j then _ else _) + _ ∧ (if k + 1 ≤ j then _ else _) ≤ s
    rcases Nat.lt_or_ge k j with z | z
    · obtain ⟨b', p', a1, a2, a3, a4, a5⟩ := h.1 k z
      refine ⟨p', a1, by rw [h2 k hk, a4, e2], ?_, ?_⟩
      · rw [if_pos (by omega), if_pos (by omega), a3, a5, hcl b' (by omega), hcl (b' + (2 * p' + 1)) (by omega)]
      · rw [if_pos (by omega), a5, hcl (b' + (2 * p' + 1)) (by omega)]
        exact a2
    · have ek : k = j := by omega
      subst ek
      refine ⟨p, hp, by rw [h2 k hk, e, e2], ?_, ?_⟩
      · rw [if_neg (by omega), if_pos (by omega), hb, hcl b (by omega)]
      · rw [if_neg (by omega)]
        exact hs
theorem nI_pm (p : Nat) : nI p - 1 + 1 = nI p := Int32.sub_add_cancel _ _
theorem nI_sp (p : Nat) : nI (p + 1) - 1 = nI p := nI_pred p
theorem nI_m1 (p : Nat) : nI p + (-1) = nI p - 1 := (Int32.sub_eq_add_neg _ _).symm
end LV
/-- one turn -/
theorem t_goes {ro : Nat → Nat × (Nat → Int32)} {Q : mPo} {d : Nat} {L : Nat → Nat → Int64} {s n t : Nat} {f kd fr : Int32} {I0 : Nat → Nat → Int32} (hm : mM s n t I0) {j p : Nat} (hj : j < n) (hp : p ≤ 3) {I : Nat → Nat → Int32} {o5 o6 : Option Value} (hg : mGr I0 I) (hv : mLv s j I) (h45 : I 45 j = nI p - 1) (hf : mFo s n I)
  (hx : p = 3 → ∀ I1, mGr I0 I1 → (∀ k, k ≤ j → I1 44 k = I 44 k) → (∀ k, k < j → I1 45 k = I 45 k) → mFo s n I1 → mWP mTb_ mFT ro (d + 2, 129, 24, [some (.ref 34), some (.int f), some (.int kd), some (.int fr), some (.int (nI j - 1)), o5, o6], [], 0, 0, (mSH, I1, L)) Q)
  (ha : p ≤ 2 → ∀ I1 o5 o6, mGr I0 I1 → I1 45 j = nI p → (∀ k, k ≤ j → I1 44 k = I 44 k) → (∀ k, k < j → I1 45 k = I 45 k) → mFo s n I1 → mWP mTb_ mFT ro (d + 2, 129, 24, [some (.ref 34), some (.int f), some (.int kd), some (.int fr), some (.int (nI j)), o5, o6], [], 0, 0, (mSH, I1, L)) Q)
  (hc : p ≤ 2 → j + 1 < n → ∀ I1 o5 o6, mGr I0 I1 → mLv s (j + 1) I1 → I1 45 (j + 1) = nI 0 - 1 → I1 45 j = nI p → (∀ k, k ≤ j → I1 44 k = I 44 k) → (∀ k, k < j → I1 45 k = I 45 k) → mFo s n I1 → mWP mTb_ mFT ro (d + 2, 129, 24, [some (.ref 34), some (.int f), some (.int kd), some (.int fr), some (.int (nI (j + 1))), o5, o6], [], 0, 0, (mSH, I1, L)) Q) : mWP mTb_ mFT ro (d + 2, 129, 24, [some (.ref 34), some (.int f), some (.int kd), some (.int fr), some (.int (nI j)), o5, o6], [], 0, 0, (mSH, I, L)) Q := by
  have h8 := hm.2.1.2
  have h16 := hm.1.2
  have hj9 : vp_in (nI j) 9 := vp_in_nI (by omega) (by omega)
  have cj : (nI j).toNatClampNeg = j := nI_clamp (by omega)
  have cj1 : (nI j + 1).toNatClampNeg = j + 1 := by rw [nI_1, nI_clamp (by omega)]
  have hj1 : j + 1 < 9 → vp_in (nI j + 1) 9 := fun z => by rw [nI_1]; exact vp_in_nI z (by omega)
  have le2 : nI p ≤ 2 ↔ p ≤ 2 := nI_leI (a := p) (b := 2) (by omega) (by omega)
  obtain ⟨hv1, b, hbs, hb⟩ := id hv
  refine s_go1 (fun z => absurd z (nI_pos (by omega))) (fun _ => hj9) (fun _ => hj9) (fun _ => hj9) (fun _ _ => hj9) (fun _ _ => hj9) (fun _ z => ?_) (fun _ z => ?_)
  · rw [cj, mUp_same, h45, nI_pm] at z
    have hp2 : p ≤ 2 := le2.mp z
    have e2 : (2 : Int32) * nI p + 1 = nI (2 * p + 1) := by
      rw [← nI_1]
      congr 1
      exact (Int32.ofNat_mul 2 p).symm
    rw [cj, mUp_same, h45, nI_pm, hb, e2]
    have gJ : mGr I0 (mUp I 45 j (nI p)) := mGr.up (by rfl) hg
    have lJ : mLv s j (mUp I 45 j (nI p)) := hv.of (fun k _ => rfl) (fun k hk => mUp_oth (by omega))
    have eJ : (mUp I 45 j (nI p)) 45 j = nI p := mUp_same
    have bJ : (mUp I 45 j (nI p)) 44 j = nI b := hb
    have sJ : ∀ k, k < j → (mUp I 45 j (nI p)) 45 k = I 45 k := fun k hk => mUp_oth (by omega)
    have tJ : ∀ k, k ≤ j → (mUp I 45 j (nI p)) 44 k = I 44 k := fun k hk => rfl
    have fJ : mFo s n (mUp I 45 j (nI p)) := hf.of rfl rfl
    generalize mUp I 45 j (nI p) = J at gJ lJ eJ bJ sJ tJ fJ ⊢
    have mJ := gJ.m hm
    refine mCall (s2 := (d + 1, 125, 0, [some (.ref 34), some (.int (nI j)), some (.int (nI b)), some (.int (nI (2 * p + 1))), some (.int kd), some (.int fr), none, none, none, none, none, none, none, none, none], [], 0, 0, (mSH, J, L))) rfl ?_
    refine w_mis mJ (by omega) (by omega) (by omega) (fun r hr => ?_)
    show mWP mTb_ mFT ro (d + 2, 129, 87, [some (.ref 34), some (.int f), some (.int kd), some (.int fr), some (.int (nI j)), some (.int (nI (2 * p + 1))), o6], [.int r], 0, 0, (mSH, J, L)) _
    refine s_go2 h8 mJ.2.1.1 (fun _ => ha hp2 J _ _ gJ eJ tJ sJ fJ) (fun _ _ => hj9) (fun hr0 hl K g1 g2 g3 _ g5 => ?_) (fun _ _ => hj9) (fun _ hl => hj1 (by omega)) (fun _ _ => hj9) (fun _ hl => hj1 (by omega)) (fun _ hl => hj1 (by omega)) (fun hr0 hl => ?_)
    · have hjn : j + 1 = n := by
        rw [nI_1, mJ.2.1.1, nI_eq (by omega) (by omega)] at hl
        exact hl
      refine ha hp2 K _ _ (gJ.tr g1) (by rw [g3]; exact eJ) (fun k hk => by rw [g2]; exact tJ k hk) (fun k hk => by rw [g3]; exact sJ k hk) ?_
      rcases g5 with ⟨q1, q2⟩ | ⟨q1, q2⟩
      · refine Or.inl ⟨?_, by omega⟩
        subst hjn
        exact mVal.path lJ bJ (hr hr0) hp2 h16 eJ q1 q2
      · have z := fJ.nn q1
        exact Or.inl ⟨z.1.of h8 q2, z.2⟩
    · have hjn : j + 1 < n := by
        rw [nI_1, mJ.2.1.1, nI_eq (by omega) (by omega)] at hl
        omega
      rw [cj, cj1, bJ, nI_add]
      rw [nI_1]
      refine hc hp2 hjn _ _ _ (mGr.up (by rfl) (mGr.up (by rfl) (mGr.up (by rfl) gJ))) ?_ mUp_same ?_ ?_ ?_ (fJ.of rfl rfl)
      · refine ⟨fun k hk => ?_, b + (2 * p + 1), hr hr0, ?_⟩
        · rcases Nat.lt_or_ge k j with z | z
          · obtain ⟨b', p', a1, a2, a3, a4, a5⟩ := lJ.1 k z
            refine ⟨b', p', a1, a2, ?_, ?_, ?_⟩
            · rw [mUp_row (by omega), mUp_oth (by omega), mUp_row (by omega)]; exact a3
            · rw [mUp_oth (by omega), mUp_row (by omega), mUp_row (by omega)]; exact a4
            · rw [mUp_row (by omega), mUp_oth (by omega), mUp_row (by omega)]; exact a5
          · have ek : k = j := by omega
            subst ek
            refine ⟨b, p, hp2, hr hr0, ?_, ?_, ?_⟩
            · rw [mUp_row (by omega), mUp_oth (by omega), mUp_row (by omega)]; exact bJ
            · rw [mUp_oth (by omega), mUp_row (by omega), mUp_row (by omega)]; exact eJ
            · rw [mUp_row (by omega), mUp_same]
        · rw [mUp_row (by omega), mUp_same]
      · rw [mUp_oth (by omega), mUp_row (by omega), mUp_row (by omega)]; exact eJ
      · intro k hk
        rw [mUp_row (by omega), mUp_oth (by omega), mUp_row (by omega)]; exact tJ k hk
      · intro k hk
        rw [mUp_oth (by omega), mUp_row (by omega), mUp_row (by omega)]; exact sJ k hk
  · rw [cj, mUp_same, h45, nI_pm] at z
    rw [cj, h45, nI_pm, nI_m1]
    exact hx (by have := mt le2.mpr z; omega) _ (mGr.up (by rfl) hg) (fun k hk => rfl) (fun k hk => mUp_oth (by omega)) (hf.of rfl rfl)
theorem l_goes {ro : Nat → Nat × (Nat → Int32)} {Q : mPo} {d : Nat} {L : Nat → Nat → Int64} {s n t : Nat} {f kd fr : Int32} {I0 : Nat → Nat → Int32} (hm : mM s n t I0) : ∀ (e j : Nat), j + e + 1 = n → ∀ (g p : Nat), p + g = 3 → ∀ (I : Nat → Nat → Int32) (o5 o6 : Option Value), mGr I0 I → mLv s j I → I 45 j = nI p - 1 → mFo s n I → (∀ I1 o5 o6, mGr I0 I1 → (∀ k, k ≤ j → I1 44 k = I 44 k) → (∀ k, k < j → I1 45 k = I 45 k) → mFo s n I1 → mWP mTb_ mFT ro (d + 2, 129, 24, [some (.ref 34), some (.int f), some (.int kd), some (.int fr), some (.int (nI j - 1)), o5, o6], [], 0, 0, (mSH, I1, L)) Q) → mWP mTb_ mFT ro (d + 2, 129, 24, [some (.ref 34), some (.int f), some (.int kd), some (.int fr), some (.int (nI j)), o5, o6], [], 0, 0, (mSH, I, L)) Q := by
  intro e
  induction e with
  | zero =>
    intro j hj g
    induction g with
    | zero => exact fun p hp I o5 o6 hg hv h45 hf hq => t_goes hm (by omega) (by omega) hg hv h45 hf (fun _ I1 g1 g2 g3 g4 => hq I1 _ _ g1 g2 g3 g4) (fun z => by omega) (fun z => by omega)
    | succ g ihg => exact fun p hp I o5 o6 hg hv h45 hf hq => t_goes hm (by omega) (by omega) hg hv h45 hf (fun _ I1 g1 g2 g3 g4 => hq I1 _ _ g1 g2 g3 g4) (fun z I1 o5 o6 g1 g5 g2 g3 g4 => ihg (p + 1) (by omega) I1 _ _ g1 (hv.of g2 g3) (by rw [g5, nI_sp]) g4 (fun I2 o5 o6 k1 k2 k3 k4 => hq I2 _ _ k1 (fun k hk => (k2 k hk).trans (g2 k hk)) (fun k hk => (k3 k hk).trans (g3 k hk)) k4)) (fun _ z => by omega)
  | succ e ihe =>
    intro j hj g
    induction g with
    | zero => exact fun p hp I o5 o6 hg hv h45 hf hq => t_goes hm (by omega) (by omega) hg hv h45 hf (fun _ I1 g1 g2 g3 g4 => hq I1 _ _ g1 g2 g3 g4) (fun z => by omega) (fun z => by omega)
    | succ g ihg =>
      intro p hp I o5 o6 hg hv h45 hf hq
      have nx : ∀ I1 o5 o6, mGr I0 I1 → I1 45 j = nI p → (∀ k, k ≤ j → I1 44 k = I 44 k) → (∀ k, k < j → I1 45 k = I 45 k) → mFo s n I1 → mWP mTb_ mFT ro (d + 2, 129, 24, [some (.ref 34), some (.int f), some (.int kd), some (.int fr), some (.int (nI j)), o5, o6], [], 0, 0, (mSH, I1, L)) Q := fun I1 o5 o6 g1 g5 g2 g3 g4 => ihg (p + 1) (by omega) I1 _ _ g1 (hv.of g2 g3) (by rw [g5, nI_sp]) g4 (fun I2 o5 o6 k1 k2 k3 k4 => hq I2 _ _ k1 (fun k hk => (k2 k hk).trans (g2 k hk)) (fun k hk => (k3 k hk).trans (g3 k hk)) k4)
      refine t_goes hm (by omega) (by omega) hg hv h45 hf (fun _ I1 g1 g2 g3 g4 => hq I1 _ _ g1 g2 g3 g4) (fun z I1 o5 o6 g1 g5 g2 g3 g4 => nx I1 _ _ g1 g5 g2 g3 g4) (fun z hjn I1 o5 o6 g1 g6 g7 g5 g2 g3 g4 => ?_)
      refine ihe (j + 1) (by omega) 3 0 rfl I1 _ _ g1 g6 g7 g4 (fun I2 o5 o6 k1 k2 k3 k4 => ?_)
      rw [nI_sp]
      exact nx I2 _ _ k1 (by rw [k3 j (by omega)]; exact g5) (fun k hk => (k2 k (by omega)).trans (g2 k hk)) (fun k hk => (k3 k (by omega)).trans (g3 k hk)) k4
theorem s_go0 {ro : Nat → Nat × (Nat → Int32)} {Q : mPo} {d : Nat} {I : Nat → Nat → Int32} {L : Nat → Nat → Int64} {f kd fr : Int32}  (h1 : mWP mTb_ mFT ro (d + 2, 129, 24, [some (.ref 34), some (.int f), some (.int kd), some (.int fr), some (.int 0), none, none], [], 0, 0, (mSH, (mUp (mUp (mUp I 44 0 f) 45 0 (-1)) 47 0 0), L)) Q) : mWP mTb_ mFT ro (d + 2, 129, 0, [some (.ref 34), some (.int f), some (.int kd), some (.int fr), none, none, none], [], 0, 0, (mSH, I, L)) Q := by
  refine mB 6 (s2 := (d + 2, 129, 9, [some (.ref 34), some (.int f), some (.int kd), some (.int fr), some (.int 0), none, none], [.int f, .int 0, .ref 44], 0, 0, (mSH, I, L))) rfl ?_
  refine mRq (s2 := (d + 2, 129, 10, [some (.ref 34), some (.int f), some (.int kd), some (.int fr), some (.int 0), none, none], [], 0, 0, (mSH, (mUp I 44 0 f), L))) rfl (by decide) ?_
  refine mB 4 (s2 := (d + 2, 129, 16, [some (.ref 34), some (.int f), some (.int kd), some (.int fr), some (.int 0), none, none], [.int (-1), .int 0, .ref 45], 0, 0, (mSH, (mUp I 44 0 f), L))) rfl ?_
  refine mRq (s2 := (d + 2, 129, 17, [some (.ref 34), some (.int f), some (.int kd), some (.int fr), some (.int 0), none, none], [], 0, 0, (mSH, (mUp (mUp I 44 0 f) 45 0 (-1)), L))) rfl (by decide) ?_
  refine mB 4 (s2 := (d + 2, 129, 23, [some (.ref 34), some (.int f), some (.int kd), some (.int fr), some (.int 0), none, none], [.int 0, .int 0, .ref 47], 0, 0, (mSH, (mUp (mUp I 44 0 f) 45 0 (-1)), L))) rfl ?_
  refine mRq (s2 := (d + 2, 129, 24, [some (.ref 34), some (.int f), some (.int kd), some (.int fr), some (.int 0), none, none], [], 0, 0, (mSH, (mUp (mUp (mUp I 44 0 f) 45 0 (-1)) 47 0 0), L))) rfl (by decide) ?_
  exact h1
theorem s_go9 {ro : Nat → Nat × (Nat → Int32)} {Q : mPo} {d : Nat} {I : Nat → Nat → Int32} {L : Nat → Nat → Int64} {f kd fr x0 : Int32} {o5 o6 : Option Value} (hneg : x0 < 0)  (h1 : (x0 < 0) → Q none (mSH, I, L)) (h2 : ¬ (x0 < 0) → mWP mTb_ mFT ro (d + 2, 129, 29, [some (.ref 34), some (.int f), some (.int kd), some (.int fr), some (.int x0), o5, o6], [], 0, 0, (mSH, I, L)) Q) : mWP mTb_ mFT ro (d + 2, 129, 24, [some (.ref 34), some (.int f), some (.int kd), some (.int fr), some (.int x0), o5, o6], [], 0, 0, (mSH, I, L)) Q := by
  refine mB 1 (s2 := (d + 2, 129, 26, [some (.ref 34), some (.int f), some (.int kd), some (.int fr), some (.int x0), o5, o6], [.int x0], 0, 0, (mSH, I, L))) rfl ?_
  refine mBr (s2 := (d + 2, 129, 181, [some (.ref 34), some (.int f), some (.int kd), some (.int fr), some (.int x0), o5, o6], [], 0, 0, (mSH, I, L))) (s3 := (d + 2, 129, 29, [some (.ref 34), some (.int f), some (.int kd), some (.int fr), some (.int x0), o5, o6], [], 0, 0, (mSH, I, L))) rfl (fun c0 => ?_) (fun c0 => ?_)
  · refine mRt (r := none) (h := (mSH, I, L)) rfl rfl ?_
    exact h1 (of_decide_eq_true c0)
  · exact h2 (of_decide_eq_false c0)
/-- goes: nothing else changes, and what was found stays a match -/
theorem w_goes {ro : Nat → Nat × (Nat → Int32)} {Q : mPo} {d : Nat} {I : Nat → Nat → Int32} {L : Nat → Nat → Int64} {s n t : Nat} {i : Nat} {kd fr : Int32} (hm : mM s n t I) (hi : i ≤ s) (hn : 0 < n) (hf : mFo s n I) (hq : ∀ I1, mGr I I1 → mFo s n I1 → Q none (mSH, I1, L)) : mWP mTb_ mFT ro (d + 2, 129, 0, [some (.ref 34), some (.int (nI i)), some (.int kd), some (.int fr), none, none, none], [], 0, 0, (mSH, I, L)) Q := by
  refine s_go0 ?_
  refine l_goes hm (n - 1) 0 (by omega) 3 0 rfl _ _ _ (mGr.up (by rfl) (mGr.up (by rfl) (mGr.up (by rfl) mGr.rf))) ⟨fun k hk => by omega, i, hi, rfl⟩ rfl (hf.of rfl rfl) (fun I1 o5 o6 g1 _ _ g4 => ?_)
  exact s_go9 (by decide) (fun _ => hq I1 g1 g4) (fun z => absurd (by decide) z)
