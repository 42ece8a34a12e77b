theorem p1_span {ro : Nat → Nat × (Nat → Int32)} {Q : mPo} {I : Nat → Nat → Int32} {L : Nat → Nat → Int64} (hF : mFF I L) (hR : mRO ro) (h1 : (((ro 0).2 1) < 1) → mWP mTb_ mFT ro (11, 163, 808, [some (.ref 1000), some (.ref 0), some (.ref 34), some (.int 0)], [], 62, 3336, (mSH, (mUp (mUp I 0 9 ((I 0 9) + 1)) 39 0 ((I 39 0) + 1)), L)) Q) (h2 : ¬ (((ro 0).2 1) < 1) → ((99 : Int32) < ((ro 0).2 1)) → mWP mTb_ mFT ro (11, 163, 808, [some (.ref 1000), some (.ref 0), some (.ref 34), some (.int 0)], [], 62, 3336, (mSH, (mUp (mUp I 0 9 ((I 0 9) + 1)) 39 0 ((I 39 0) + 1)), L)) Q) (h3 : ¬ (((ro 0).2 1) < 1) → ¬ ((99 : Int32) < ((ro 0).2 1)) → mWP mTb_ mFT ro (11, 163, 808, [some (.ref 1000), some (.ref 0), some (.ref 34), some (.int 0)], [], 62, 3336, (mSH, (mUp (mUp (mUp (mUp I 3 ((I 2 1).toNatClampNeg) ((ro 0).2 1)) 2 1 ((I 2 1) + 1)) 35 ((I 34 1).toNatClampNeg) ((ro 0).2 1)) 34 1 ((I 34 1) + 1)), L)) Q) : mWP mTb_ mFT ro (11, 163, 156, [some (.ref 1000), some (.ref 0), some (.ref 34), some (.int 0)], [], 62, 3336, (mSH, I, L)) Q := by
  obtain ⟨f0_9, f0_10, f0_11, f1_2, f2_1, f4_1, f6_0, f6_1, f6_2, f6_3, f7_0, f7_1, f7_2, f7_3, f9_0, f9_1, f9_2, f25_0, f25_1, f26_1, f30_1, f32_1, f34_1, f34_3, f34_4, f34_11, f37_0, f37_1, f37_2, f37_3, f38_0, f38_1, f38_2, f39_0, f39_1, f39_2, f41_0, f41_1, f41_2, f41_3, f41_4, f41_5, g34_7, g34_8⟩ := hF
  obtain ⟨hro0, hro1, hro1_0, hro1_1, hro1_2, hro2, hro2_0, hro2_1, hro2_2, hro13⟩ := hR
  refine mB 5 (s2 := (11, 163, 161, [some (.ref 1000), some (.ref 0), some (.ref 34), some (.int 0)], [.int 1, .ref 1000, .ref 0], 62, 3336, (mSH, I, L))) rfl ?_
  refine mRq (s2 := (11, 163, 162, [some (.ref 1000), some (.ref 0), some (.ref 34), some (.int 0)], [.int ((ro 0).2 1), .ref 0], 62, 3336, (mSH, I, L))) rfl (by first | (simp only [f0_9, f0_10, f0_11, f1_2, f2_1, f4_1, f6_0, f6_1, f6_2, f6_3, f7_0, f7_1, f7_2, f7_3, f9_0, f9_1, f9_2, f25_0, f25_1, f26_1, f30_1, f32_1, f34_1, f34_3, f34_4, f34_11, f37_0, f37_1, f37_2, f37_3, f38_0, f38_1, f38_2, f39_0, f39_1, f39_2, f41_0, f41_1, f41_2, f41_3, f41_4, f41_5, g34_7, g34_8, hro0, hro1, hro1_0, hro1_1, hro1_2, hro2, hro2_0, hro2_1, hro2_2, hro13, mTn0, mTn1, mTn2, mTn10]; first | decide | rfl) | decide | rfl) ?_
  refine mCall (s2 := (10, 76, 0, [some (.ref 0), some (.int ((ro 0).2 1))], [], 0, 0, (mSH, I, L))) rfl ?_
  refine mB 5 (s2 := (10, 76, 9, [some (.ref 0), some (.int ((ro 0).2 1))], [.int ((ro 0).2 1), .ref 2, .ref 0], 0, 0, (mSH, I, L))) rfl ?_
  refine mCall (s2 := (9, 104, 0, [some (.ref 0), some (.ref 2), some (.int ((ro 0).2 1))], [], 0, 0, (mSH, I, L))) rfl ?_
  refine mB 1 (s2 := (9, 104, 1, [some (.ref 0), some (.ref 2), some (.int ((ro 0).2 1))], [.int ((ro 0).2 1)], 0, 0, (mSH, I, L))) rfl ?_
  refine mCall (s2 := (8, 109, 0, [some (.int ((ro 0).2 1))], [], 0, 0, (mSH, I, L))) rfl ?_
  refine mB 2 (s2 := (8, 109, 2, [some (.int ((ro 0).2 1))], [.int 1, .int ((ro 0).2 1)], 0, 0, (mSH, I, L))) rfl ?_
  refine mBr (s2 := (8, 109, 15, [some (.int ((ro 0).2 1))], [], 0, 0, (mSH, I, L))) (s3 := (8, 109, 5, [some (.int ((ro 0).2 1))], [], 0, 0, (mSH, I, L))) rfl (fun c0 => ?_) (fun c0 => ?_)
  · refine mB 1 (s2 := (8, 109, 16, [some (.int ((ro 0).2 1))], [.int 0], 0, 0, (mSH, I, L))) rfl ?_
    refine mRt (r := (some (.int 0))) (h := (mSH, I, L)) rfl rfl ?_
    show mWP mTb_ mFT ro (9, 104, 4, [some (.ref 0), some (.ref 2), some (.int ((ro 0).2 1))], [.int 0], 0, 0, (mSH, I, L)) _
    refine mBT (s2 := (9, 104, 7, [some (.ref 0), some (.ref 2), some (.int ((ro 0).2 1))], [], 0, 0, (mSH, I, L))) rfl (by decide) ?_
    refine mB 2 (s2 := (9, 104, 10, [some (.ref 0), some (.ref 2), some (.int ((ro 0).2 1))], [.int (-2), .ref 0], 0, 0, (mSH, I, L))) rfl ?_
    refine mCall (s2 := (8, 103, 0, [some (.ref 0), some (.int (-2))], [], 0, 0, (mSH, I, L))) rfl ?_
    refine mB 2 (s2 := (8, 103, 3, [some (.ref 0), some (.int (-2))], [.int (-2), .int (-2)], 0, 0, (mSH, I, L))) rfl ?_
    refine mBT (s2 := (8, 103, 6, [some (.ref 0), some (.int (-2))], [], 0, 0, (mSH, I, L))) rfl (by decide) ?_
    refine mB 8 (s2 := (8, 103, 49, [some (.ref 0), some (.int (-2))], [.int (-2)], 0, 0, (mSH, (mUp I 0 9 ((I 0 9) + 1)), L))) rfl ?_
    refine mRt (r := (some (.int (-2)))) (h := (mSH, (mUp I 0 9 ((I 0 9) + 1)), L)) rfl (mRet_int rfl) ?_
    show mWP mTb_ mFT ro (9, 104, 13, [some (.ref 0), some (.ref 2), some (.int ((ro 0).2 1))], [.int (-2)], 0, 0, (mSH, (mUp I 0 9 ((I 0 9) + 1)), L)) _
    refine mRt (r := (some (.int (-2)))) (h := (mSH, (mUp I 0 9 ((I 0 9) + 1)), L)) rfl (mRet_int rfl) ?_
    show mWP mTb_ mFT ro (10, 76, 12, [some (.ref 0), some (.int ((ro 0).2 1))], [.int (-2)], 0, 0, (mSH, (mUp I 0 9 ((I 0 9) + 1)), L)) _
    refine mRt (r := (some (.int (-2)))) (h := (mSH, (mUp I 0 9 ((I 0 9) + 1)), L)) rfl (mRet_int rfl) ?_
    show mWP mTb_ mFT ro (11, 163, 165, [some (.ref 1000), some (.ref 0), some (.ref 34), some (.int 0)], [.int (-2)], 62, 3336, (mSH, (mUp I 0 9 ((I 0 9) + 1)), L)) _
    refine mB 5 (s2 := (11, 163, 170, [some (.ref 1000), some (.ref 0), some (.ref 34), some (.int 0)], [.int 1, .ref 1000, .ref 34, .int (-2)], 62, 3336, (mSH, (mUp I 0 9 ((I 0 9) + 1)), L))) rfl ?_
    refine mRq (s2 := (11, 163, 171, [some (.ref 1000), some (.ref 0), some (.ref 34), some (.int 0)], [.int ((ro 0).2 1), .ref 34, .int (-2)], 62, 3336, (mSH, (mUp I 0 9 ((I 0 9) + 1)), L))) rfl (by first | (simp only [f0_9, f0_10, f0_11, f1_2, f2_1, f4_1, f6_0, f6_1, f6_2, f6_3, f7_0, f7_1, f7_2, f7_3, f9_0, f9_1, f9_2, f25_0, f25_1, f26_1, f30_1, f32_1, f34_1, f34_3, f34_4, f34_11, f37_0, f37_1, f37_2, f37_3, f38_0, f38_1, f38_2, f39_0, f39_1, f39_2, f41_0, f41_1, f41_2, f41_3, f41_4, f41_5, g34_7, g34_8, hro0, hro1, hro1_0, hro1_1, hro1_2, hro2, hro2_0, hro2_1, hro2_2, hro13, mTn0, mTn1, mTn2, mTn10]; first | decide | rfl) | decide | rfl) ?_
    refine mCall (s2 := (10, 116, 0, [some (.ref 34), some (.int ((ro 0).2 1))], [], 0, 0, (mSH, (mUp I 0 9 ((I 0 9) + 1)), L))) rfl ?_
    refine mB 3 (s2 := (10, 116, 4, [some (.ref 34), some (.int ((ro 0).2 1))], [.int 99, .int 1, .int ((ro 0).2 1)], 0, 0, (mSH, (mUp I 0 9 ((I 0 9) + 1)), L))) rfl ?_
    refine mCall (s2 := (9, 112, 0, [some (.int ((ro 0).2 1)), some (.int 1), some (.int 99)], [], 0, 0, (mSH, (mUp I 0 9 ((I 0 9) + 1)), L))) rfl ?_
    refine mB 2 (s2 := (9, 112, 2, [some (.int ((ro 0).2 1)), some (.int 1), some (.int 99)], [.int 1, .int ((ro 0).2 1)], 0, 0, (mSH, (mUp I 0 9 ((I 0 9) + 1)), L))) rfl ?_
    refine mBT (s2 := (9, 112, 14, [some (.int ((ro 0).2 1)), some (.int 1), some (.int 99)], [], 0, 0, (mSH, (mUp I 0 9 ((I 0 9) + 1)), L))) rfl (decide_eq_true (by
        have a0 := of_decide_eq_true c0
        simp only [f0_9, f0_10, f0_11, f1_2, f2_1, f4_1, f6_0, f6_1, f6_2, f6_3, f7_0, f7_1, f7_2, f7_3, f9_0, f9_1, f9_2, f25_0, f25_1, f26_1, f30_1, f32_1, f34_1, f34_3, f34_4, f34_11, f37_0, f37_1, f37_2, f37_3, f38_0, f38_1, f38_2, f39_0, f39_1, f39_2, f41_0, f41_1, f41_2, f41_3, f41_4, f41_5, g34_7, g34_8, hro0, hro1, hro1_0, hro1_1, hro1_2, hro2, hro2_0, hro2_1, hro2_2, hro13, mTn0, mTn1, mTn2, mTn10, Int32.lt_iff_toInt_lt, Int32.le_iff_toInt_le, ← Int32.toInt_inj, mLi0, mLi1, mLi2, mLi3, mLi4, mLi5, mLi6, mLi7, mLi8, mLi9, mLi16, mLi99, mLi120, mLi127, mLi1584, mLi999999, mLim] at a0 ⊢
        omega)) ?_
    refine mB 1 (s2 := (9, 112, 15, [some (.int ((ro 0).2 1)), some (.int 1), some (.int 99)], [.int 0], 0, 0, (mSH, (mUp I 0 9 ((I 0 9) + 1)), L))) rfl ?_
    refine mRt (r := (some (.int 0))) (h := (mSH, (mUp I 0 9 ((I 0 9) + 1)), L)) rfl rfl ?_
    show mWP mTb_ mFT ro (10, 116, 7, [some (.ref 34), some (.int ((ro 0).2 1))], [.int 0], 0, 0, (mSH, (mUp I 0 9 ((I 0 9) + 1)), L)) _
    refine mBT (s2 := (10, 116, 10, [some (.ref 34), some (.int ((ro 0).2 1))], [], 0, 0, (mSH, (mUp I 0 9 ((I 0 9) + 1)), L))) rfl (by decide) ?_
    refine mB 2 (s2 := (10, 116, 13, [some (.ref 34), some (.int ((ro 0).2 1))], [.int (-2), .ref 34], 0, 0, (mSH, (mUp I 0 9 ((I 0 9) + 1)), L))) rfl ?_
    refine mCall (s2 := (9, 113, 0, [some (.ref 34), some (.int (-2))], [], 0, 0, (mSH, (mUp I 0 9 ((I 0 9) + 1)), L))) rfl ?_
    refine mB 6 (s2 := (9, 113, 9, [some (.ref 34), some (.int (-2))], [.int 0, .ref 39, .int 0, .ref 39], 0, 0, (mSH, (mUp I 0 9 ((I 0 9) + 1)), L))) rfl ?_
    refine mRq (s2 := (9, 113, 10, [some (.ref 34), some (.int (-2))], [.int (I 39 0), .int 0, .ref 39], 0, 0, (mSH, (mUp I 0 9 ((I 0 9) + 1)), L))) rfl (by decide) ?_
    refine mB 2 (s2 := (9, 113, 12, [some (.ref 34), some (.int (-2))], [.int ((I 39 0) + 1), .int 0, .ref 39], 0, 0, (mSH, (mUp I 0 9 ((I 0 9) + 1)), L))) rfl ?_
    refine mRq (s2 := (9, 113, 13, [some (.ref 34), some (.int (-2))], [], 0, 0, (mSH, (mUp (mUp I 0 9 ((I 0 9) + 1)) 39 0 ((I 39 0) + 1)), L))) rfl (by decide) ?_
    refine mB 1 (s2 := (9, 113, 14, [some (.ref 34), some (.int (-2))], [.int (-2)], 0, 0, (mSH, (mUp (mUp I 0 9 ((I 0 9) + 1)) 39 0 ((I 39 0) + 1)), L))) rfl ?_
    refine mRt (r := (some (.int (-2)))) (h := (mSH, (mUp (mUp I 0 9 ((I 0 9) + 1)) 39 0 ((I 39 0) + 1)), L)) rfl (mRet_int rfl) ?_
    show mWP mTb_ mFT ro (10, 116, 16, [some (.ref 34), some (.int ((ro 0).2 1))], [.int (-2)], 0, 0, (mSH, (mUp (mUp I 0 9 ((I 0 9) + 1)) 39 0 ((I 39 0) + 1)), L)) _
    refine mRt (r := (some (.int (-2)))) (h := (mSH, (mUp (mUp I 0 9 ((I 0 9) + 1)) 39 0 ((I 39 0) + 1)), L)) rfl (mRet_int rfl) ?_
    show mWP mTb_ mFT ro (11, 163, 174, [some (.ref 1000), some (.ref 0), some (.ref 34), some (.int 0)], [.int (-2), .int (-2)], 62, 3336, (mSH, (mUp (mUp I 0 9 ((I 0 9) + 1)) 39 0 ((I 39 0) + 1)), L)) _
    refine mBT (s2 := (11, 163, 808, [some (.ref 1000), some (.ref 0), some (.ref 34), some (.int 0)], [], 62, 3336, (mSH, (mUp (mUp I 0 9 ((I 0 9) + 1)) 39 0 ((I 39 0) + 1)), L))) rfl (by decide) ?_
    exact h1 (of_decide_eq_true c0)
  · refine mB 2 (s2 := (8, 109, 8, [some (.int ((ro 0).2 1))], [.int 99, .int ((ro 0).2 1)], 0, 0, (mSH, I, L))) rfl ?_
    refine mBr (s2 := (8, 109, 15, [some (.int ((ro 0).2 1))], [], 0, 0, (mSH, I, L))) (s3 := (8, 109, 11, [some (.int ((ro 0).2 1))], [], 0, 0, (mSH, I, L))) rfl (fun c1 => ?_) (fun c1 => ?_)
    · refine mB 1 (s2 := (8, 109, 16, [some (.int ((ro 0).2 1))], [.int 0], 0, 0, (mSH, I, L))) rfl ?_
      refine mRt (r := (some (.int 0))) (h := (mSH, I, L)) rfl rfl ?_
      show mWP mTb_ mFT ro (9, 104, 4, [some (.ref 0), some (.ref 2), some (.int ((ro 0).2 1))], [.int 0], 0, 0, (mSH, I, L)) _
      refine mBT (s2 := (9, 104, 7, [some (.ref 0), some (.ref 2), some (.int ((ro 0).2 1))], [], 0, 0, (mSH, I, L))) rfl (by decide) ?_
      refine mB 2 (s2 := (9, 104, 10, [some (.ref 0), some (.ref 2), some (.int ((ro 0).2 1))], [.int (-2), .ref 0], 0, 0, (mSH, I, L))) rfl ?_
      refine mCall (s2 := (8, 103, 0, [some (.ref 0), some (.int (-2))], [], 0, 0, (mSH, I, L))) rfl ?_
      refine mB 2 (s2 := (8, 103, 3, [some (.ref 0), some (.int (-2))], [.int (-2), .int (-2)], 0, 0, (mSH, I, L))) rfl ?_
      refine mBT (s2 := (8, 103, 6, [some (.ref 0), some (.int (-2))], [], 0, 0, (mSH, I, L))) rfl (by decide) ?_
      refine mB 8 (s2 := (8, 103, 49, [some (.ref 0), some (.int (-2))], [.int (-2)], 0, 0, (mSH, (mUp I 0 9 ((I 0 9) + 1)), L))) rfl ?_
      refine mRt (r := (some (.int (-2)))) (h := (mSH, (mUp I 0 9 ((I 0 9) + 1)), L)) rfl (mRet_int rfl) ?_
      show mWP mTb_ mFT ro (9, 104, 13, [some (.ref 0), some (.ref 2), some (.int ((ro 0).2 1))], [.int (-2)], 0, 0, (mSH, (mUp I 0 9 ((I 0 9) + 1)), L)) _
      refine mRt (r := (some (.int (-2)))) (h := (mSH, (mUp I 0 9 ((I 0 9) + 1)), L)) rfl (mRet_int rfl) ?_
      show mWP mTb_ mFT ro (10, 76, 12, [some (.ref 0), some (.int ((ro 0).2 1))], [.int (-2)], 0, 0, (mSH, (mUp I 0 9 ((I 0 9) + 1)), L)) _
      refine mRt (r := (some (.int (-2)))) (h := (mSH, (mUp I 0 9 ((I 0 9) + 1)), L)) rfl (mRet_int rfl) ?_
      show mWP mTb_ mFT ro (11, 163, 165, [some (.ref 1000), some (.ref 0), some (.ref 34), some (.int 0)], [.int (-2)], 62, 3336, (mSH, (mUp I 0 9 ((I 0 9) + 1)), L)) _
      refine mB 5 (s2 := (11, 163, 170, [some (.ref 1000), some (.ref 0), some (.ref 34), some (.int 0)], [.int 1, .ref 1000, .ref 34, .int (-2)], 62, 3336, (mSH, (mUp I 0 9 ((I 0 9) + 1)), L))) rfl ?_
      refine mRq (s2 := (11, 163, 171, [some (.ref 1000), some (.ref 0), some (.ref 34), some (.int 0)], [.int ((ro 0).2 1), .ref 34, .int (-2)], 62, 3336, (mSH, (mUp I 0 9 ((I 0 9) + 1)), L))) rfl (by first | (simp only [f0_9, f0_10, f0_11, f1_2, f2_1, f4_1, f6_0, f6_1, f6_2, f6_3, f7_0, f7_1, f7_2, f7_3, f9_0, f9_1, f9_2, f25_0, f25_1, f26_1, f30_1, f32_1, f34_1, f34_3, f34_4, f34_11, f37_0, f37_1, f37_2, f37_3, f38_0, f38_1, f38_2, f39_0, f39_1, f39_2, f41_0, f41_1, f41_2, f41_3, f41_4, f41_5, g34_7, g34_8, hro0, hro1, hro1_0, hro1_1, hro1_2, hro2, hro2_0, hro2_1, hro2_2, hro13, mTn0, mTn1, mTn2, mTn10]; first | decide | rfl) | decide | rfl) ?_
      refine mCall (s2 := (10, 116, 0, [some (.ref 34), some (.int ((ro 0).2 1))], [], 0, 0, (mSH, (mUp I 0 9 ((I 0 9) + 1)), L))) rfl ?_
      refine mB 3 (s2 := (10, 116, 4, [some (.ref 34), some (.int ((ro 0).2 1))], [.int 99, .int 1, .int ((ro 0).2 1)], 0, 0, (mSH, (mUp I 0 9 ((I 0 9) + 1)), L))) rfl ?_
      refine mCall (s2 := (9, 112, 0, [some (.int ((ro 0).2 1)), some (.int 1), some (.int 99)], [], 0, 0, (mSH, (mUp I 0 9 ((I 0 9) + 1)), L))) rfl ?_
      refine mB 2 (s2 := (9, 112, 2, [some (.int ((ro 0).2 1)), some (.int 1), some (.int 99)], [.int 1, .int ((ro 0).2 1)], 0, 0, (mSH, (mUp I 0 9 ((I 0 9) + 1)), L))) rfl ?_
      refine mBF (s3 := (9, 112, 5, [some (.int ((ro 0).2 1)), some (.int 1), some (.int 99)], [], 0, 0, (mSH, (mUp I 0 9 ((I 0 9) + 1)), L))) rfl (decide_eq_false (by
        have a0 := of_decide_eq_false c0
        have a1 := of_decide_eq_true c1
        simp only [f0_9, f0_10, f0_11, f1_2, f2_1, f4_1, f6_0, f6_1, f6_2, f6_3, f7_0, f7_1, f7_2, f7_3, f9_0, f9_1, f9_2, f25_0, f25_1, f26_1, f30_1, f32_1, f34_1, f34_3, f34_4, f34_11, f37_0, f37_1, f37_2, f37_3, f38_0, f38_1, f38_2, f39_0, f39_1, f39_2, f41_0, f41_1, f41_2, f41_3, f41_4, f41_5, g34_7, g34_8, hro0, hro1, hro1_0, hro1_1, hro1_2, hro2, hro2_0, hro2_1, hro2_2, hro13, mTn0, mTn1, mTn2, mTn10, Int32.lt_iff_toInt_lt, Int32.le_iff_toInt_le, ← Int32.toInt_inj, mLi0, mLi1, mLi2, mLi3, mLi4, mLi5, mLi6, mLi7, mLi8, mLi9, mLi16, mLi99, mLi120, mLi127, mLi1584, mLi999999, mLim] at a0 a1 ⊢
        omega)) ?_
      refine mB 2 (s2 := (9, 112, 7, [some (.int ((ro 0).2 1)), some (.int 1), some (.int 99)], [.int 99, .int ((ro 0).2 1)], 0, 0, (mSH, (mUp I 0 9 ((I 0 9) + 1)), L))) rfl ?_
      refine mBT (s2 := (9, 112, 14, [some (.int ((ro 0).2 1)), some (.int 1), some (.int 99)], [], 0, 0, (mSH, (mUp I 0 9 ((I 0 9) + 1)), L))) rfl (decide_eq_true (by
        have a0 := of_decide_eq_false c0
        have a1 := of_decide_eq_true c1
        simp only [f0_9, f0_10, f0_11, f1_2, f2_1, f4_1, f6_0, f6_1, f6_2, f6_3, f7_0, f7_1, f7_2, f7_3, f9_0, f9_1, f9_2, f25_0, f25_1, f26_1, f30_1, f32_1, f34_1, f34_3, f34_4, f34_11, f37_0, f37_1, f37_2, f37_3, f38_0, f38_1, f38_2, f39_0, f39_1, f39_2, f41_0, f41_1, f41_2, f41_3, f41_4, f41_5, g34_7, g34_8, hro0, hro1, hro1_0, hro1_1, hro1_2, hro2, hro2_0, hro2_1, hro2_2, hro13, mTn0, mTn1, mTn2, mTn10, Int32.lt_iff_toInt_lt, Int32.le_iff_toInt_le, ← Int32.toInt_inj, mLi0, mLi1, mLi2, mLi3, mLi4, mLi5, mLi6, mLi7, mLi8, mLi9, mLi16, mLi99, mLi120, mLi127, mLi1584, mLi999999, mLim] at a0 a1 ⊢
        omega)) ?_
      refine mB 1 (s2 := (9, 112, 15, [some (.int ((ro 0).2 1)), some (.int 1), some (.int 99)], [.int 0], 0, 0, (mSH, (mUp I 0 9 ((I 0 9) + 1)), L))) rfl ?_
      refine mRt (r := (some (.int 0))) (h := (mSH, (mUp I 0 9 ((I 0 9) + 1)), L)) rfl rfl ?_
      show mWP mTb_ mFT ro (10, 116, 7, [some (.ref 34), some (.int ((ro 0).2 1))], [.int 0], 0, 0, (mSH, (mUp I 0 9 ((I 0 9) + 1)), L)) _
      refine mBT (s2 := (10, 116, 10, [some (.ref 34), some (.int ((ro 0).2 1))], [], 0, 0, (mSH, (mUp I 0 9 ((I 0 9) + 1)), L))) rfl (by decide) ?_
      refine mB 2 (s2 := (10, 116, 13, [some (.ref 34), some (.int ((ro 0).2 1))], [.int (-2), .ref 34], 0, 0, (mSH, (mUp I 0 9 ((I 0 9) + 1)), L))) rfl ?_
      refine mCall (s2 := (9, 113, 0, [some (.ref 34), some (.int (-2))], [], 0, 0, (mSH, (mUp I 0 9 ((I 0 9) + 1)), L))) rfl ?_
      refine mB 6 (s2 := (9, 113, 9, [some (.ref 34), some (.int (-2))], [.int 0, .ref 39, .int 0, .ref 39], 0, 0, (mSH, (mUp I 0 9 ((I 0 9) + 1)), L))) rfl ?_
      refine mRq (s2 := (9, 113, 10, [some (.ref 34), some (.int (-2))], [.int (I 39 0), .int 0, .ref 39], 0, 0, (mSH, (mUp I 0 9 ((I 0 9) + 1)), L))) rfl (by decide) ?_
      refine mB 2 (s2 := (9, 113, 12, [some (.ref 34), some (.int (-2))], [.int ((I 39 0) + 1), .int 0, .ref 39], 0, 0, (mSH, (mUp I 0 9 ((I 0 9) + 1)), L))) rfl ?_
      refine mRq (s2 := (9, 113, 13, [some (.ref 34), some (.int (-2))], [], 0, 0, (mSH, (mUp (mUp I 0 9 ((I 0 9) + 1)) 39 0 ((I 39 0) + 1)), L))) rfl (by decide) ?_
      refine mB 1 (s2 := (9, 113, 14, [some (.ref 34), some (.int (-2))], [.int (-2)], 0, 0, (mSH, (mUp (mUp I 0 9 ((I 0 9) + 1)) 39 0 ((I 39 0) + 1)), L))) rfl ?_
      refine mRt (r := (some (.int (-2)))) (h := (mSH, (mUp (mUp I 0 9 ((I 0 9) + 1)) 39 0 ((I 39 0) + 1)), L)) rfl (mRet_int rfl) ?_
      show mWP mTb_ mFT ro (10, 116, 16, [some (.ref 34), some (.int ((ro 0).2 1))], [.int (-2)], 0, 0, (mSH, (mUp (mUp I 0 9 ((I 0 9) + 1)) 39 0 ((I 39 0) + 1)), L)) _
      refine mRt (r := (some (.int (-2)))) (h := (mSH, (mUp (mUp I 0 9 ((I 0 9) + 1)) 39 0 ((I 39 0) + 1)), L)) rfl (mRet_int rfl) ?_
      show mWP mTb_ mFT ro (11, 163, 174, [some (.ref 1000), some (.ref 0), some (.ref 34), some (.int 0)], [.int (-2), .int (-2)], 62, 3336, (mSH, (mUp (mUp I 0 9 ((I 0 9) + 1)) 39 0 ((I 39 0) + 1)), L)) _
      refine mBT (s2 := (11, 163, 808, [some (.ref 1000), some (.ref 0), some (.ref 34), some (.int 0)], [], 62, 3336, (mSH, (mUp (mUp I 0 9 ((I 0 9) + 1)) 39 0 ((I 39 0) + 1)), L))) rfl (by decide) ?_
      exact h2 (of_decide_eq_false c0) (of_decide_eq_true c1)
    · refine mB 2 (s2 := (8, 109, 16, [some (.int ((ro 0).2 1))], [.int 1], 0, 0, (mSH, I, L))) rfl ?_
      refine mRt (r := (some (.int 1))) (h := (mSH, I, L)) rfl rfl ?_
      show mWP mTb_ mFT ro (9, 104, 4, [some (.ref 0), some (.ref 2), some (.int ((ro 0).2 1))], [.int 1], 0, 0, (mSH, I, L)) _
      refine mBF (s3 := (9, 104, 14, [some (.ref 0), some (.ref 2), some (.int ((ro 0).2 1))], [], 0, 0, (mSH, I, L))) rfl (by decide) ?_
      refine mB 1 (s2 := (9, 104, 15, [some (.ref 0), some (.ref 2), some (.int ((ro 0).2 1))], [.ref 2], 0, 0, (mSH, I, L))) rfl ?_
      refine mCall (s2 := (8, 40, 0, [some (.ref 2)], [], 0, 0, (mSH, I, L))) rfl ?_
      refine mB 5 (s2 := (8, 40, 9, [some (.ref 2)], [.int 16, .int (I 2 1)], 0, 0, (mSH, I, L))) rfl ?_
      refine mBT (s2 := (8, 40, 16, [some (.ref 2)], [], 0, 0, (mSH, I, L))) rfl (by first | (simp only [f0_9, f0_10, f0_11, f1_2, f2_1, f4_1, f6_0, f6_1, f6_2, f6_3, f7_0, f7_1, f7_2, f7_3, f9_0, f9_1, f9_2, f25_0, f25_1, f26_1, f30_1, f32_1, f34_1, f34_3, f34_4, f34_11, f37_0, f37_1, f37_2, f37_3, f38_0, f38_1, f38_2, f39_0, f39_1, f39_2, f41_0, f41_1, f41_2, f41_3, f41_4, f41_5, g34_7, g34_8, hro0, hro1, hro1_0, hro1_1, hro1_2, hro2, hro2_0, hro2_1, hro2_2, hro13, mTn0, mTn1, mTn2, mTn10]; first | decide | rfl) | decide | rfl) ?_
      refine mB 1 (s2 := (8, 40, 17, [some (.ref 2)], [.int 0], 0, 0, (mSH, I, L))) rfl ?_
      refine mRt (r := (some (.int 0))) (h := (mSH, I, L)) rfl rfl ?_
      show mWP mTb_ mFT ro (9, 104, 18, [some (.ref 0), some (.ref 2), some (.int ((ro 0).2 1))], [.int 0], 0, 0, (mSH, I, L)) _
      refine mBT (s2 := (9, 104, 28, [some (.ref 0), some (.ref 2), some (.int ((ro 0).2 1))], [], 0, 0, (mSH, I, L))) rfl (by decide) ?_
      refine mB 2 (s2 := (9, 104, 30, [some (.ref 0), some (.ref 2), some (.int ((ro 0).2 1))], [.int ((ro 0).2 1), .ref 2], 0, 0, (mSH, I, L))) rfl ?_
      refine mCall (s2 := (8, 44, 0, [some (.ref 2), some (.int ((ro 0).2 1))], [], 0, 0, (mSH, I, L))) rfl ?_
      refine mB 1 (s2 := (8, 44, 1, [some (.ref 2), some (.int ((ro 0).2 1))], [.ref 2], 0, 0, (mSH, I, L))) rfl ?_
      refine mCall (s2 := (7, 40, 0, [some (.ref 2)], [], 0, 0, (mSH, I, L))) rfl ?_
      refine mB 5 (s2 := (7, 40, 9, [some (.ref 2)], [.int 16, .int (I 2 1)], 0, 0, (mSH, I, L))) rfl ?_
      refine mBT (s2 := (7, 40, 16, [some (.ref 2)], [], 0, 0, (mSH, I, L))) rfl (by first | (simp only [f0_9, f0_10, f0_11, f1_2, f2_1, f4_1, f6_0, f6_1, f6_2, f6_3, f7_0, f7_1, f7_2, f7_3, f9_0, f9_1, f9_2, f25_0, f25_1, f26_1, f30_1, f32_1, f34_1, f34_3, f34_4, f34_11, f37_0, f37_1, f37_2, f37_3, f38_0, f38_1, f38_2, f39_0, f39_1, f39_2, f41_0, f41_1, f41_2, f41_3, f41_4, f41_5, g34_7, g34_8, hro0, hro1, hro1_0, hro1_1, hro1_2, hro2, hro2_0, hro2_1, hro2_2, hro13, mTn0, mTn1, mTn2, mTn10]; first | decide | rfl) | decide | rfl) ?_
      refine mB 1 (s2 := (7, 40, 17, [some (.ref 2)], [.int 0], 0, 0, (mSH, I, L))) rfl ?_
      refine mRt (r := (some (.int 0))) (h := (mSH, I, L)) rfl rfl ?_
      show mWP mTb_ mFT ro (8, 44, 4, [some (.ref 2), some (.int ((ro 0).2 1))], [.int 0], 0, 0, (mSH, I, L)) _
      refine mBT (s2 := (8, 44, 7, [some (.ref 2), some (.int ((ro 0).2 1))], [], 0, 0, (mSH, I, L))) rfl (by decide) ?_
      refine mB 5 (s2 := (8, 44, 16, [some (.ref 2), some (.int ((ro 0).2 1))], [.int ((ro 0).2 1), .int (I 2 1), .ref 3], 0, 0, (mSH, I, L))) rfl ?_
      refine mRq (s2 := (8, 44, 17, [some (.ref 2), some (.int ((ro 0).2 1))], [], 0, 0, (mSH, (mUp I 3 ((I 2 1).toNatClampNeg) ((ro 0).2 1)), L))) rfl (by first | (simp only [f0_9, f0_10, f0_11, f1_2, f2_1, f4_1, f6_0, f6_1, f6_2, f6_3, f7_0, f7_1, f7_2, f7_3, f9_0, f9_1, f9_2, f25_0, f25_1, f26_1, f30_1, f32_1, f34_1, f34_3, f34_4, f34_11, f37_0, f37_1, f37_2, f37_3, f38_0, f38_1, f38_2, f39_0, f39_1, f39_2, f41_0, f41_1, f41_2, f41_3, f41_4, f41_5, g34_7, g34_8, hro0, hro1, hro1_0, hro1_1, hro1_2, hro2, hro2_0, hro2_1, hro2_2, hro13, mTn0, mTn1, mTn2, mTn10]; first | decide | rfl) | decide | rfl) ?_
      refine mB 6 (s2 := (8, 44, 27, [some (.ref 2), some (.int ((ro 0).2 1))], [], 0, 0, (mSH, (mUp (mUp I 3 ((I 2 1).toNatClampNeg) ((ro 0).2 1)) 2 1 ((I 2 1) + 1)), L))) rfl ?_
      refine mRt (r := none) (h := (mSH, (mUp (mUp I 3 ((I 2 1).toNatClampNeg) ((ro 0).2 1)) 2 1 ((I 2 1) + 1)), L)) rfl rfl ?_
      show mWP mTb_ mFT ro (9, 104, 33, [some (.ref 0), some (.ref 2), some (.int ((ro 0).2 1))], [], 0, 0, (mSH, (mUp (mUp I 3 ((I 2 1).toNatClampNeg) ((ro 0).2 1)) 2 1 ((I 2 1) + 1)), L)) _
      refine mB 1 (s2 := (9, 104, 34, [some (.ref 0), some (.ref 2), some (.int ((ro 0).2 1))], [.ref 2], 0, 0, (mSH, (mUp (mUp I 3 ((I 2 1).toNatClampNeg) ((ro 0).2 1)) 2 1 ((I 2 1) + 1)), L))) rfl ?_
      refine mCall (s2 := (8, 39, 0, [some (.ref 2)], [], 0, 0, (mSH, (mUp (mUp I 3 ((I 2 1).toNatClampNeg) ((ro 0).2 1)) 2 1 ((I 2 1) + 1)), L))) rfl ?_
      refine mB 2 (s2 := (8, 39, 4, [some (.ref 2)], [.int ((I 2 1) + 1)], 0, 0, (mSH, (mUp (mUp I 3 ((I 2 1).toNatClampNeg) ((ro 0).2 1)) 2 1 ((I 2 1) + 1)), L))) rfl ?_
      refine mRt (r := (some (.int ((I 2 1) + 1)))) (h := (mSH, (mUp (mUp I 3 ((I 2 1).toNatClampNeg) ((ro 0).2 1)) 2 1 ((I 2 1) + 1)), L)) rfl (mRet_int rfl) ?_
      show mWP mTb_ mFT ro (9, 104, 37, [some (.ref 0), some (.ref 2), some (.int ((ro 0).2 1))], [.int ((I 2 1) + 1)], 0, 0, (mSH, (mUp (mUp I 3 ((I 2 1).toNatClampNeg) ((ro 0).2 1)) 2 1 ((I 2 1) + 1)), L)) _
      refine mB 2 (s2 := (9, 104, 39, [some (.ref 0), some (.ref 2), some (.int ((ro 0).2 1))], [.int (((I 2 1) + 1) - 1)], 0, 0, (mSH, (mUp (mUp I 3 ((I 2 1).toNatClampNeg) ((ro 0).2 1)) 2 1 ((I 2 1) + 1)), L))) rfl ?_
      refine mRt (r := (some (.int (((I 2 1) + 1) - 1)))) (h := (mSH, (mUp (mUp I 3 ((I 2 1).toNatClampNeg) ((ro 0).2 1)) 2 1 ((I 2 1) + 1)), L)) rfl (mRet_int rfl) ?_
      show mWP mTb_ mFT ro (10, 76, 12, [some (.ref 0), some (.int ((ro 0).2 1))], [.int (((I 2 1) + 1) - 1)], 0, 0, (mSH, (mUp (mUp I 3 ((I 2 1).toNatClampNeg) ((ro 0).2 1)) 2 1 ((I 2 1) + 1)), L)) _
      refine mRt (r := (some (.int (((I 2 1) + 1) - 1)))) (h := (mSH, (mUp (mUp I 3 ((I 2 1).toNatClampNeg) ((ro 0).2 1)) 2 1 ((I 2 1) + 1)), L)) rfl (mRet_int rfl) ?_
      show mWP mTb_ mFT ro (11, 163, 165, [some (.ref 1000), some (.ref 0), some (.ref 34), some (.int 0)], [.int (((I 2 1) + 1) - 1)], 62, 3336, (mSH, (mUp (mUp I 3 ((I 2 1).toNatClampNeg) ((ro 0).2 1)) 2 1 ((I 2 1) + 1)), L)) _
      refine mB 5 (s2 := (11, 163, 170, [some (.ref 1000), some (.ref 0), some (.ref 34), some (.int 0)], [.int 1, .ref 1000, .ref 34, .int (((I 2 1) + 1) - 1)], 62, 3336, (mSH, (mUp (mUp I 3 ((I 2 1).toNatClampNeg) ((ro 0).2 1)) 2 1 ((I 2 1) + 1)), L))) rfl ?_
      refine mRq (s2 := (11, 163, 171, [some (.ref 1000), some (.ref 0), some (.ref 34), some (.int 0)], [.int ((ro 0).2 1), .ref 34, .int (((I 2 1) + 1) - 1)], 62, 3336, (mSH, (mUp (mUp I 3 ((I 2 1).toNatClampNeg) ((ro 0).2 1)) 2 1 ((I 2 1) + 1)), L))) rfl (by first | (simp only [f0_9, f0_10, f0_11, f1_2, f2_1, f4_1, f6_0, f6_1, f6_2, f6_3, f7_0, f7_1, f7_2, f7_3, f9_0, f9_1, f9_2, f25_0, f25_1, f26_1, f30_1, f32_1, f34_1, f34_3, f34_4, f34_11, f37_0, f37_1, f37_2, f37_3, f38_0, f38_1, f38_2, f39_0, f39_1, f39_2, f41_0, f41_1, f41_2, f41_3, f41_4, f41_5, g34_7, g34_8, hro0, hro1, hro1_0, hro1_1, hro1_2, hro2, hro2_0, hro2_1, hro2_2, hro13, mTn0, mTn1, mTn2, mTn10]; first | decide | rfl) | decide | rfl) ?_
      refine mCall (s2 := (10, 116, 0, [some (.ref 34), some (.int ((ro 0).2 1))], [], 0, 0, (mSH, (mUp (mUp I 3 ((I 2 1).toNatClampNeg) ((ro 0).2 1)) 2 1 ((I 2 1) + 1)), L))) rfl ?_
      refine mB 3 (s2 := (10, 116, 4, [some (.ref 34), some (.int ((ro 0).2 1))], [.int 99, .int 1, .int ((ro 0).2 1)], 0, 0, (mSH, (mUp (mUp I 3 ((I 2 1).toNatClampNeg) ((ro 0).2 1)) 2 1 ((I 2 1) + 1)), L))) rfl ?_
      refine mCall (s2 := (9, 112, 0, [some (.int ((ro 0).2 1)), some (.int 1), some (.int 99)], [], 0, 0, (mSH, (mUp (mUp I 3 ((I 2 1).toNatClampNeg) ((ro 0).2 1)) 2 1 ((I 2 1) + 1)), L))) rfl ?_
      refine mB 2 (s2 := (9, 112, 2, [some (.int ((ro 0).2 1)), some (.int 1), some (.int 99)], [.int 1, .int ((ro 0).2 1)], 0, 0, (mSH, (mUp (mUp I 3 ((I 2 1).toNatClampNeg) ((ro 0).2 1)) 2 1 ((I 2 1) + 1)), L))) rfl ?_
      refine mBF (s3 := (9, 112, 5, [some (.int ((ro 0).2 1)), some (.int 1), some (.int 99)], [], 0, 0, (mSH, (mUp (mUp I 3 ((I 2 1).toNatClampNeg) ((ro 0).2 1)) 2 1 ((I 2 1) + 1)), L))) rfl (decide_eq_false (by
        have a0 := of_decide_eq_false c0
        have a1 := of_decide_eq_false c1
        simp only [f0_9, f0_10, f0_11, f1_2, f2_1, f4_1, f6_0, f6_1, f6_2, f6_3, f7_0, f7_1, f7_2, f7_3, f9_0, f9_1, f9_2, f25_0, f25_1, f26_1, f30_1, f32_1, f34_1, f34_3, f34_4, f34_11, f37_0, f37_1, f37_2, f37_3, f38_0, f38_1, f38_2, f39_0, f39_1, f39_2, f41_0, f41_1, f41_2, f41_3, f41_4, f41_5, g34_7, g34_8, hro0, hro1, hro1_0, hro1_1, hro1_2, hro2, hro2_0, hro2_1, hro2_2, hro13, mTn0, mTn1, mTn2, mTn10, Int32.lt_iff_toInt_lt, Int32.le_iff_toInt_le, ← Int32.toInt_inj, mLi0, mLi1, mLi2, mLi3, mLi4, mLi5, mLi6, mLi7, mLi8, mLi9, mLi16, mLi99, mLi120, mLi127, mLi1584, mLi999999, mLim] at a0 a1 ⊢
        omega)) ?_
      refine mB 2 (s2 := (9, 112, 7, [some (.int ((ro 0).2 1)), some (.int 1), some (.int 99)], [.int 99, .int ((ro 0).2 1)], 0, 0, (mSH, (mUp (mUp I 3 ((I 2 1).toNatClampNeg) ((ro 0).2 1)) 2 1 ((I 2 1) + 1)), L))) rfl ?_
      refine mBF (s3 := (9, 112, 10, [some (.int ((ro 0).2 1)), some (.int 1), some (.int 99)], [], 0, 0, (mSH, (mUp (mUp I 3 ((I 2 1).toNatClampNeg) ((ro 0).2 1)) 2 1 ((I 2 1) + 1)), L))) rfl (decide_eq_false (by
        have a0 := of_decide_eq_false c0
        have a1 := of_decide_eq_false c1
        simp only [f0_9, f0_10, f0_11, f1_2, f2_1, f4_1, f6_0, f6_1, f6_2, f6_3, f7_0, f7_1, f7_2, f7_3, f9_0, f9_1, f9_2, f25_0, f25_1, f26_1, f30_1, f32_1, f34_1, f34_3, f34_4, f34_11, f37_0, f37_1, f37_2, f37_3, f38_0, f38_1, f38_2, f39_0, f39_1, f39_2, f41_0, f41_1, f41_2, f41_3, f41_4, f41_5, g34_7, g34_8, hro0, hro1, hro1_0, hro1_1, hro1_2, hro2, hro2_0, hro2_1, hro2_2, hro13, mTn0, mTn1, mTn2, mTn10, Int32.lt_iff_toInt_lt, Int32.le_iff_toInt_le, ← Int32.toInt_inj, mLi0, mLi1, mLi2, mLi3, mLi4, mLi5, mLi6, mLi7, mLi8, mLi9, mLi16, mLi99, mLi120, mLi127, mLi1584, mLi999999, mLim] at a0 a1 ⊢
        omega)) ?_
      refine mB 2 (s2 := (9, 112, 15, [some (.int ((ro 0).2 1)), some (.int 1), some (.int 99)], [.int 1], 0, 0, (mSH, (mUp (mUp I 3 ((I 2 1).toNatClampNeg) ((ro 0).2 1)) 2 1 ((I 2 1) + 1)), L))) rfl ?_
      refine mRt (r := (some (.int 1))) (h := (mSH, (mUp (mUp I 3 ((I 2 1).toNatClampNeg) ((ro 0).2 1)) 2 1 ((I 2 1) + 1)), L)) rfl rfl ?_
      show mWP mTb_ mFT ro (10, 116, 7, [some (.ref 34), some (.int ((ro 0).2 1))], [.int 1], 0, 0, (mSH, (mUp (mUp I 3 ((I 2 1).toNatClampNeg) ((ro 0).2 1)) 2 1 ((I 2 1) + 1)), L)) _
      refine mBF (s3 := (10, 116, 17, [some (.ref 34), some (.int ((ro 0).2 1))], [], 0, 0, (mSH, (mUp (mUp I 3 ((I 2 1).toNatClampNeg) ((ro 0).2 1)) 2 1 ((I 2 1) + 1)), L))) rfl (by decide) ?_
      refine mB 3 (s2 := (10, 116, 23, [some (.ref 34), some (.int ((ro 0).2 1))], [.int 16, .int (I 34 1)], 0, 0, (mSH, (mUp (mUp I 3 ((I 2 1).toNatClampNeg) ((ro 0).2 1)) 2 1 ((I 2 1) + 1)), L))) rfl ?_
      refine mBF (s3 := (10, 116, 33, [some (.ref 34), some (.int ((ro 0).2 1))], [], 0, 0, (mSH, (mUp (mUp I 3 ((I 2 1).toNatClampNeg) ((ro 0).2 1)) 2 1 ((I 2 1) + 1)), L))) rfl (by first | (simp only [f0_9, f0_10, f0_11, f1_2, f2_1, f4_1, f6_0, f6_1, f6_2, f6_3, f7_0, f7_1, f7_2, f7_3, f9_0, f9_1, f9_2, f25_0, f25_1, f26_1, f30_1, f32_1, f34_1, f34_3, f34_4, f34_11, f37_0, f37_1, f37_2, f37_3, f38_0, f38_1, f38_2, f39_0, f39_1, f39_2, f41_0, f41_1, f41_2, f41_3, f41_4, f41_5, g34_7, g34_8, hro0, hro1, hro1_0, hro1_1, hro1_2, hro2, hro2_0, hro2_1, hro2_2, hro13, mTn0, mTn1, mTn2, mTn10]; first | decide | rfl) | decide | rfl) ?_
      refine mB 5 (s2 := (10, 116, 42, [some (.ref 34), some (.int ((ro 0).2 1))], [.int ((ro 0).2 1), .int (I 34 1), .ref 35], 0, 0, (mSH, (mUp (mUp I 3 ((I 2 1).toNatClampNeg) ((ro 0).2 1)) 2 1 ((I 2 1) + 1)), L))) rfl ?_
      refine mRq (s2 := (10, 116, 43, [some (.ref 34), some (.int ((ro 0).2 1))], [], 0, 0, (mSH, (mUp (mUp (mUp I 3 ((I 2 1).toNatClampNeg) ((ro 0).2 1)) 2 1 ((I 2 1) + 1)) 35 ((I 34 1).toNatClampNeg) ((ro 0).2 1)), L))) rfl (by first | (simp only [f0_9, f0_10, f0_11, f1_2, f2_1, f4_1, f6_0, f6_1, f6_2, f6_3, f7_0, f7_1, f7_2, f7_3, f9_0, f9_1, f9_2, f25_0, f25_1, f26_1, f30_1, f32_1, f34_1, f34_3, f34_4, f34_11, f37_0, f37_1, f37_2, f37_3, f38_0, f38_1, f38_2, f39_0, f39_1, f39_2, f41_0, f41_1, f41_2, f41_3, f41_4, f41_5, g34_7, g34_8, hro0, hro1, hro1_0, hro1_1, hro1_2, hro2, hro2_0, hro2_1, hro2_2, hro13, mTn0, mTn1, mTn2, mTn10]; first | decide | rfl) | decide | rfl) ?_
      refine mB 10 (s2 := (10, 116, 59, [some (.ref 34), some (.int ((ro 0).2 1))], [.int (((I 34 1) + 1) - 1)], 0, 0, (mSH, (mUp (mUp (mUp (mUp I 3 ((I 2 1).toNatClampNeg) ((ro 0).2 1)) 2 1 ((I 2 1) + 1)) 35 ((I 34 1).toNatClampNeg) ((ro 0).2 1)) 34 1 ((I 34 1) + 1)), L))) rfl ?_
      refine mRt (r := (some (.int (((I 34 1) + 1) - 1)))) (h := (mSH, (mUp (mUp (mUp (mUp I 3 ((I 2 1).toNatClampNeg) ((ro 0).2 1)) 2 1 ((I 2 1) + 1)) 35 ((I 34 1).toNatClampNeg) ((ro 0).2 1)) 34 1 ((I 34 1) + 1)), L)) rfl (mRet_int rfl) ?_
      show mWP mTb_ mFT ro (11, 163, 174, [some (.ref 1000), some (.ref 0), some (.ref 34), some (.int 0)], [.int (((I 34 1) + 1) - 1), .int (((I 2 1) + 1) - 1)], 62, 3336, (mSH, (mUp (mUp (mUp (mUp I 3 ((I 2 1).toNatClampNeg) ((ro 0).2 1)) 2 1 ((I 2 1) + 1)) 35 ((I 34 1).toNatClampNeg) ((ro 0).2 1)) 34 1 ((I 34 1) + 1)), L)) _
      refine mBT (s2 := (11, 163, 808, [some (.ref 1000), some (.ref 0), some (.ref 34), some (.int 0)], [], 62, 3336, (mSH, (mUp (mUp (mUp (mUp I 3 ((I 2 1).toNatClampNeg) ((ro 0).2 1)) 2 1 ((I 2 1) + 1)) 35 ((I 34 1).toNatClampNeg) ((ro 0).2 1)) 34 1 ((I 34 1) + 1)), L))) rfl (by first | (simp only [f0_9, f0_10, f0_11, f1_2, f2_1, f4_1, f6_0, f6_1, f6_2, f6_3, f7_0, f7_1, f7_2, f7_3, f9_0, f9_1, f9_2, f25_0, f25_1, f26_1, f30_1, f32_1, f34_1, f34_3, f34_4, f34_11, f37_0, f37_1, f37_2, f37_3, f38_0, f38_1, f38_2, f39_0, f39_1, f39_2, f41_0, f41_1, f41_2, f41_3, f41_4, f41_5, g34_7, g34_8, hro0, hro1, hro1_0, hro1_1, hro1_2, hro2, hro2_0, hro2_1, hro2_2, hro13, mTn0, mTn1, mTn2, mTn10]; first | decide | rfl) | decide | rfl) ?_
      exact h3 (of_decide_eq_false c0) (of_decide_eq_false c1)
theorem p1_layer {ro : Nat → Nat × (Nat → Int32)} {Q : mPo} {I : Nat → Nat → Int32} {L : Nat → Nat → Int64} (hF : mFF I L) (hR : mRO ro) (h1 : (((ro 0).2 1) < 1) → mWP mTb_ mFT ro (11, 163, 808, [some (.ref 1000), some (.ref 0), some (.ref 34), some (.int 0)], [], 62, 3336, (mSH, (mUp (mUp I 0 9 ((I 0 9) + 1)) 39 0 ((I 39 0) + 1)), L)) Q) (h2 : ¬ (((ro 0).2 1) < 1) → ((99 : Int32) < ((ro 0).2 1)) → mWP mTb_ mFT ro (11, 163, 808, [some (.ref 1000), some (.ref 0), some (.ref 34), some (.int 0)], [], 62, 3336, (mSH, (mUp (mUp I 0 9 ((I 0 9) + 1)) 39 0 ((I 39 0) + 1)), L)) Q) (h3 : ¬ (((ro 0).2 1) < 1) → ¬ ((99 : Int32) < ((ro 0).2 1)) → mWP mTb_ mFT ro (11, 163, 808, [some (.ref 1000), some (.ref 0), some (.ref 34), some (.int 0)], [], 62, 3336, (mSH, (mUp (mUp (mUp (mUp I 5 ((I 4 1).toNatClampNeg) ((ro 0).2 1)) 4 1 ((I 4 1) + 1)) 36 ((I 34 3).toNatClampNeg) ((ro 0).2 1)) 34 3 ((I 34 3) + 1)), L)) Q) : mWP mTb_ mFT ro (11, 163, 179, [some (.ref 1000), some (.ref 0), some (.ref 34), some (.int 0)], [], 62, 3336, (mSH, I, L)) Q := by
  obtain ⟨f0_9, f0_10, f0_11, f1_2, f2_1, f4_1, f6_0, f6_1, f6_2, f6_3, f7_0, f7_1, f7_2, f7_3, f9_0, f9_1, f9_2, f25_0, f25_1, f26_1, f30_1, f32_1, f34_1, f34_3, f34_4, f34_11, f37_0, f37_1, f37_2, f37_3, f38_0, f38_1, f38_2, f39_0, f39_1, f39_2, f41_0, f41_1, f41_2, f41_3, f41_4, f41_5, g34_7, g34_8⟩ := hF
  obtain ⟨hro0, hro1, hro1_0, hro1_1, hro1_2, hro2, hro2_0, hro2_1, hro2_2, hro13⟩ := hR
  refine mB 5 (s2 := (11, 163, 184, [some (.ref 1000), some (.ref 0), some (.ref 34), some (.int 0)], [.int 1, .ref 1000, .ref 0], 62, 3336, (mSH, I, L))) rfl ?_
  refine mRq (s2 := (11, 163, 185, [some (.ref 1000), some (.ref 0), some (.ref 34), some (.int 0)], [.int ((ro 0).2 1), .ref 0], 62, 3336, (mSH, I, L))) rfl (by first | (simp only [f0_9, f0_10, f0_11, f1_2, f2_1, f4_1, f6_0, f6_1, f6_2, f6_3, f7_0, f7_1, f7_2, f7_3, f9_0, f9_1, f9_2, f25_0, f25_1, f26_1, f30_1, f32_1, f34_1, f34_3, f34_4, f34_11, f37_0, f37_1, f37_2, f37_3, f38_0, f38_1, f38_2, f39_0, f39_1, f39_2, f41_0, f41_1, f41_2, f41_3, f41_4, f41_5, g34_7, g34_8, hro0, hro1, hro1_0, hro1_1, hro1_2, hro2, hro2_0, hro2_1, hro2_2, hro13, mTn0, mTn1, mTn2, mTn10]; first | decide | rfl) | decide | rfl) ?_
  refine mCall (s2 := (10, 77, 0, [some (.ref 0), some (.int ((ro 0).2 1))], [], 0, 0, (mSH, I, L))) rfl ?_
  refine mB 5 (s2 := (10, 77, 9, [some (.ref 0), some (.int ((ro 0).2 1))], [.int ((ro 0).2 1), .ref 4, .ref 0], 0, 0, (mSH, I, L))) rfl ?_
  refine mCall (s2 := (9, 104, 0, [some (.ref 0), some (.ref 4), some (.int ((ro 0).2 1))], [], 0, 0, (mSH, I, L))) rfl ?_
  refine mB 1 (s2 := (9, 104, 1, [some (.ref 0), some (.ref 4), some (.int ((ro 0).2 1))], [.int ((ro 0).2 1)], 0, 0, (mSH, I, L))) rfl ?_
  refine mCall (s2 := (8, 109, 0, [some (.int ((ro 0).2 1))], [], 0, 0, (mSH, I, L))) rfl ?_
  refine mB 2 (s2 := (8, 109, 2, [some (.int ((ro 0).2 1))], [.int 1, .int ((ro 0).2 1)], 0, 0, (mSH, I, L))) rfl ?_
  refine mBr (s2 := (8, 109, 15, [some (.int ((ro 0).2 1))], [], 0, 0, (mSH, I, L))) (s3 := (8, 109, 5, [some (.int ((ro 0).2 1))], [], 0, 0, (mSH, I, L))) rfl (fun c0 => ?_) (fun c0 => ?_)
  · refine mB 1 (s2 := (8, 109, 16, [some (.int ((ro 0).2 1))], [.int 0], 0, 0, (mSH, I, L))) rfl ?_
    refine mRt (r := (some (.int 0))) (h := (mSH, I, L)) rfl rfl ?_
    show mWP mTb_ mFT ro (9, 104, 4, [some (.ref 0), some (.ref 4), some (.int ((ro 0).2 1))], [.int 0], 0, 0, (mSH, I, L)) _
    refine mBT (s2 := (9, 104, 7, [some (.ref 0), some (.ref 4), some (.int ((ro 0).2 1))], [], 0, 0, (mSH, I, L))) rfl (by decide) ?_
    refine mB 2 (s2 := (9, 104, 10, [some (.ref 0), some (.ref 4), some (.int ((ro 0).2 1))], [.int (-2), .ref 0], 0, 0, (mSH, I, L))) rfl ?_
    refine mCall (s2 := (8, 103, 0, [some (.ref 0), some (.int (-2))], [], 0, 0, (mSH, I, L))) rfl ?_
    refine mB 2 (s2 := (8, 103, 3, [some (.ref 0), some (.int (-2))], [.int (-2), .int (-2)], 0, 0, (mSH, I, L))) rfl ?_
    refine mBT (s2 := (8, 103, 6, [some (.ref 0), some (.int (-2))], [], 0, 0, (mSH, I, L))) rfl (by decide) ?_
    refine mB 8 (s2 := (8, 103, 49, [some (.ref 0), some (.int (-2))], [.int (-2)], 0, 0, (mSH, (mUp I 0 9 ((I 0 9) + 1)), L))) rfl ?_
    refine mRt (r := (some (.int (-2)))) (h := (mSH, (mUp I 0 9 ((I 0 9) + 1)), L)) rfl (mRet_int rfl) ?_
    show mWP mTb_ mFT ro (9, 104, 13, [some (.ref 0), some (.ref 4), some (.int ((ro 0).2 1))], [.int (-2)], 0, 0, (mSH, (mUp I 0 9 ((I 0 9) + 1)), L)) _
    refine mRt (r := (some (.int (-2)))) (h := (mSH, (mUp I 0 9 ((I 0 9) + 1)), L)) rfl (mRet_int rfl) ?_
    show mWP mTb_ mFT ro (10, 77, 12, [some (.ref 0), some (.int ((ro 0).2 1))], [.int (-2)], 0, 0, (mSH, (mUp I 0 9 ((I 0 9) + 1)), L)) _
    refine mRt (r := (some (.int (-2)))) (h := (mSH, (mUp I 0 9 ((I 0 9) + 1)), L)) rfl (mRet_int rfl) ?_
    show mWP mTb_ mFT ro (11, 163, 188, [some (.ref 1000), some (.ref 0), some (.ref 34), some (.int 0)], [.int (-2)], 62, 3336, (mSH, (mUp I 0 9 ((I 0 9) + 1)), L)) _
    refine mB 5 (s2 := (11, 163, 193, [some (.ref 1000), some (.ref 0), some (.ref 34), some (.int 0)], [.int 1, .ref 1000, .ref 34, .int (-2)], 62, 3336, (mSH, (mUp I 0 9 ((I 0 9) + 1)), L))) rfl ?_
    refine mRq (s2 := (11, 163, 194, [some (.ref 1000), some (.ref 0), some (.ref 34), some (.int 0)], [.int ((ro 0).2 1), .ref 34, .int (-2)], 62, 3336, (mSH, (mUp I 0 9 ((I 0 9) + 1)), L))) rfl (by first | (simp only [f0_9, f0_10, f0_11, f1_2, f2_1, f4_1, f6_0, f6_1, f6_2, f6_3, f7_0, f7_1, f7_2, f7_3, f9_0, f9_1, f9_2, f25_0, f25_1, f26_1, f30_1, f32_1, f34_1, f34_3, f34_4, f34_11, f37_0, f37_1, f37_2, f37_3, f38_0, f38_1, f38_2, f39_0, f39_1, f39_2, f41_0, f41_1, f41_2, f41_3, f41_4, f41_5, g34_7, g34_8, hro0, hro1, hro1_0, hro1_1, hro1_2, hro2, hro2_0, hro2_1, hro2_2, hro13, mTn0, mTn1, mTn2, mTn10]; first | decide | rfl) | decide | rfl) ?_
    refine mCall (s2 := (10, 117, 0, [some (.ref 34), some (.int ((ro 0).2 1))], [], 0, 0, (mSH, (mUp I 0 9 ((I 0 9) + 1)), L))) rfl ?_
    refine mB 3 (s2 := (10, 117, 4, [some (.ref 34), some (.int ((ro 0).2 1))], [.int 99, .int 1, .int ((ro 0).2 1)], 0, 0, (mSH, (mUp I 0 9 ((I 0 9) + 1)), L))) rfl ?_
    refine mCall (s2 := (9, 112, 0, [some (.int ((ro 0).2 1)), some (.int 1), some (.int 99)], [], 0, 0, (mSH, (mUp I 0 9 ((I 0 9) + 1)), L))) rfl ?_
    refine mB 2 (s2 := (9, 112, 2, [some (.int ((ro 0).2 1)), some (.int 1), some (.int 99)], [.int 1, .int ((ro 0).2 1)], 0, 0, (mSH, (mUp I 0 9 ((I 0 9) + 1)), L))) rfl ?_
    refine mBT (s2 := (9, 112, 14, [some (.int ((ro 0).2 1)), some (.int 1), some (.int 99)], [], 0, 0, (mSH, (mUp I 0 9 ((I 0 9) + 1)), L))) rfl (decide_eq_true (by
        have a0 := of_decide_eq_true c0
        simp only [f0_9, f0_10, f0_11, f1_2, f2_1, f4_1, f6_0, f6_1, f6_2, f6_3, f7_0, f7_1, f7_2, f7_3, f9_0, f9_1, f9_2, f25_0, f25_1, f26_1, f30_1, f32_1, f34_1, f34_3, f34_4, f34_11, f37_0, f37_1, f37_2, f37_3, f38_0, f38_1, f38_2, f39_0, f39_1, f39_2, f41_0, f41_1, f41_2, f41_3, f41_4, f41_5, g34_7, g34_8, hro0, hro1, hro1_0, hro1_1, hro1_2, hro2, hro2_0, hro2_1, hro2_2, hro13, mTn0, mTn1, mTn2, mTn10, Int32.lt_iff_toInt_lt, Int32.le_iff_toInt_le, ← Int32.toInt_inj, mLi0, mLi1, mLi2, mLi3, mLi4, mLi5, mLi6, mLi7, mLi8, mLi9, mLi16, mLi99, mLi120, mLi127, mLi1584, mLi999999, mLim] at a0 ⊢
        omega)) ?_
    refine mB 1 (s2 := (9, 112, 15, [some (.int ((ro 0).2 1)), some (.int 1), some (.int 99)], [.int 0], 0, 0, (mSH, (mUp I 0 9 ((I 0 9) + 1)), L))) rfl ?_
    refine mRt (r := (some (.int 0))) (h := (mSH, (mUp I 0 9 ((I 0 9) + 1)), L)) rfl rfl ?_
    show mWP mTb_ mFT ro (10, 117, 7, [some (.ref 34), some (.int ((ro 0).2 1))], [.int 0], 0, 0, (mSH, (mUp I 0 9 ((I 0 9) + 1)), L)) _
    refine mBT (s2 := (10, 117, 10, [some (.ref 34), some (.int ((ro 0).2 1))], [], 0, 0, (mSH, (mUp I 0 9 ((I 0 9) + 1)), L))) rfl (by decide) ?_
    refine mB 2 (s2 := (10, 117, 13, [some (.ref 34), some (.int ((ro 0).2 1))], [.int (-2), .ref 34], 0, 0, (mSH, (mUp I 0 9 ((I 0 9) + 1)), L))) rfl ?_
    refine mCall (s2 := (9, 113, 0, [some (.ref 34), some (.int (-2))], [], 0, 0, (mSH, (mUp I 0 9 ((I 0 9) + 1)), L))) rfl ?_
    refine mB 6 (s2 := (9, 113, 9, [some (.ref 34), some (.int (-2))], [.int 0, .ref 39, .int 0, .ref 39], 0, 0, (mSH, (mUp I 0 9 ((I 0 9) + 1)), L))) rfl ?_
    refine mRq (s2 := (9, 113, 10, [some (.ref 34), some (.int (-2))], [.int (I 39 0), .int 0, .ref 39], 0, 0, (mSH, (mUp I 0 9 ((I 0 9) + 1)), L))) rfl (by decide) ?_
    refine mB 2 (s2 := (9, 113, 12, [some (.ref 34), some (.int (-2))], [.int ((I 39 0) + 1), .int 0, .ref 39], 0, 0, (mSH, (mUp I 0 9 ((I 0 9) + 1)), L))) rfl ?_
    refine mRq (s2 := (9, 113, 13, [some (.ref 34), some (.int (-2))], [], 0, 0, (mSH, (mUp (mUp I 0 9 ((I 0 9) + 1)) 39 0 ((I 39 0) + 1)), L))) rfl (by decide) ?_
    refine mB 1 (s2 := (9, 113, 14, [some (.ref 34), some (.int (-2))], [.int (-2)], 0, 0, (mSH, (mUp (mUp I 0 9 ((I 0 9) + 1)) 39 0 ((I 39 0) + 1)), L))) rfl ?_
    refine mRt (r := (some (.int (-2)))) (h := (mSH, (mUp (mUp I 0 9 ((I 0 9) + 1)) 39 0 ((I 39 0) + 1)), L)) rfl (mRet_int rfl) ?_
    show mWP mTb_ mFT ro (10, 117, 16, [some (.ref 34), some (.int ((ro 0).2 1))], [.int (-2)], 0, 0, (mSH, (mUp (mUp I 0 9 ((I 0 9) + 1)) 39 0 ((I 39 0) + 1)), L)) _
    refine mRt (r := (some (.int (-2)))) (h := (mSH, (mUp (mUp I 0 9 ((I 0 9) + 1)) 39 0 ((I 39 0) + 1)), L)) rfl (mRet_int rfl) ?_
    show mWP mTb_ mFT ro (11, 163, 197, [some (.ref 1000), some (.ref 0), some (.ref 34), some (.int 0)], [.int (-2), .int (-2)], 62, 3336, (mSH, (mUp (mUp I 0 9 ((I 0 9) + 1)) 39 0 ((I 39 0) + 1)), L)) _
    refine mBT (s2 := (11, 163, 808, [some (.ref 1000), some (.ref 0), some (.ref 34), some (.int 0)], [], 62, 3336, (mSH, (mUp (mUp I 0 9 ((I 0 9) + 1)) 39 0 ((I 39 0) + 1)), L))) rfl (by decide) ?_
    exact h1 (of_decide_eq_true c0)
  · refine mB 2 (s2 := (8, 109, 8, [some (.int ((ro 0).2 1))], [.int 99, .int ((ro 0).2 1)], 0, 0, (mSH, I, L))) rfl ?_
    refine mBr (s2 := (8, 109, 15, [some (.int ((ro 0).2 1))], [], 0, 0, (mSH, I, L))) (s3 := (8, 109, 11, [some (.int ((ro 0).2 1))], [], 0, 0, (mSH, I, L))) rfl (fun c1 => ?_) (fun c1 => ?_)
    · refine mB 1 (s2 := (8, 109, 16, [some (.int ((ro 0).2 1))], [.int 0], 0, 0, (mSH, I, L))) rfl ?_
      refine mRt (r := (some (.int 0))) (h := (mSH, I, L)) rfl rfl ?_
      show mWP mTb_ mFT ro (9, 104, 4, [some (.ref 0), some (.ref 4), some (.int ((ro 0).2 1))], [.int 0], 0, 0, (mSH, I, L)) _
      refine mBT (s2 := (9, 104, 7, [some (.ref 0), some (.ref 4), some (.int ((ro 0).2 1))], [], 0, 0, (mSH, I, L))) rfl (by decide) ?_
      refine mB 2 (s2 := (9, 104, 10, [some (.ref 0), some (.ref 4), some (.int ((ro 0).2 1))], [.int (-2), .ref 0], 0, 0, (mSH, I, L))) rfl ?_
      refine mCall (s2 := (8, 103, 0, [some (.ref 0), some (.int (-2))], [], 0, 0, (mSH, I, L))) rfl ?_
      refine mB 2 (s2 := (8, 103, 3, [some (.ref 0), some (.int (-2))], [.int (-2), .int (-2)], 0, 0, (mSH, I, L))) rfl ?_
      refine mBT (s2 := (8, 103, 6, [some (.ref 0), some (.int (-2))], [], 0, 0, (mSH, I, L))) rfl (by decide) ?_
      refine mB 8 (s2 := (8, 103, 49, [some (.ref 0), some (.int (-2))], [.int (-2)], 0, 0, (mSH, (mUp I 0 9 ((I 0 9) + 1)), L))) rfl ?_
      refine mRt (r := (some (.int (-2)))) (h := (mSH, (mUp I 0 9 ((I 0 9) + 1)), L)) rfl (mRet_int rfl) ?_
      show mWP mTb_ mFT ro (9, 104, 13, [some (.ref 0), some (.ref 4), some (.int ((ro 0).2 1))], [.int (-2)], 0, 0, (mSH, (mUp I 0 9 ((I 0 9) + 1)), L)) _
      refine mRt (r := (some (.int (-2)))) (h := (mSH, (mUp I 0 9 ((I 0 9) + 1)), L)) rfl (mRet_int rfl) ?_
      show mWP mTb_ mFT ro (10, 77, 12, [some (.ref 0), some (.int ((ro 0).2 1))], [.int (-2)], 0, 0, (mSH, (mUp I 0 9 ((I 0 9) + 1)), L)) _
      refine mRt (r := (some (.int (-2)))) (h := (mSH, (mUp I 0 9 ((I 0 9) + 1)), L)) rfl (mRet_int rfl) ?_
      show mWP mTb_ mFT ro (11, 163, 188, [some (.ref 1000), some (.ref 0), some (.ref 34), some (.int 0)], [.int (-2)], 62, 3336, (mSH, (mUp I 0 9 ((I 0 9) + 1)), L)) _
      refine mB 5 (s2 := (11, 163, 193, [some (.ref 1000), some (.ref 0), some (.ref 34), some (.int 0)], [.int 1, .ref 1000, .ref 34, .int (-2)], 62, 3336, (mSH, (mUp I 0 9 ((I 0 9) + 1)), L))) rfl ?_
      refine mRq (s2 := (11, 163, 194, [some (.ref 1000), some (.ref 0), some (.ref 34), some (.int 0)], [.int ((ro 0).2 1), .ref 34, .int (-2)], 62, 3336, (mSH, (mUp I 0 9 ((I 0 9) + 1)), L))) rfl (by first | (simp only [f0_9, f0_10, f0_11, f1_2, f2_1, f4_1, f6_0, f6_1, f6_2, f6_3, f7_0, f7_1, f7_2, f7_3, f9_0, f9_1, f9_2, f25_0, f25_1, f26_1, f30_1, f32_1, f34_1, f34_3, f34_4, f34_11, f37_0, f37_1, f37_2, f37_3, f38_0, f38_1, f38_2, f39_0, f39_1, f39_2, f41_0, f41_1, f41_2, f41_3, f41_4, f41_5, g34_7, g34_8, hro0, hro1, hro1_0, hro1_1, hro1_2, hro2, hro2_0, hro2_1, hro2_2, hro13, mTn0, mTn1, mTn2, mTn10]; first | decide | rfl) | decide | rfl) ?_
      refine mCall (s2 := (10, 117, 0, [some (.ref 34), some (.int ((ro 0).2 1))], [], 0, 0, (mSH, (mUp I 0 9 ((I 0 9) + 1)), L))) rfl ?_
      refine mB 3 (s2 := (10, 117, 4, [some (.ref 34), some (.int ((ro 0).2 1))], [.int 99, .int 1, .int ((ro 0).2 1)], 0, 0, (mSH, (mUp I 0 9 ((I 0 9) + 1)), L))) rfl ?_
      refine mCall (s2 := (9, 112, 0, [some (.int ((ro 0).2 1)), some (.int 1), some (.int 99)], [], 0, 0, (mSH, (mUp I 0 9 ((I 0 9) + 1)), L))) rfl ?_
      refine mB 2 (s2 := (9, 112, 2, [some (.int ((ro 0).2 1)), some (.int 1), some (.int 99)], [.int 1, .int ((ro 0).2 1)], 0, 0, (mSH, (mUp I 0 9 ((I 0 9) + 1)), L))) rfl ?_
      refine mBF (s3 := (9, 112, 5, [some (.int ((ro 0).2 1)), some (.int 1), some (.int 99)], [], 0, 0, (mSH, (mUp I 0 9 ((I 0 9) + 1)), L))) rfl (decide_eq_false (by
        have a0 := of_decide_eq_false c0
        have a1 := of_decide_eq_true c1
        simp only [f0_9, f0_10, f0_11, f1_2, f2_1, f4_1, f6_0, f6_1, f6_2, f6_3, f7_0, f7_1, f7_2, f7_3, f9_0, f9_1, f9_2, f25_0, f25_1, f26_1, f30_1, f32_1, f34_1, f34_3, f34_4, f34_11, f37_0, f37_1, f37_2, f37_3, f38_0, f38_1, f38_2, f39_0, f39_1, f39_2, f41_0, f41_1, f41_2, f41_3, f41_4, f41_5, g34_7, g34_8, hro0, hro1, hro1_0, hro1_1, hro1_2, hro2, hro2_0, hro2_1, hro2_2, hro13, mTn0, mTn1, mTn2, mTn10, Int32.lt_iff_toInt_lt, Int32.le_iff_toInt_le, ← Int32.toInt_inj, mLi0, mLi1, mLi2, mLi3, mLi4, mLi5, mLi6, mLi7, mLi8, mLi9, mLi16, mLi99, mLi120, mLi127, mLi1584, mLi999999, mLim] at a0 a1 ⊢
        omega)) ?_
      refine mB 2 (s2 := (9, 112, 7, [some (.int ((ro 0).2 1)), some (.int 1), some (.int 99)], [.int 99, .int ((ro 0).2 1)], 0, 0, (mSH, (mUp I 0 9 ((I 0 9) + 1)), L))) rfl ?_
      refine mBT (s2 := (9, 112, 14, [some (.int ((ro 0).2 1)), some (.int 1), some (.int 99)], [], 0, 0, (mSH, (mUp I 0 9 ((I 0 9) + 1)), L))) rfl (decide_eq_true (by
        have a0 := of_decide_eq_false c0
        have a1 := of_decide_eq_true c1
        simp only [f0_9, f0_10, f0_11, f1_2, f2_1, f4_1, f6_0, f6_1, f6_2, f6_3, f7_0, f7_1, f7_2, f7_3, f9_0, f9_1, f9_2, f25_0, f25_1, f26_1, f30_1, f32_1, f34_1, f34_3, f34_4, f34_11, f37_0, f37_1, f37_2, f37_3, f38_0, f38_1, f38_2, f39_0, f39_1, f39_2, f41_0, f41_1, f41_2, f41_3, f41_4, f41_5, g34_7, g34_8, hro0, hro1, hro1_0, hro1_1, hro1_2, hro2, hro2_0, hro2_1, hro2_2, hro13, mTn0, mTn1, mTn2, mTn10, Int32.lt_iff_toInt_lt, Int32.le_iff_toInt_le, ← Int32.toInt_inj, mLi0, mLi1, mLi2, mLi3, mLi4, mLi5, mLi6, mLi7, mLi8, mLi9, mLi16, mLi99, mLi120, mLi127, mLi1584, mLi999999, mLim] at a0 a1 ⊢
        omega)) ?_
      refine mB 1 (s2 := (9, 112, 15, [some (.int ((ro 0).2 1)), some (.int 1), some (.int 99)], [.int 0], 0, 0, (mSH, (mUp I 0 9 ((I 0 9) + 1)), L))) rfl ?_
      refine mRt (r := (some (.int 0))) (h := (mSH, (mUp I 0 9 ((I 0 9) + 1)), L)) rfl rfl ?_
      show mWP mTb_ mFT ro (10, 117, 7, [some (.ref 34), some (.int ((ro 0).2 1))], [.int 0], 0, 0, (mSH, (mUp I 0 9 ((I 0 9) + 1)), L)) _
      refine mBT (s2 := (10, 117, 10, [some (.ref 34), some (.int ((ro 0).2 1))], [], 0, 0, (mSH, (mUp I 0 9 ((I 0 9) + 1)), L))) rfl (by decide) ?_
      refine mB 2 (s2 := (10, 117, 13, [some (.ref 34), some (.int ((ro 0).2 1))], [.int (-2), .ref 34], 0, 0, (mSH, (mUp I 0 9 ((I 0 9) + 1)), L))) rfl ?_
      refine mCall (s2 := (9, 113, 0, [some (.ref 34), some (.int (-2))], [], 0, 0, (mSH, (mUp I 0 9 ((I 0 9) + 1)), L))) rfl ?_
      refine mB 6 (s2 := (9, 113, 9, [some (.ref 34), some (.int (-2))], [.int 0, .ref 39, .int 0, .ref 39], 0, 0, (mSH, (mUp I 0 9 ((I 0 9) + 1)), L))) rfl ?_
      refine mRq (s2 := (9, 113, 10, [some (.ref 34), some (.int (-2))], [.int (I 39 0), .int 0, .ref 39], 0, 0, (mSH, (mUp I 0 9 ((I 0 9) + 1)), L))) rfl (by decide) ?_
      refine mB 2 (s2 := (9, 113, 12, [some (.ref 34), some (.int (-2))], [.int ((I 39 0) + 1), .int 0, .ref 39], 0, 0, (mSH, (mUp I 0 9 ((I 0 9) + 1)), L))) rfl ?_
      refine mRq (s2 := (9, 113, 13, [some (.ref 34), some (.int (-2))], [], 0, 0, (mSH, (mUp (mUp I 0 9 ((I 0 9) + 1)) 39 0 ((I 39 0) + 1)), L))) rfl (by decide) ?_
      refine mB 1 (s2 := (9, 113, 14, [some (.ref 34), some (.int (-2))], [.int (-2)], 0, 0, (mSH, (mUp (mUp I 0 9 ((I 0 9) + 1)) 39 0 ((I 39 0) + 1)), L))) rfl ?_
      refine mRt (r := (some (.int (-2)))) (h := (mSH, (mUp (mUp I 0 9 ((I 0 9) + 1)) 39 0 ((I 39 0) + 1)), L)) rfl (mRet_int rfl) ?_
      show mWP mTb_ mFT ro (10, 117, 16, [some (.ref 34), some (.int ((ro 0).2 1))], [.int (-2)], 0, 0, (mSH, (mUp (mUp I 0 9 ((I 0 9) + 1)) 39 0 ((I 39 0) + 1)), L)) _
      refine mRt (r := (some (.int (-2)))) (h := (mSH, (mUp (mUp I 0 9 ((I 0 9) + 1)) 39 0 ((I 39 0) + 1)), L)) rfl (mRet_int rfl) ?_
      show mWP mTb_ mFT ro (11, 163, 197, [some (.ref 1000), some (.ref 0), some (.ref 34), some (.int 0)], [.int (-2), .int (-2)], 62, 3336, (mSH, (mUp (mUp I 0 9 ((I 0 9) + 1)) 39 0 ((I 39 0) + 1)), L)) _
      refine mBT (s2 := (11, 163, 808, [some (.ref 1000), some (.ref 0), some (.ref 34), some (.int 0)], [], 62, 3336, (mSH, (mUp (mUp I 0 9 ((I 0 9) + 1)) 39 0 ((I 39 0) + 1)), L))) rfl (by decide) ?_
      exact h2 (of_decide_eq_false c0) (of_decide_eq_true c1)
    · refine mB 2 (s2 := (8, 109, 16, [some (.int ((ro 0).2 1))], [.int 1], 0, 0, (mSH, I, L))) rfl ?_
      refine mRt (r := (some (.int 1))) (h := (mSH, I, L)) rfl rfl ?_
      show mWP mTb_ mFT ro (9, 104, 4, [some (.ref 0), some (.ref 4), some (.int ((ro 0).2 1))], [.int 1], 0, 0, (mSH, I, L)) _
      refine mBF (s3 := (9, 104, 14, [some (.ref 0), some (.ref 4), some (.int ((ro 0).2 1))], [], 0, 0, (mSH, I, L))) rfl (by decide) ?_
      refine mB 1 (s2 := (9, 104, 15, [some (.ref 0), some (.ref 4), some (.int ((ro 0).2 1))], [.ref 4], 0, 0, (mSH, I, L))) rfl ?_
      refine mCall (s2 := (8, 40, 0, [some (.ref 4)], [], 0, 0, (mSH, I, L))) rfl ?_
      refine mB 5 (s2 := (8, 40, 9, [some (.ref 4)], [.int 8, .int (I 4 1)], 0, 0, (mSH, I, L))) rfl ?_
      refine mBT (s2 := (8, 40, 16, [some (.ref 4)], [], 0, 0, (mSH, I, L))) rfl (by first | (simp only [f0_9, f0_10, f0_11, f1_2, f2_1, f4_1, f6_0, f6_1, f6_2, f6_3, f7_0, f7_1, f7_2, f7_3, f9_0, f9_1, f9_2, f25_0, f25_1, f26_1, f30_1, f32_1, f34_1, f34_3, f34_4, f34_11, f37_0, f37_1, f37_2, f37_3, f38_0, f38_1, f38_2, f39_0, f39_1, f39_2, f41_0, f41_1, f41_2, f41_3, f41_4, f41_5, g34_7, g34_8, hro0, hro1, hro1_0, hro1_1, hro1_2, hro2, hro2_0, hro2_1, hro2_2, hro13, mTn0, mTn1, mTn2, mTn10]; first | decide | rfl) | decide | rfl) ?_
      refine mB 1 (s2 := (8, 40, 17, [some (.ref 4)], [.int 0], 0, 0, (mSH, I, L))) rfl ?_
      refine mRt (r := (some (.int 0))) (h := (mSH, I, L)) rfl rfl ?_
      show mWP mTb_ mFT ro (9, 104, 18, [some (.ref 0), some (.ref 4), some (.int ((ro 0).2 1))], [.int 0], 0, 0, (mSH, I, L)) _
      refine mBT (s2 := (9, 104, 28, [some (.ref 0), some (.ref 4), some (.int ((ro 0).2 1))], [], 0, 0, (mSH, I, L))) rfl (by decide) ?_
      refine mB 2 (s2 := (9, 104, 30, [some (.ref 0), some (.ref 4), some (.int ((ro 0).2 1))], [.int ((ro 0).2 1), .ref 4], 0, 0, (mSH, I, L))) rfl ?_
      refine mCall (s2 := (8, 44, 0, [some (.ref 4), some (.int ((ro 0).2 1))], [], 0, 0, (mSH, I, L))) rfl ?_
      refine mB 1 (s2 := (8, 44, 1, [some (.ref 4), some (.int ((ro 0).2 1))], [.ref 4], 0, 0, (mSH, I, L))) rfl ?_
      refine mCall (s2 := (7, 40, 0, [some (.ref 4)], [], 0, 0, (mSH, I, L))) rfl ?_
      refine mB 5 (s2 := (7, 40, 9, [some (.ref 4)], [.int 8, .int (I 4 1)], 0, 0, (mSH, I, L))) rfl ?_
      refine mBT (s2 := (7, 40, 16, [some (.ref 4)], [], 0, 0, (mSH, I, L))) rfl (by first | (simp only [f0_9, f0_10, f0_11, f1_2, f2_1, f4_1, f6_0, f6_1, f6_2, f6_3, f7_0, f7_1, f7_2, f7_3, f9_0, f9_1, f9_2, f25_0, f25_1, f26_1, f30_1, f32_1, f34_1, f34_3, f34_4, f34_11, f37_0, f37_1, f37_2, f37_3, f38_0, f38_1, f38_2, f39_0, f39_1, f39_2, f41_0, f41_1, f41_2, f41_3, f41_4, f41_5, g34_7, g34_8, hro0, hro1, hro1_0, hro1_1, hro1_2, hro2, hro2_0, hro2_1, hro2_2, hro13, mTn0, mTn1, mTn2, mTn10]; first | decide | rfl) | decide | rfl) ?_
      refine mB 1 (s2 := (7, 40, 17, [some (.ref 4)], [.int 0], 0, 0, (mSH, I, L))) rfl ?_
      refine mRt (r := (some (.int 0))) (h := (mSH, I, L)) rfl rfl ?_
      show mWP mTb_ mFT ro (8, 44, 4, [some (.ref 4), some (.int ((ro 0).2 1))], [.int 0], 0, 0, (mSH, I, L)) _
      refine mBT (s2 := (8, 44, 7, [some (.ref 4), some (.int ((ro 0).2 1))], [], 0, 0, (mSH, I, L))) rfl (by decide) ?_
      refine mB 5 (s2 := (8, 44, 16, [some (.ref 4), some (.int ((ro 0).2 1))], [.int ((ro 0).2 1), .int (I 4 1), .ref 5], 0, 0, (mSH, I, L))) rfl ?_
      refine mRq (s2 := (8, 44, 17, [some (.ref 4), some (.int ((ro 0).2 1))], [], 0, 0, (mSH, (mUp I 5 ((I 4 1).toNatClampNeg) ((ro 0).2 1)), L))) rfl (by first | (simp only [f0_9, f0_10, f0_11, f1_2, f2_1, f4_1, f6_0, f6_1, f6_2, f6_3, f7_0, f7_1, f7_2, f7_3, f9_0, f9_1, f9_2, f25_0, f25_1, f26_1, f30_1, f32_1, f34_1, f34_3, f34_4, f34_11, f37_0, f37_1, f37_2, f37_3, f38_0, f38_1, f38_2, f39_0, f39_1, f39_2, f41_0, f41_1, f41_2, f41_3, f41_4, f41_5, g34_7, g34_8, hro0, hro1, hro1_0, hro1_1, hro1_2, hro2, hro2_0, hro2_1, hro2_2, hro13, mTn0, mTn1, mTn2, mTn10]; first | decide | rfl) | decide | rfl) ?_
      refine mB 6 (s2 := (8, 44, 27, [some (.ref 4), some (.int ((ro 0).2 1))], [], 0, 0, (mSH, (mUp (mUp I 5 ((I 4 1).toNatClampNeg) ((ro 0).2 1)) 4 1 ((I 4 1) + 1)), L))) rfl ?_
      refine mRt (r := none) (h := (mSH, (mUp (mUp I 5 ((I 4 1).toNatClampNeg) ((ro 0).2 1)) 4 1 ((I 4 1) + 1)), L)) rfl rfl ?_
      show mWP mTb_ mFT ro (9, 104, 33, [some (.ref 0), some (.ref 4), some (.int ((ro 0).2 1))], [], 0, 0, (mSH, (mUp (mUp I 5 ((I 4 1).toNatClampNeg) ((ro 0).2 1)) 4 1 ((I 4 1) + 1)), L)) _
      refine mB 1 (s2 := (9, 104, 34, [some (.ref 0), some (.ref 4), some (.int ((ro 0).2 1))], [.ref 4], 0, 0, (mSH, (mUp (mUp I 5 ((I 4 1).toNatClampNeg) ((ro 0).2 1)) 4 1 ((I 4 1) + 1)), L))) rfl ?_
      refine mCall (s2 := (8, 39, 0, [some (.ref 4)], [], 0, 0, (mSH, (mUp (mUp I 5 ((I 4 1).toNatClampNeg) ((ro 0).2 1)) 4 1 ((I 4 1) + 1)), L))) rfl ?_
      refine mB 2 (s2 := (8, 39, 4, [some (.ref 4)], [.int ((I 4 1) + 1)], 0, 0, (mSH, (mUp (mUp I 5 ((I 4 1).toNatClampNeg) ((ro 0).2 1)) 4 1 ((I 4 1) + 1)), L))) rfl ?_
      refine mRt (r := (some (.int ((I 4 1) + 1)))) (h := (mSH, (mUp (mUp I 5 ((I 4 1).toNatClampNeg) ((ro 0).2 1)) 4 1 ((I 4 1) + 1)), L)) rfl (mRet_int rfl) ?_
      show mWP mTb_ mFT ro (9, 104, 37, [some (.ref 0), some (.ref 4), some (.int ((ro 0).2 1))], [.int ((I 4 1) + 1)], 0, 0, (mSH, (mUp (mUp I 5 ((I 4 1).toNatClampNeg) ((ro 0).2 1)) 4 1 ((I 4 1) + 1)), L)) _
      refine mB 2 (s2 := (9, 104, 39, [some (.ref 0), some (.ref 4), some (.int ((ro 0).2 1))], [.int (((I 4 1) + 1) - 1)], 0, 0, (mSH, (mUp (mUp I 5 ((I 4 1).toNatClampNeg) ((ro 0).2 1)) 4 1 ((I 4 1) + 1)), L))) rfl ?_
      refine mRt (r := (some (.int (((I 4 1) + 1) - 1)))) (h := (mSH, (mUp (mUp I 5 ((I 4 1).toNatClampNeg) ((ro 0).2 1)) 4 1 ((I 4 1) + 1)), L)) rfl (mRet_int rfl) ?_
      show mWP mTb_ mFT ro (10, 77, 12, [some (.ref 0), some (.int ((ro 0).2 1))], [.int (((I 4 1) + 1) - 1)], 0, 0, (mSH, (mUp (mUp I 5 ((I 4 1).toNatClampNeg) ((ro 0).2 1)) 4 1 ((I 4 1) + 1)), L)) _
      refine mRt (r := (some (.int (((I 4 1) + 1) - 1)))) (h := (mSH, (mUp (mUp I 5 ((I 4 1).toNatClampNeg) ((ro 0).2 1)) 4 1 ((I 4 1) + 1)), L)) rfl (mRet_int rfl) ?_
      show mWP mTb_ mFT ro (11, 163, 188, [some (.ref 1000), some (.ref 0), some (.ref 34), some (.int 0)], [.int (((I 4 1) + 1) - 1)], 62, 3336, (mSH, (mUp (mUp I 5 ((I 4 1).toNatClampNeg) ((ro 0).2 1)) 4 1 ((I 4 1) + 1)), L)) _
      refine mB 5 (s2 := (11, 163, 193, [some (.ref 1000), some (.ref 0), some (.ref 34), some (.int 0)], [.int 1, .ref 1000, .ref 34, .int (((I 4 1) + 1) - 1)], 62, 3336, (mSH, (mUp (mUp I 5 ((I 4 1).toNatClampNeg) ((ro 0).2 1)) 4 1 ((I 4 1) + 1)), L))) rfl ?_
      refine mRq (s2 := (11, 163, 194, [some (.ref 1000), some (.ref 0), some (.ref 34), some (.int 0)], [.int ((ro 0).2 1), .ref 34, .int (((I 4 1) + 1) - 1)], 62, 3336, (mSH, (mUp (mUp I 5 ((I 4 1).toNatClampNeg) ((ro 0).2 1)) 4 1 ((I 4 1) + 1)), L))) rfl (by first | (simp only [f0_9, f0_10, f0_11, f1_2, f2_1, f4_1, f6_0, f6_1, f6_2, f6_3, f7_0, f7_1, f7_2, f7_3, f9_0, f9_1, f9_2, f25_0, f25_1, f26_1, f30_1, f32_1, f34_1, f34_3, f34_4, f34_11, f37_0, f37_1, f37_2, f37_3, f38_0, f38_1, f38_2, f39_0, f39_1, f39_2, f41_0, f41_1, f41_2, f41_3, f41_4, f41_5, g34_7, g34_8, hro0, hro1, hro1_0, hro1_1, hro1_2, hro2, hro2_0, hro2_1, hro2_2, hro13, mTn0, mTn1, mTn2, mTn10]; first | decide | rfl) | decide | rfl) ?_
      refine mCall (s2 := (10, 117, 0, [some (.ref 34), some (.int ((ro 0).2 1))], [], 0, 0, (mSH, (mUp (mUp I 5 ((I 4 1).toNatClampNeg) ((ro 0).2 1)) 4 1 ((I 4 1) + 1)), L))) rfl ?_
      refine mB 3 (s2 := (10, 117, 4, [some (.ref 34), some (.int ((ro 0).2 1))], [.int 99, .int 1, .int ((ro 0).2 1)], 0, 0, (mSH, (mUp (mUp I 5 ((I 4 1).toNatClampNeg) ((ro 0).2 1)) 4 1 ((I 4 1) + 1)), L))) rfl ?_
      refine mCall (s2 := (9, 112, 0, [some (.int ((ro 0).2 1)), some (.int 1), some (.int 99)], [], 0, 0, (mSH, (mUp (mUp I 5 ((I 4 1).toNatClampNeg) ((ro 0).2 1)) 4 1 ((I 4 1) + 1)), L))) rfl ?_
      refine mB 2 (s2 := (9, 112, 2, [some (.int ((ro 0).2 1)), some (.int 1), some (.int 99)], [.int 1, .int ((ro 0).2 1)], 0, 0, (mSH, (mUp (mUp I 5 ((I 4 1).toNatClampNeg) ((ro 0).2 1)) 4 1 ((I 4 1) + 1)), L))) rfl ?_
      refine mBF (s3 := (9, 112, 5, [some (.int ((ro 0).2 1)), some (.int 1), some (.int 99)], [], 0, 0, (mSH, (mUp (mUp I 5 ((I 4 1).toNatClampNeg) ((ro 0).2 1)) 4 1 ((I 4 1) + 1)), L))) rfl (decide_eq_false (by
        have a0 := of_decide_eq_false c0
        have a1 := of_decide_eq_false c1
        simp only [f0_9, f0_10, f0_11, f1_2, f2_1, f4_1, f6_0, f6_1, f6_2, f6_3, f7_0, f7_1, f7_2, f7_3, f9_0, f9_1, f9_2, f25_0, f25_1, f26_1, f30_1, f32_1, f34_1, f34_3, f34_4, f34_11, f37_0, f37_1, f37_2, f37_3, f38_0, f38_1, f38_2, f39_0, f39_1, f39_2, f41_0, f41_1, f41_2, f41_3, f41_4, f41_5, g34_7, g34_8, hro0, hro1, hro1_0, hro1_1, hro1_2, hro2, hro2_0, hro2_1, hro2_2, hro13, mTn0, mTn1, mTn2, mTn10, Int32.lt_iff_toInt_lt, Int32.le_iff_toInt_le, ← Int32.toInt_inj, mLi0, mLi1, mLi2, mLi3, mLi4, mLi5, mLi6, mLi7, mLi8, mLi9, mLi16, mLi99, mLi120, mLi127, mLi1584, mLi999999, mLim] at a0 a1 ⊢
        omega)) ?_
      refine mB 2 (s2 := (9, 112, 7, [some (.int ((ro 0).2 1)), some (.int 1), some (.int 99)], [.int 99, .int ((ro 0).2 1)], 0, 0, (mSH, (mUp (mUp I 5 ((I 4 1).toNatClampNeg) ((ro 0).2 1)) 4 1 ((I 4 1) + 1)), L))) rfl ?_
      refine mBF (s3 := (9, 112, 10, [some (.int ((ro 0).2 1)), some (.int 1), some (.int 99)], [], 0, 0, (mSH, (mUp (mUp I 5 ((I 4 1).toNatClampNeg) ((ro 0).2 1)) 4 1 ((I 4 1) + 1)), L))) rfl (decide_eq_false (by
        have a0 := of_decide_eq_false c0
        have a1 := of_decide_eq_false c1
        simp only [f0_9, f0_10, f0_11, f1_2, f2_1, f4_1, f6_0, f6_1, f6_2, f6_3, f7_0, f7_1, f7_2, f7_3, f9_0, f9_1, f9_2, f25_0, f25_1, f26_1, f30_1, f32_1, f34_1, f34_3, f34_4, f34_11, f37_0, f37_1, f37_2, f37_3, f38_0, f38_1, f38_2, f39_0, f39_1, f39_2, f41_0, f41_1, f41_2, f41_3, f41_4, f41_5, g34_7, g34_8, hro0, hro1, hro1_0, hro1_1, hro1_2, hro2, hro2_0, hro2_1, hro2_2, hro13, mTn0, mTn1, mTn2, mTn10, Int32.lt_iff_toInt_lt, Int32.le_iff_toInt_le, ← Int32.toInt_inj, mLi0, mLi1, mLi2, mLi3, mLi4, mLi5, mLi6, mLi7, mLi8, mLi9, mLi16, mLi99, mLi120, mLi127, mLi1584, mLi999999, mLim] at a0 a1 ⊢
        omega)) ?_
      refine mB 2 (s2 := (9, 112, 15, [some (.int ((ro 0).2 1)), some (.int 1), some (.int 99)], [.int 1], 0, 0, (mSH, (mUp (mUp I 5 ((I 4 1).toNatClampNeg) ((ro 0).2 1)) 4 1 ((I 4 1) + 1)), L))) rfl ?_
      refine mRt (r := (some (.int 1))) (h := (mSH, (mUp (mUp I 5 ((I 4 1).toNatClampNeg) ((ro 0).2 1)) 4 1 ((I 4 1) + 1)), L)) rfl rfl ?_
      show mWP mTb_ mFT ro (10, 117, 7, [some (.ref 34), some (.int ((ro 0).2 1))], [.int 1], 0, 0, (mSH, (mUp (mUp I 5 ((I 4 1).toNatClampNeg) ((ro 0).2 1)) 4 1 ((I 4 1) + 1)), L)) _
      refine mBF (s3 := (10, 117, 17, [some (.ref 34), some (.int ((ro 0).2 1))], [], 0, 0, (mSH, (mUp (mUp I 5 ((I 4 1).toNatClampNeg) ((ro 0).2 1)) 4 1 ((I 4 1) + 1)), L))) rfl (by decide) ?_
      refine mB 3 (s2 := (10, 117, 23, [some (.ref 34), some (.int ((ro 0).2 1))], [.int 8, .int (I 34 3)], 0, 0, (mSH, (mUp (mUp I 5 ((I 4 1).toNatClampNeg) ((ro 0).2 1)) 4 1 ((I 4 1) + 1)), L))) rfl ?_
      refine mBF (s3 := (10, 117, 33, [some (.ref 34), some (.int ((ro 0).2 1))], [], 0, 0, (mSH, (mUp (mUp I 5 ((I 4 1).toNatClampNeg) ((ro 0).2 1)) 4 1 ((I 4 1) + 1)), L))) rfl (by first | (simp only [f0_9, f0_10, f0_11, f1_2, f2_1, f4_1, f6_0, f6_1, f6_2, f6_3, f7_0, f7_1, f7_2, f7_3, f9_0, f9_1, f9_2, f25_0, f25_1, f26_1, f30_1, f32_1, f34_1, f34_3, f34_4, f34_11, f37_0, f37_1, f37_2, f37_3, f38_0, f38_1, f38_2, f39_0, f39_1, f39_2, f41_0, f41_1, f41_2, f41_3, f41_4, f41_5, g34_7, g34_8, hro0, hro1, hro1_0, hro1_1, hro1_2, hro2, hro2_0, hro2_1, hro2_2, hro13, mTn0, mTn1, mTn2, mTn10]; first | decide | rfl) | decide | rfl) ?_
      refine mB 5 (s2 := (10, 117, 42, [some (.ref 34), some (.int ((ro 0).2 1))], [.int ((ro 0).2 1), .int (I 34 3), .ref 36], 0, 0, (mSH, (mUp (mUp I 5 ((I 4 1).toNatClampNeg) ((ro 0).2 1)) 4 1 ((I 4 1) + 1)), L))) rfl ?_
      refine mRq (s2 := (10, 117, 43, [some (.ref 34), some (.int ((ro 0).2 1))], [], 0, 0, (mSH, (mUp (mUp (mUp I 5 ((I 4 1).toNatClampNeg) ((ro 0).2 1)) 4 1 ((I 4 1) + 1)) 36 ((I 34 3).toNatClampNeg) ((ro 0).2 1)), L))) rfl (by first | (simp only [f0_9, f0_10, f0_11, f1_2, f2_1, f4_1, f6_0, f6_1, f6_2, f6_3, f7_0, f7_1, f7_2, f7_3, f9_0, f9_1, f9_2, f25_0, f25_1, f26_1, f30_1, f32_1, f34_1, f34_3, f34_4, f34_11, f37_0, f37_1, f37_2, f37_3, f38_0, f38_1, f38_2, f39_0, f39_1, f39_2, f41_0, f41_1, f41_2, f41_3, f41_4, f41_5, g34_7, g34_8, hro0, hro1, hro1_0, hro1_1, hro1_2, hro2, hro2_0, hro2_1, hro2_2, hro13, mTn0, mTn1, mTn2, mTn10]; first | decide | rfl) | decide | rfl) ?_
      refine mB 10 (s2 := (10, 117, 59, [some (.ref 34), some (.int ((ro 0).2 1))], [.int (((I 34 3) + 1) - 1)], 0, 0, (mSH, (mUp (mUp (mUp (mUp I 5 ((I 4 1).toNatClampNeg) ((ro 0).2 1)) 4 1 ((I 4 1) + 1)) 36 ((I 34 3).toNatClampNeg) ((ro 0).2 1)) 34 3 ((I 34 3) + 1)), L))) rfl ?_
      refine mRt (r := (some (.int (((I 34 3) + 1) - 1)))) (h := (mSH, (mUp (mUp (mUp (mUp I 5 ((I 4 1).toNatClampNeg) ((ro 0).2 1)) 4 1 ((I 4 1) + 1)) 36 ((I 34 3).toNatClampNeg) ((ro 0).2 1)) 34 3 ((I 34 3) + 1)), L)) rfl (mRet_int rfl) ?_
      show mWP mTb_ mFT ro (11, 163, 197, [some (.ref 1000), some (.ref 0), some (.ref 34), some (.int 0)], [.int (((I 34 3) + 1) - 1), .int (((I 4 1) + 1) - 1)], 62, 3336, (mSH, (mUp (mUp (mUp (mUp I 5 ((I 4 1).toNatClampNeg) ((ro 0).2 1)) 4 1 ((I 4 1) + 1)) 36 ((I 34 3).toNatClampNeg) ((ro 0).2 1)) 34 3 ((I 34 3) + 1)), L)) _
      refine mBT (s2 := (11, 163, 808, [some (.ref 1000), some (.ref 0), some (.ref 34), some (.int 0)], [], 62, 3336, (mSH, (mUp (mUp (mUp (mUp I 5 ((I 4 1).toNatClampNeg) ((ro 0).2 1)) 4 1 ((I 4 1) + 1)) 36 ((I 34 3).toNatClampNeg) ((ro 0).2 1)) 34 3 ((I 34 3) + 1)), L))) rfl (by first | (simp only [f0_9, f0_10, f0_11, f1_2, f2_1, f4_1, f6_0, f6_1, f6_2, f6_3, f7_0, f7_1, f7_2, f7_3, f9_0, f9_1, f9_2, f25_0, f25_1, f26_1, f30_1, f32_1, f34_1, f34_3, f34_4, f34_11, f37_0, f37_1, f37_2, f37_3, f38_0, f38_1, f38_2, f39_0, f39_1, f39_2, f41_0, f41_1, f41_2, f41_3, f41_4, f41_5, g34_7, g34_8, hro0, hro1, hro1_0, hro1_1, hro1_2, hro2, hro2_0, hro2_1, hro2_2, hro13, mTn0, mTn1, mTn2, mTn10]; first | decide | rfl) | decide | rfl) ?_
      exact h3 (of_decide_eq_false c0) (of_decide_eq_false c1)
theorem p1_points {ro : Nat → Nat × (Nat → Int32)} {Q : mPo} {I : Nat → Nat → Int32} {L : Nat → Nat → Int64} (hF : mFF I L) (hR : mRO ro) (h1 : (((ro 0).2 1) = 0) → mWP mTb_ mFT ro (11, 163, 808, [some (.ref 1000), some (.ref 0), some (.ref 34), some (.int 0)], [], 62, 3336, (mSH, (mUp (mUp I 1 2 ((ro 0).2 1)) 34 4 ((ro 0).2 1)), L)) Q) (h2 : ¬ (((ro 0).2 1) = 0) → (((ro 0).2 1) = 1) → mWP mTb_ mFT ro (11, 163, 808, [some (.ref 1000), some (.ref 0), some (.ref 34), some (.int 0)], [], 62, 3336, (mSH, (mUp (mUp I 1 2 ((ro 0).2 1)) 34 4 ((ro 0).2 1)), L)) Q) (h3 : ¬ (((ro 0).2 1) = 0) → ¬ (((ro 0).2 1) = 1) → (((ro 0).2 1) < 0) → mWP mTb_ mFT ro (11, 163, 808, [some (.ref 1000), some (.ref 0), some (.ref 34), some (.int 0)], [], 62, 3336, (mSH, (mUp (mUp I 0 9 ((I 0 9) + 1)) 39 0 ((I 39 0) + 1)), L)) Q) (h4 : ¬ (((ro 0).2 1) = 0) → ¬ (((ro 0).2 1) = 1) → ¬ (((ro 0).2 1) < 0) → mWP mTb_ mFT ro (11, 163, 808, [some (.ref 1000), some (.ref 0), some (.ref 34), some (.int 0)], [], 62, 3336, (mSH, (mUp (mUp I 0 9 ((I 0 9) + 1)) 39 0 ((I 39 0) + 1)), L)) Q) : mWP mTb_ mFT ro (11, 163, 202, [some (.ref 1000), some (.ref 0), some (.ref 34), some (.int 0)], [], 62, 3336, (mSH, I, L)) Q := by
  obtain ⟨f0_9, f0_10, f0_11, f1_2, f2_1, f4_1, f6_0, f6_1, f6_2, f6_3, f7_0, f7_1, f7_2, f7_3, f9_0, f9_1, f9_2, f25_0, f25_1, f26_1, f30_1, f32_1, f34_1, f34_3, f34_4, f34_11, f37_0, f37_1, f37_2, f37_3, f38_0, f38_1, f38_2, f39_0, f39_1, f39_2, f41_0, f41_1, f41_2, f41_3, f41_4, f41_5, g34_7, g34_8⟩ := hF
  obtain ⟨hro0, hro1, hro1_0, hro1_1, hro1_2, hro2, hro2_0, hro2_1, hro2_2, hro13⟩ := hR
  refine mB 5 (s2 := (11, 163, 207, [some (.ref 1000), some (.ref 0), some (.ref 34), some (.int 0)], [.int 1, .ref 1000, .ref 0], 62, 3336, (mSH, I, L))) rfl ?_
  refine mRq (s2 := (11, 163, 208, [some (.ref 1000), some (.ref 0), some (.ref 34), some (.int 0)], [.int ((ro 0).2 1), .ref 0], 62, 3336, (mSH, I, L))) rfl (by first | (simp only [f0_9, f0_10, f0_11, f1_2, f2_1, f4_1, f6_0, f6_1, f6_2, f6_3, f7_0, f7_1, f7_2, f7_3, f9_0, f9_1, f9_2, f25_0, f25_1, f26_1, f30_1, f32_1, f34_1, f34_3, f34_4, f34_11, f37_0, f37_1, f37_2, f37_3, f38_0, f38_1, f38_2, f39_0, f39_1, f39_2, f41_0, f41_1, f41_2, f41_3, f41_4, f41_5, g34_7, g34_8, hro0, hro1, hro1_0, hro1_1, hro1_2, hro2, hro2_0, hro2_1, hro2_2, hro13, mTn0, mTn1, mTn2, mTn10]; first | decide | rfl) | decide | rfl) ?_
  refine mCall (s2 := (10, 78, 0, [some (.ref 0), some (.int ((ro 0).2 1)), none], [], 0, 0, (mSH, I, L))) rfl ?_
  refine mB 1 (s2 := (10, 78, 1, [some (.ref 0), some (.int ((ro 0).2 1)), none], [.int ((ro 0).2 1)], 0, 0, (mSH, I, L))) rfl ?_
  refine mCall (s2 := (9, 108, 0, [some (.int ((ro 0).2 1))], [], 0, 0, (mSH, I, L))) rfl ?_
  refine mB 1 (s2 := (9, 108, 1, [some (.int ((ro 0).2 1))], [.int ((ro 0).2 1)], 0, 0, (mSH, I, L))) rfl ?_
  refine mBr (s2 := (9, 108, 9, [some (.int ((ro 0).2 1))], [], 0, 0, (mSH, I, L))) (s3 := (9, 108, 4, [some (.int ((ro 0).2 1))], [], 0, 0, (mSH, I, L))) rfl (fun c0 => ?_) (fun c0 => ?_)
  · refine mB 2 (s2 := (9, 108, 14, [some (.int ((ro 0).2 1))], [.int 1], 0, 0, (mSH, I, L))) rfl ?_
    refine mRt (r := (some (.int 1))) (h := (mSH, I, L)) rfl rfl ?_
    show mWP mTb_ mFT ro (10, 78, 4, [some (.ref 0), some (.int ((ro 0).2 1)), none], [.int 1], 0, 0, (mSH, I, L)) _
    refine mBF (s3 := (10, 78, 14, [some (.ref 0), some (.int ((ro 0).2 1)), none], [], 0, 0, (mSH, I, L))) rfl (by decide) ?_
    refine mB 9 (s2 := (10, 78, 31, [some (.ref 0), some (.int ((ro 0).2 1)), some (.int (I 1 2))], [.int (I 1 2)], 0, 0, (mSH, (mUp I 1 2 ((ro 0).2 1)), L))) rfl ?_
    refine mRt (r := (some (.int (I 1 2)))) (h := (mSH, (mUp I 1 2 ((ro 0).2 1)), L)) rfl (mRet_int rfl) ?_
    show mWP mTb_ mFT ro (11, 163, 211, [some (.ref 1000), some (.ref 0), some (.ref 34), some (.int 0)], [.int (I 1 2)], 62, 3336, (mSH, (mUp I 1 2 ((ro 0).2 1)), L)) _
    refine mB 5 (s2 := (11, 163, 216, [some (.ref 1000), some (.ref 0), some (.ref 34), some (.int 0)], [.int 1, .ref 1000, .ref 34, .int (I 1 2)], 62, 3336, (mSH, (mUp I 1 2 ((ro 0).2 1)), L))) rfl ?_
    refine mRq (s2 := (11, 163, 217, [some (.ref 1000), some (.ref 0), some (.ref 34), some (.int 0)], [.int ((ro 0).2 1), .ref 34, .int (I 1 2)], 62, 3336, (mSH, (mUp I 1 2 ((ro 0).2 1)), L))) rfl (by first | (simp only [f0_9, f0_10, f0_11, f1_2, f2_1, f4_1, f6_0, f6_1, f6_2, f6_3, f7_0, f7_1, f7_2, f7_3, f9_0, f9_1, f9_2, f25_0, f25_1, f26_1, f30_1, f32_1, f34_1, f34_3, f34_4, f34_11, f37_0, f37_1, f37_2, f37_3, f38_0, f38_1, f38_2, f39_0, f39_1, f39_2, f41_0, f41_1, f41_2, f41_3, f41_4, f41_5, g34_7, g34_8, hro0, hro1, hro1_0, hro1_1, hro1_2, hro2, hro2_0, hro2_1, hro2_2, hro13, mTn0, mTn1, mTn2, mTn10, of_decide_eq_true c0]; first | decide | rfl) | decide | rfl) ?_
    refine mCall (s2 := (10, 118, 0, [some (.ref 34), some (.int ((ro 0).2 1)), none], [], 0, 0, (mSH, (mUp I 1 2 ((ro 0).2 1)), L))) rfl ?_
    refine mB 3 (s2 := (10, 118, 3, [some (.ref 34), some (.int ((ro 0).2 1)), none], [.int 1, .int 0, .int ((ro 0).2 1)], 0, 0, (mSH, (mUp I 1 2 ((ro 0).2 1)), L))) rfl ?_
    refine mCall (s2 := (9, 112, 0, [some (.int ((ro 0).2 1)), some (.int 0), some (.int 1)], [], 0, 0, (mSH, (mUp I 1 2 ((ro 0).2 1)), L))) rfl ?_
    refine mB 2 (s2 := (9, 112, 2, [some (.int ((ro 0).2 1)), some (.int 0), some (.int 1)], [.int 0, .int ((ro 0).2 1)], 0, 0, (mSH, (mUp I 1 2 ((ro 0).2 1)), L))) rfl ?_
    refine mBF (s3 := (9, 112, 5, [some (.int ((ro 0).2 1)), some (.int 0), some (.int 1)], [], 0, 0, (mSH, (mUp I 1 2 ((ro 0).2 1)), L))) rfl (by first | (simp only [f0_9, f0_10, f0_11, f1_2, f2_1, f4_1, f6_0, f6_1, f6_2, f6_3, f7_0, f7_1, f7_2, f7_3, f9_0, f9_1, f9_2, f25_0, f25_1, f26_1, f30_1, f32_1, f34_1, f34_3, f34_4, f34_11, f37_0, f37_1, f37_2, f37_3, f38_0, f38_1, f38_2, f39_0, f39_1, f39_2, f41_0, f41_1, f41_2, f41_3, f41_4, f41_5, g34_7, g34_8, hro0, hro1, hro1_0, hro1_1, hro1_2, hro2, hro2_0, hro2_1, hro2_2, hro13, mTn0, mTn1, mTn2, mTn10, of_decide_eq_true c0]; first | decide | rfl) | decide | rfl) ?_
    refine mB 2 (s2 := (9, 112, 7, [some (.int ((ro 0).2 1)), some (.int 0), some (.int 1)], [.int 1, .int ((ro 0).2 1)], 0, 0, (mSH, (mUp I 1 2 ((ro 0).2 1)), L))) rfl ?_
    refine mBF (s3 := (9, 112, 10, [some (.int ((ro 0).2 1)), some (.int 0), some (.int 1)], [], 0, 0, (mSH, (mUp I 1 2 ((ro 0).2 1)), L))) rfl (by first | (simp only [f0_9, f0_10, f0_11, f1_2, f2_1, f4_1, f6_0, f6_1, f6_2, f6_3, f7_0, f7_1, f7_2, f7_3, f9_0, f9_1, f9_2, f25_0, f25_1, f26_1, f30_1, f32_1, f34_1, f34_3, f34_4, f34_11, f37_0, f37_1, f37_2, f37_3, f38_0, f38_1, f38_2, f39_0, f39_1, f39_2, f41_0, f41_1, f41_2, f41_3, f41_4, f41_5, g34_7, g34_8, hro0, hro1, hro1_0, hro1_1, hro1_2, hro2, hro2_0, hro2_1, hro2_2, hro13, mTn0, mTn1, mTn2, mTn10, of_decide_eq_true c0]; first | decide | rfl) | decide | rfl) ?_
    refine mB 2 (s2 := (9, 112, 15, [some (.int ((ro 0).2 1)), some (.int 0), some (.int 1)], [.int 1], 0, 0, (mSH, (mUp I 1 2 ((ro 0).2 1)), L))) rfl ?_
    refine mRt (r := (some (.int 1))) (h := (mSH, (mUp I 1 2 ((ro 0).2 1)), L)) rfl rfl ?_
    show mWP mTb_ mFT ro (10, 118, 6, [some (.ref 34), some (.int ((ro 0).2 1)), none], [.int 1], 0, 0, (mSH, (mUp I 1 2 ((ro 0).2 1)), L)) _
    refine mBF (s3 := (10, 118, 16, [some (.ref 34), some (.int ((ro 0).2 1)), none], [], 0, 0, (mSH, (mUp I 1 2 ((ro 0).2 1)), L))) rfl (by decide) ?_
    refine mB 7 (s2 := (10, 118, 27, [some (.ref 34), some (.int ((ro 0).2 1)), some (.int (I 34 4))], [.int (I 34 4)], 0, 0, (mSH, (mUp (mUp I 1 2 ((ro 0).2 1)) 34 4 ((ro 0).2 1)), L))) rfl ?_
    refine mRt (r := (some (.int (I 34 4)))) (h := (mSH, (mUp (mUp I 1 2 ((ro 0).2 1)) 34 4 ((ro 0).2 1)), L)) rfl (mRet_int rfl) ?_
    show mWP mTb_ mFT ro (11, 163, 220, [some (.ref 1000), some (.ref 0), some (.ref 34), some (.int 0)], [.int (I 34 4), .int (I 1 2)], 62, 3336, (mSH, (mUp (mUp I 1 2 ((ro 0).2 1)) 34 4 ((ro 0).2 1)), L)) _
    refine mBT (s2 := (11, 163, 808, [some (.ref 1000), some (.ref 0), some (.ref 34), some (.int 0)], [], 62, 3336, (mSH, (mUp (mUp I 1 2 ((ro 0).2 1)) 34 4 ((ro 0).2 1)), L))) rfl (by first | (simp only [f0_9, f0_10, f0_11, f1_2, f2_1, f4_1, f6_0, f6_1, f6_2, f6_3, f7_0, f7_1, f7_2, f7_3, f9_0, f9_1, f9_2, f25_0, f25_1, f26_1, f30_1, f32_1, f34_1, f34_3, f34_4, f34_11, f37_0, f37_1, f37_2, f37_3, f38_0, f38_1, f38_2, f39_0, f39_1, f39_2, f41_0, f41_1, f41_2, f41_3, f41_4, f41_5, g34_7, g34_8, hro0, hro1, hro1_0, hro1_1, hro1_2, hro2, hro2_0, hro2_1, hro2_2, hro13, mTn0, mTn1, mTn2, mTn10, of_decide_eq_true c0]; first | decide | rfl) | decide | rfl) ?_
    exact h1 (of_decide_eq_true c0)
  · refine mB 2 (s2 := (9, 108, 6, [some (.int ((ro 0).2 1))], [.int 1, .int ((ro 0).2 1)], 0, 0, (mSH, I, L))) rfl ?_
    refine mBr (s2 := (9, 108, 9, [some (.int ((ro 0).2 1))], [], 0, 0, (mSH, I, L))) (s3 := (9, 108, 13, [some (.int ((ro 0).2 1))], [], 0, 0, (mSH, I, L))) rfl (fun c1 => ?_) (fun c1 => ?_)
    · refine mB 2 (s2 := (9, 108, 14, [some (.int ((ro 0).2 1))], [.int 1], 0, 0, (mSH, I, L))) rfl ?_
      refine mRt (r := (some (.int 1))) (h := (mSH, I, L)) rfl rfl ?_
      show mWP mTb_ mFT ro (10, 78, 4, [some (.ref 0), some (.int ((ro 0).2 1)), none], [.int 1], 0, 0, (mSH, I, L)) _
      refine mBF (s3 := (10, 78, 14, [some (.ref 0), some (.int ((ro 0).2 1)), none], [], 0, 0, (mSH, I, L))) rfl (by decide) ?_
      refine mB 9 (s2 := (10, 78, 31, [some (.ref 0), some (.int ((ro 0).2 1)), some (.int (I 1 2))], [.int (I 1 2)], 0, 0, (mSH, (mUp I 1 2 ((ro 0).2 1)), L))) rfl ?_
      refine mRt (r := (some (.int (I 1 2)))) (h := (mSH, (mUp I 1 2 ((ro 0).2 1)), L)) rfl (mRet_int rfl) ?_
      show mWP mTb_ mFT ro (11, 163, 211, [some (.ref 1000), some (.ref 0), some (.ref 34), some (.int 0)], [.int (I 1 2)], 62, 3336, (mSH, (mUp I 1 2 ((ro 0).2 1)), L)) _
      refine mB 5 (s2 := (11, 163, 216, [some (.ref 1000), some (.ref 0), some (.ref 34), some (.int 0)], [.int 1, .ref 1000, .ref 34, .int (I 1 2)], 62, 3336, (mSH, (mUp I 1 2 ((ro 0).2 1)), L))) rfl ?_
      refine mRq (s2 := (11, 163, 217, [some (.ref 1000), some (.ref 0), some (.ref 34), some (.int 0)], [.int ((ro 0).2 1), .ref 34, .int (I 1 2)], 62, 3336, (mSH, (mUp I 1 2 ((ro 0).2 1)), L))) rfl (by first | (simp only [f0_9, f0_10, f0_11, f1_2, f2_1, f4_1, f6_0, f6_1, f6_2, f6_3, f7_0, f7_1, f7_2, f7_3, f9_0, f9_1, f9_2, f25_0, f25_1, f26_1, f30_1, f32_1, f34_1, f34_3, f34_4, f34_11, f37_0, f37_1, f37_2, f37_3, f38_0, f38_1, f38_2, f39_0, f39_1, f39_2, f41_0, f41_1, f41_2, f41_3, f41_4, f41_5, g34_7, g34_8, hro0, hro1, hro1_0, hro1_1, hro1_2, hro2, hro2_0, hro2_1, hro2_2, hro13, mTn0, mTn1, mTn2, mTn10, of_decide_eq_true c1]; first | decide | rfl) | decide | rfl) ?_
      refine mCall (s2 := (10, 118, 0, [some (.ref 34), some (.int ((ro 0).2 1)), none], [], 0, 0, (mSH, (mUp I 1 2 ((ro 0).2 1)), L))) rfl ?_
      refine mB 3 (s2 := (10, 118, 3, [some (.ref 34), some (.int ((ro 0).2 1)), none], [.int 1, .int 0, .int ((ro 0).2 1)], 0, 0, (mSH, (mUp I 1 2 ((ro 0).2 1)), L))) rfl ?_
      refine mCall (s2 := (9, 112, 0, [some (.int ((ro 0).2 1)), some (.int 0), some (.int 1)], [], 0, 0, (mSH, (mUp I 1 2 ((ro 0).2 1)), L))) rfl ?_
      refine mB 2 (s2 := (9, 112, 2, [some (.int ((ro 0).2 1)), some (.int 0), some (.int 1)], [.int 0, .int ((ro 0).2 1)], 0, 0, (mSH, (mUp I 1 2 ((ro 0).2 1)), L))) rfl ?_
      refine mBF (s3 := (9, 112, 5, [some (.int ((ro 0).2 1)), some (.int 0), some (.int 1)], [], 0, 0, (mSH, (mUp I 1 2 ((ro 0).2 1)), L))) rfl (by first | (simp only [f0_9, f0_10, f0_11, f1_2, f2_1, f4_1, f6_0, f6_1, f6_2, f6_3, f7_0, f7_1, f7_2, f7_3, f9_0, f9_1, f9_2, f25_0, f25_1, f26_1, f30_1, f32_1, f34_1, f34_3, f34_4, f34_11, f37_0, f37_1, f37_2, f37_3, f38_0, f38_1, f38_2, f39_0, f39_1, f39_2, f41_0, f41_1, f41_2, f41_3, f41_4, f41_5, g34_7, g34_8, hro0, hro1, hro1_0, hro1_1, hro1_2, hro2, hro2_0, hro2_1, hro2_2, hro13, mTn0, mTn1, mTn2, mTn10, of_decide_eq_true c1]; first | decide | rfl) | decide | rfl) ?_
      refine mB 2 (s2 := (9, 112, 7, [some (.int ((ro 0).2 1)), some (.int 0), some (.int 1)], [.int 1, .int ((ro 0).2 1)], 0, 0, (mSH, (mUp I 1 2 ((ro 0).2 1)), L))) rfl ?_
      refine mBF (s3 := (9, 112, 10, [some (.int ((ro 0).2 1)), some (.int 0), some (.int 1)], [], 0, 0, (mSH, (mUp I 1 2 ((ro 0).2 1)), L))) rfl (by first | (simp only [f0_9, f0_10, f0_11, f1_2, f2_1, f4_1, f6_0, f6_1, f6_2, f6_3, f7_0, f7_1, f7_2, f7_3, f9_0, f9_1, f9_2, f25_0, f25_1, f26_1, f30_1, f32_1, f34_1, f34_3, f34_4, f34_11, f37_0, f37_1, f37_2, f37_3, f38_0, f38_1, f38_2, f39_0, f39_1, f39_2, f41_0, f41_1, f41_2, f41_3, f41_4, f41_5, g34_7, g34_8, hro0, hro1, hro1_0, hro1_1, hro1_2, hro2, hro2_0, hro2_1, hro2_2, hro13, mTn0, mTn1, mTn2, mTn10, of_decide_eq_true c1]; first | decide | rfl) | decide | rfl) ?_
      refine mB 2 (s2 := (9, 112, 15, [some (.int ((ro 0).2 1)), some (.int 0), some (.int 1)], [.int 1], 0, 0, (mSH, (mUp I 1 2 ((ro 0).2 1)), L))) rfl ?_
      refine mRt (r := (some (.int 1))) (h := (mSH, (mUp I 1 2 ((ro 0).2 1)), L)) rfl rfl ?_
      show mWP mTb_ mFT ro (10, 118, 6, [some (.ref 34), some (.int ((ro 0).2 1)), none], [.int 1], 0, 0, (mSH, (mUp I 1 2 ((ro 0).2 1)), L)) _
      refine mBF (s3 := (10, 118, 16, [some (.ref 34), some (.int ((ro 0).2 1)), none], [], 0, 0, (mSH, (mUp I 1 2 ((ro 0).2 1)), L))) rfl (by decide) ?_
      refine mB 7 (s2 := (10, 118, 27, [some (.ref 34), some (.int ((ro 0).2 1)), some (.int (I 34 4))], [.int (I 34 4)], 0, 0, (mSH, (mUp (mUp I 1 2 ((ro 0).2 1)) 34 4 ((ro 0).2 1)), L))) rfl ?_
      refine mRt (r := (some (.int (I 34 4)))) (h := (mSH, (mUp (mUp I 1 2 ((ro 0).2 1)) 34 4 ((ro 0).2 1)), L)) rfl (mRet_int rfl) ?_
      show mWP mTb_ mFT ro (11, 163, 220, [some (.ref 1000), some (.ref 0), some (.ref 34), some (.int 0)], [.int (I 34 4), .int (I 1 2)], 62, 3336, (mSH, (mUp (mUp I 1 2 ((ro 0).2 1)) 34 4 ((ro 0).2 1)), L)) _
      refine mBT (s2 := (11, 163, 808, [some (.ref 1000), some (.ref 0), some (.ref 34), some (.int 0)], [], 62, 3336, (mSH, (mUp (mUp I 1 2 ((ro 0).2 1)) 34 4 ((ro 0).2 1)), L))) rfl (by first | (simp only [f0_9, f0_10, f0_11, f1_2, f2_1, f4_1, f6_0, f6_1, f6_2, f6_3, f7_0, f7_1, f7_2, f7_3, f9_0, f9_1, f9_2, f25_0, f25_1, f26_1, f30_1, f32_1, f34_1, f34_3, f34_4, f34_11, f37_0, f37_1, f37_2, f37_3, f38_0, f38_1, f38_2, f39_0, f39_1, f39_2, f41_0, f41_1, f41_2, f41_3, f41_4, f41_5, g34_7, g34_8, hro0, hro1, hro1_0, hro1_1, hro1_2, hro2, hro2_0, hro2_1, hro2_2, hro13, mTn0, mTn1, mTn2, mTn10, of_decide_eq_true c1]; first | decide | rfl) | decide | rfl) ?_
      exact h2 (of_decide_eq_false c0) (of_decide_eq_true c1)
    · refine mB 1 (s2 := (9, 108, 14, [some (.int ((ro 0).2 1))], [.int 0], 0, 0, (mSH, I, L))) rfl ?_
      refine mRt (r := (some (.int 0))) (h := (mSH, I, L)) rfl rfl ?_
      show mWP mTb_ mFT ro (10, 78, 4, [some (.ref 0), some (.int ((ro 0).2 1)), none], [.int 0], 0, 0, (mSH, I, L)) _
      refine mBT (s2 := (10, 78, 7, [some (.ref 0), some (.int ((ro 0).2 1)), none], [], 0, 0, (mSH, I, L))) rfl (by decide) ?_
      refine mB 2 (s2 := (10, 78, 10, [some (.ref 0), some (.int ((ro 0).2 1)), none], [.int (-2), .ref 0], 0, 0, (mSH, I, L))) rfl ?_
      refine mCall (s2 := (9, 103, 0, [some (.ref 0), some (.int (-2))], [], 0, 0, (mSH, I, L))) rfl ?_
      refine mB 2 (s2 := (9, 103, 3, [some (.ref 0), some (.int (-2))], [.int (-2), .int (-2)], 0, 0, (mSH, I, L))) rfl ?_
      refine mBT (s2 := (9, 103, 6, [some (.ref 0), some (.int (-2))], [], 0, 0, (mSH, I, L))) rfl (by decide) ?_
      refine mB 8 (s2 := (9, 103, 49, [some (.ref 0), some (.int (-2))], [.int (-2)], 0, 0, (mSH, (mUp I 0 9 ((I 0 9) + 1)), L))) rfl ?_
      refine mRt (r := (some (.int (-2)))) (h := (mSH, (mUp I 0 9 ((I 0 9) + 1)), L)) rfl (mRet_int rfl) ?_
      show mWP mTb_ mFT ro (10, 78, 13, [some (.ref 0), some (.int ((ro 0).2 1)), none], [.int (-2)], 0, 0, (mSH, (mUp I 0 9 ((I 0 9) + 1)), L)) _
      refine mRt (r := (some (.int (-2)))) (h := (mSH, (mUp I 0 9 ((I 0 9) + 1)), L)) rfl (mRet_int rfl) ?_
      show mWP mTb_ mFT ro (11, 163, 211, [some (.ref 1000), some (.ref 0), some (.ref 34), some (.int 0)], [.int (-2)], 62, 3336, (mSH, (mUp I 0 9 ((I 0 9) + 1)), L)) _
      refine mB 5 (s2 := (11, 163, 216, [some (.ref 1000), some (.ref 0), some (.ref 34), some (.int 0)], [.int 1, .ref 1000, .ref 34, .int (-2)], 62, 3336, (mSH, (mUp I 0 9 ((I 0 9) + 1)), L))) rfl ?_
      refine mRq (s2 := (11, 163, 217, [some (.ref 1000), some (.ref 0), some (.ref 34), some (.int 0)], [.int ((ro 0).2 1), .ref 34, .int (-2)], 62, 3336, (mSH, (mUp I 0 9 ((I 0 9) + 1)), L))) rfl (by first | (simp only [f0_9, f0_10, f0_11, f1_2, f2_1, f4_1, f6_0, f6_1, f6_2, f6_3, f7_0, f7_1, f7_2, f7_3, f9_0, f9_1, f9_2, f25_0, f25_1, f26_1, f30_1, f32_1, f34_1, f34_3, f34_4, f34_11, f37_0, f37_1, f37_2, f37_3, f38_0, f38_1, f38_2, f39_0, f39_1, f39_2, f41_0, f41_1, f41_2, f41_3, f41_4, f41_5, g34_7, g34_8, hro0, hro1, hro1_0, hro1_1, hro1_2, hro2, hro2_0, hro2_1, hro2_2, hro13, mTn0, mTn1, mTn2, mTn10]; first | decide | rfl) | decide | rfl) ?_
      refine mCall (s2 := (10, 118, 0, [some (.ref 34), some (.int ((ro 0).2 1)), none], [], 0, 0, (mSH, (mUp I 0 9 ((I 0 9) + 1)), L))) rfl ?_
      refine mB 3 (s2 := (10, 118, 3, [some (.ref 34), some (.int ((ro 0).2 1)), none], [.int 1, .int 0, .int ((ro 0).2 1)], 0, 0, (mSH, (mUp I 0 9 ((I 0 9) + 1)), L))) rfl ?_
      refine mCall (s2 := (9, 112, 0, [some (.int ((ro 0).2 1)), some (.int 0), some (.int 1)], [], 0, 0, (mSH, (mUp I 0 9 ((I 0 9) + 1)), L))) rfl ?_
      refine mB 2 (s2 := (9, 112, 2, [some (.int ((ro 0).2 1)), some (.int 0), some (.int 1)], [.int 0, .int ((ro 0).2 1)], 0, 0, (mSH, (mUp I 0 9 ((I 0 9) + 1)), L))) rfl ?_
      refine mBr (s2 := (9, 112, 14, [some (.int ((ro 0).2 1)), some (.int 0), some (.int 1)], [], 0, 0, (mSH, (mUp I 0 9 ((I 0 9) + 1)), L))) (s3 := (9, 112, 5, [some (.int ((ro 0).2 1)), some (.int 0), some (.int 1)], [], 0, 0, (mSH, (mUp I 0 9 ((I 0 9) + 1)), L))) rfl (fun c2 => ?_) (fun c2 => ?_)
      · refine mB 1 (s2 := (9, 112, 15, [some (.int ((ro 0).2 1)), some (.int 0), some (.int 1)], [.int 0], 0, 0, (mSH, (mUp I 0 9 ((I 0 9) + 1)), L))) rfl ?_
        refine mRt (r := (some (.int 0))) (h := (mSH, (mUp I 0 9 ((I 0 9) + 1)), L)) rfl rfl ?_
        show mWP mTb_ mFT ro (10, 118, 6, [some (.ref 34), some (.int ((ro 0).2 1)), none], [.int 0], 0, 0, (mSH, (mUp I 0 9 ((I 0 9) + 1)), L)) _
        refine mBT (s2 := (10, 118, 9, [some (.ref 34), some (.int ((ro 0).2 1)), none], [], 0, 0, (mSH, (mUp I 0 9 ((I 0 9) + 1)), L))) rfl (by decide) ?_
        refine mB 2 (s2 := (10, 118, 12, [some (.ref 34), some (.int ((ro 0).2 1)), none], [.int (-2), .ref 34], 0, 0, (mSH, (mUp I 0 9 ((I 0 9) + 1)), L))) rfl ?_
        refine mCall (s2 := (9, 113, 0, [some (.ref 34), some (.int (-2))], [], 0, 0, (mSH, (mUp I 0 9 ((I 0 9) + 1)), L))) rfl ?_
        refine mB 6 (s2 := (9, 113, 9, [some (.ref 34), some (.int (-2))], [.int 0, .ref 39, .int 0, .ref 39], 0, 0, (mSH, (mUp I 0 9 ((I 0 9) + 1)), L))) rfl ?_
        refine mRq (s2 := (9, 113, 10, [some (.ref 34), some (.int (-2))], [.int (I 39 0), .int 0, .ref 39], 0, 0, (mSH, (mUp I 0 9 ((I 0 9) + 1)), L))) rfl (by decide) ?_
        refine mB 2 (s2 := (9, 113, 12, [some (.ref 34), some (.int (-2))], [.int ((I 39 0) + 1), .int 0, .ref 39], 0, 0, (mSH, (mUp I 0 9 ((I 0 9) + 1)), L))) rfl ?_
        refine mRq (s2 := (9, 113, 13, [some (.ref 34), some (.int (-2))], [], 0, 0, (mSH, (mUp (mUp I 0 9 ((I 0 9) + 1)) 39 0 ((I 39 0) + 1)), L))) rfl (by decide) ?_
        refine mB 1 (s2 := (9, 113, 14, [some (.ref 34), some (.int (-2))], [.int (-2)], 0, 0, (mSH, (mUp (mUp I 0 9 ((I 0 9) + 1)) 39 0 ((I 39 0) + 1)), L))) rfl ?_
        refine mRt (r := (some (.int (-2)))) (h := (mSH, (mUp (mUp I 0 9 ((I 0 9) + 1)) 39 0 ((I 39 0) + 1)), L)) rfl (mRet_int rfl) ?_
        show mWP mTb_ mFT ro (10, 118, 15, [some (.ref 34), some (.int ((ro 0).2 1)), none], [.int (-2)], 0, 0, (mSH, (mUp (mUp I 0 9 ((I 0 9) + 1)) 39 0 ((I 39 0) + 1)), L)) _
        refine mRt (r := (some (.int (-2)))) (h := (mSH, (mUp (mUp I 0 9 ((I 0 9) + 1)) 39 0 ((I 39 0) + 1)), L)) rfl (mRet_int rfl) ?_
        show mWP mTb_ mFT ro (11, 163, 220, [some (.ref 1000), some (.ref 0), some (.ref 34), some (.int 0)], [.int (-2), .int (-2)], 62, 3336, (mSH, (mUp (mUp I 0 9 ((I 0 9) + 1)) 39 0 ((I 39 0) + 1)), L)) _
        refine mBT (s2 := (11, 163, 808, [some (.ref 1000), some (.ref 0), some (.ref 34), some (.int 0)], [], 62, 3336, (mSH, (mUp (mUp I 0 9 ((I 0 9) + 1)) 39 0 ((I 39 0) + 1)), L))) rfl (by decide) ?_
        exact h3 (of_decide_eq_false c0) (of_decide_eq_false c1) (of_decide_eq_true c2)
      · refine mB 2 (s2 := (9, 112, 7, [some (.int ((ro 0).2 1)), some (.int 0), some (.int 1)], [.int 1, .int ((ro 0).2 1)], 0, 0, (mSH, (mUp I 0 9 ((I 0 9) + 1)), L))) rfl ?_
        refine mBT (s2 := (9, 112, 14, [some (.int ((ro 0).2 1)), some (.int 0), some (.int 1)], [], 0, 0, (mSH, (mUp I 0 9 ((I 0 9) + 1)), L))) rfl (decide_eq_true (by
        have a0 := of_decide_eq_false c0
        have a1 := of_decide_eq_false c1
        have a2 := of_decide_eq_false c2
        simp only [f0_9, f0_10, f0_11, f1_2, f2_1, f4_1, f6_0, f6_1, f6_2, f6_3, f7_0, f7_1, f7_2, f7_3, f9_0, f9_1, f9_2, f25_0, f25_1, f26_1, f30_1, f32_1, f34_1, f34_3, f34_4, f34_11, f37_0, f37_1, f37_2, f37_3, f38_0, f38_1, f38_2, f39_0, f39_1, f39_2, f41_0, f41_1, f41_2, f41_3, f41_4, f41_5, g34_7, g34_8, hro0, hro1, hro1_0, hro1_1, hro1_2, hro2, hro2_0, hro2_1, hro2_2, hro13, mTn0, mTn1, mTn2, mTn10, Int32.lt_iff_toInt_lt, Int32.le_iff_toInt_le, ← Int32.toInt_inj, mLi0, mLi1, mLi2, mLi3, mLi4, mLi5, mLi6, mLi7, mLi8, mLi9, mLi16, mLi99, mLi120, mLi127, mLi1584, mLi999999, mLim] at a0 a1 a2 ⊢
        omega)) ?_
        refine mB 1 (s2 := (9, 112, 15, [some (.int ((ro 0).2 1)), some (.int 0), some (.int 1)], [.int 0], 0, 0, (mSH, (mUp I 0 9 ((I 0 9) + 1)), L))) rfl ?_
        refine mRt (r := (some (.int 0))) (h := (mSH, (mUp I 0 9 ((I 0 9) + 1)), L)) rfl rfl ?_
        show mWP mTb_ mFT ro (10, 118, 6, [some (.ref 34), some (.int ((ro 0).2 1)), none], [.int 0], 0, 0, (mSH, (mUp I 0 9 ((I 0 9) + 1)), L)) _
        refine mBT (s2 := (10, 118, 9, [some (.ref 34), some (.int ((ro 0).2 1)), none], [], 0, 0, (mSH, (mUp I 0 9 ((I 0 9) + 1)), L))) rfl (by decide) ?_
        refine mB 2 (s2 := (10, 118, 12, [some (.ref 34), some (.int ((ro 0).2 1)), none], [.int (-2), .ref 34], 0, 0, (mSH, (mUp I 0 9 ((I 0 9) + 1)), L))) rfl ?_
        refine mCall (s2 := (9, 113, 0, [some (.ref 34), some (.int (-2))], [], 0, 0, (mSH, (mUp I 0 9 ((I 0 9) + 1)), L))) rfl ?_
        refine mB 6 (s2 := (9, 113, 9, [some (.ref 34), some (.int (-2))], [.int 0, .ref 39, .int 0, .ref 39], 0, 0, (mSH, (mUp I 0 9 ((I 0 9) + 1)), L))) rfl ?_
        refine mRq (s2 := (9, 113, 10, [some (.ref 34), some (.int (-2))], [.int (I 39 0), .int 0, .ref 39], 0, 0, (mSH, (mUp I 0 9 ((I 0 9) + 1)), L))) rfl (by decide) ?_
        refine mB 2 (s2 := (9, 113, 12, [some (.ref 34), some (.int (-2))], [.int ((I 39 0) + 1), .int 0, .ref 39], 0, 0, (mSH, (mUp I 0 9 ((I 0 9) + 1)), L))) rfl ?_
        refine mRq (s2 := (9, 113, 13, [some (.ref 34), some (.int (-2))], [], 0, 0, (mSH, (mUp (mUp I 0 9 ((I 0 9) + 1)) 39 0 ((I 39 0) + 1)), L))) rfl (by decide) ?_
        refine mB 1 (s2 := (9, 113, 14, [some (.ref 34), some (.int (-2))], [.int (-2)], 0, 0, (mSH, (mUp (mUp I 0 9 ((I 0 9) + 1)) 39 0 ((I 39 0) + 1)), L))) rfl ?_
        refine mRt (r := (some (.int (-2)))) (h := (mSH, (mUp (mUp I 0 9 ((I 0 9) + 1)) 39 0 ((I 39 0) + 1)), L)) rfl (mRet_int rfl) ?_
        show mWP mTb_ mFT ro (10, 118, 15, [some (.ref 34), some (.int ((ro 0).2 1)), none], [.int (-2)], 0, 0, (mSH, (mUp (mUp I 0 9 ((I 0 9) + 1)) 39 0 ((I 39 0) + 1)), L)) _
        refine mRt (r := (some (.int (-2)))) (h := (mSH, (mUp (mUp I 0 9 ((I 0 9) + 1)) 39 0 ((I 39 0) + 1)), L)) rfl (mRet_int rfl) ?_
        show mWP mTb_ mFT ro (11, 163, 220, [some (.ref 1000), some (.ref 0), some (.ref 34), some (.int 0)], [.int (-2), .int (-2)], 62, 3336, (mSH, (mUp (mUp I 0 9 ((I 0 9) + 1)) 39 0 ((I 39 0) + 1)), L)) _
        refine mBT (s2 := (11, 163, 808, [some (.ref 1000), some (.ref 0), some (.ref 34), some (.int 0)], [], 62, 3336, (mSH, (mUp (mUp I 0 9 ((I 0 9) + 1)) 39 0 ((I 39 0) + 1)), L))) rfl (by decide) ?_
        exact h4 (of_decide_eq_false c0) (of_decide_eq_false c1) (of_decide_eq_false c2)
theorem p1_sets {ro : Nat → Nat × (Nat → Int32)} {Q : mPo} {I : Nat → Nat → Int32} {L : Nat → Nat → Int64} (hF : mFF I L) (hR : mRO ro) (h1 : (((ro 0).2 1) = 0) → (((ro 0).2 2) < 0) → mWP mTb_ mFT ro (11, 163, 808, [some (.ref 1000), some (.ref 0), some (.ref 34), some (.int 0)], [], 62, 3336, (mSH, (mUp (mUp I 0 9 ((I 0 9) + 1)) 39 0 ((I 39 0) + 1)), L)) Q) (h2 : (((ro 0).2 1) = 0) → ¬ (((ro 0).2 2) < 0) → mWP mTb_ mFT ro (11, 163, 808, [some (.ref 1000), some (.ref 0), some (.ref 34), some (.int 0)], [], 62, 3336, (mSH, (mUp (mUp I 0 9 ((I 0 9) + 1)) 39 0 ((I 39 0) + 1)), L)) Q) (h3 : ¬ (((ro 0).2 1) = 0) → (((ro 0).2 1) = 1) → (((ro 0).2 2) < 0) → mWP mTb_ mFT ro (11, 163, 808, [some (.ref 1000), some (.ref 0), some (.ref 34), some (.int 0)], [], 62, 3336, (mSH, (mUp (mUp I 0 9 ((I 0 9) + 1)) 39 0 ((I 39 0) + 1)), L)) Q) (h4 : ¬ (((ro 0).2 1) = 0) → (((ro 0).2 1) = 1) → ¬ (((ro 0).2 2) < 0) → mWP mTb_ mFT ro (11, 163, 808, [some (.ref 1000), some (.ref 0), some (.ref 34), some (.int 0)], [], 62, 3336, (mSH, (mUp (mUp I 0 9 ((I 0 9) + 1)) 39 0 ((I 39 0) + 1)), L)) Q) (h5 : ¬ (((ro 0).2 1) = 0) → ¬ (((ro 0).2 1) = 1) → (((ro 0).2 1) < 0) → mWP mTb_ mFT ro (11, 163, 808, [some (.ref 1000), some (.ref 0), some (.ref 34), some (.int 0)], [], 62, 3336, (mSH, (mUp (mUp I 0 9 ((I 0 9) + 1)) 39 0 ((I 39 0) + 1)), L)) Q) (h6 : ¬ (((ro 0).2 1) = 0) → ¬ (((ro 0).2 1) = 1) → ¬ (((ro 0).2 1) < 0) → mWP mTb_ mFT ro (11, 163, 808, [some (.ref 1000), some (.ref 0), some (.ref 34), some (.int 0)], [], 62, 3336, (mSH, (mUp (mUp I 0 9 ((I 0 9) + 1)) 39 0 ((I 39 0) + 1)), L)) Q) : mWP mTb_ mFT ro (11, 163, 225, [some (.ref 1000), some (.ref 0), some (.ref 34), some (.int 0)], [], 62, 3336, (mSH, I, L)) Q := by
  obtain ⟨f0_9, f0_10, f0_11, f1_2, f2_1, f4_1, f6_0, f6_1, f6_2, f6_3, f7_0, f7_1, f7_2, f7_3, f9_0, f9_1, f9_2, f25_0, f25_1, f26_1, f30_1, f32_1, f34_1, f34_3, f34_4, f34_11, f37_0, f37_1, f37_2, f37_3, f38_0, f38_1, f38_2, f39_0, f39_1, f39_2, f41_0, f41_1, f41_2, f41_3, f41_4, f41_5, g34_7, g34_8⟩ := hF
  obtain ⟨hro0, hro1, hro1_0, hro1_1, hro1_2, hro2, hro2_0, hro2_1, hro2_2, hro13⟩ := hR
  refine mB 5 (s2 := (11, 163, 230, [some (.ref 1000), some (.ref 0), some (.ref 34), some (.int 0)], [.int 1, .ref 1000, .ref 0], 62, 3336, (mSH, I, L))) rfl ?_
  refine mRq (s2 := (11, 163, 231, [some (.ref 1000), some (.ref 0), some (.ref 34), some (.int 0)], [.int ((ro 0).2 1), .ref 0], 62, 3336, (mSH, I, L))) rfl (by first | (simp only [f0_9, f0_10, f0_11, f1_2, f2_1, f4_1, f6_0, f6_1, f6_2, f6_3, f7_0, f7_1, f7_2, f7_3, f9_0, f9_1, f9_2, f25_0, f25_1, f26_1, f30_1, f32_1, f34_1, f34_3, f34_4, f34_11, f37_0, f37_1, f37_2, f37_3, f38_0, f38_1, f38_2, f39_0, f39_1, f39_2, f41_0, f41_1, f41_2, f41_3, f41_4, f41_5, g34_7, g34_8, hro0, hro1, hro1_0, hro1_1, hro1_2, hro2, hro2_0, hro2_1, hro2_2, hro13, mTn0, mTn1, mTn2, mTn10]; first | decide | rfl) | decide | rfl) ?_
  refine mB 4 (s2 := (11, 163, 235, [some (.ref 1000), some (.ref 0), some (.ref 34), some (.int 0)], [.int 2, .ref 1000, .int ((ro 0).2 1), .ref 0], 62, 3336, (mSH, I, L))) rfl ?_
  refine mRq (s2 := (11, 163, 236, [some (.ref 1000), some (.ref 0), some (.ref 34), some (.int 0)], [.int ((ro 0).2 2), .int ((ro 0).2 1), .ref 0], 62, 3336, (mSH, I, L))) rfl (by first | (simp only [f0_9, f0_10, f0_11, f1_2, f2_1, f4_1, f6_0, f6_1, f6_2, f6_3, f7_0, f7_1, f7_2, f7_3, f9_0, f9_1, f9_2, f25_0, f25_1, f26_1, f30_1, f32_1, f34_1, f34_3, f34_4, f34_11, f37_0, f37_1, f37_2, f37_3, f38_0, f38_1, f38_2, f39_0, f39_1, f39_2, f41_0, f41_1, f41_2, f41_3, f41_4, f41_5, g34_7, g34_8, hro0, hro1, hro1_0, hro1_1, hro1_2, hro2, hro2_0, hro2_1, hro2_2, hro13, mTn0, mTn1, mTn2, mTn10]; first | decide | rfl) | decide | rfl) ?_
  refine mB 4 (s2 := (11, 163, 240, [some (.ref 1000), some (.ref 0), some (.ref 34), some (.int 0)], [.int 3, .ref 1000, .int ((ro 0).2 2), .int ((ro 0).2 1), .ref 0], 62, 3336, (mSH, I, L))) rfl ?_
  refine mRq (s2 := (11, 163, 241, [some (.ref 1000), some (.ref 0), some (.ref 34), some (.int 0)], [.int ((ro 0).2 3), .int ((ro 0).2 2), .int ((ro 0).2 1), .ref 0], 62, 3336, (mSH, I, L))) rfl (by first | (simp only [f0_9, f0_10, f0_11, f1_2, f2_1, f4_1, f6_0, f6_1, f6_2, f6_3, f7_0, f7_1, f7_2, f7_3, f9_0, f9_1, f9_2, f25_0, f25_1, f26_1, f30_1, f32_1, f34_1, f34_3, f34_4, f34_11, f37_0, f37_1, f37_2, f37_3, f38_0, f38_1, f38_2, f39_0, f39_1, f39_2, f41_0, f41_1, f41_2, f41_3, f41_4, f41_5, g34_7, g34_8, hro0, hro1, hro1_0, hro1_1, hro1_2, hro2, hro2_0, hro2_1, hro2_2, hro13, mTn0, mTn1, mTn2, mTn10]; first | decide | rfl) | decide | rfl) ?_
  refine mCall (s2 := (10, 79, 0, [some (.ref 0), some (.int ((ro 0).2 1)), some (.int ((ro 0).2 2)), some (.int ((ro 0).2 3)), none, none], [], 0, 0, (mSH, I, L))) rfl ?_
  refine mB 1 (s2 := (10, 79, 1, [some (.ref 0), some (.int ((ro 0).2 1)), some (.int ((ro 0).2 2)), some (.int ((ro 0).2 3)), none, none], [.int ((ro 0).2 1)], 0, 0, (mSH, I, L))) rfl ?_
  refine mCall (s2 := (9, 108, 0, [some (.int ((ro 0).2 1))], [], 0, 0, (mSH, I, L))) rfl ?_
  refine mB 1 (s2 := (9, 108, 1, [some (.int ((ro 0).2 1))], [.int ((ro 0).2 1)], 0, 0, (mSH, I, L))) rfl ?_
  refine mBr (s2 := (9, 108, 9, [some (.int ((ro 0).2 1))], [], 0, 0, (mSH, I, L))) (s3 := (9, 108, 4, [some (.int ((ro 0).2 1))], [], 0, 0, (mSH, I, L))) rfl (fun c0 => ?_) (fun c0 => ?_)
  · refine mB 2 (s2 := (9, 108, 14, [some (.int ((ro 0).2 1))], [.int 1], 0, 0, (mSH, I, L))) rfl ?_
    refine mRt (r := (some (.int 1))) (h := (mSH, I, L)) rfl rfl ?_
    show mWP mTb_ mFT ro (10, 79, 4, [some (.ref 0), some (.int ((ro 0).2 1)), some (.int ((ro 0).2 2)), some (.int ((ro 0).2 3)), none, none], [.int 1], 0, 0, (mSH, I, L)) _
    refine mBF (s3 := (10, 79, 7, [some (.ref 0), some (.int ((ro 0).2 1)), some (.int ((ro 0).2 2)), some (.int ((ro 0).2 3)), none, none], [], 0, 0, (mSH, I, L))) rfl (by decide) ?_
    refine mB 3 (s2 := (10, 79, 12, [some (.ref 0), some (.int ((ro 0).2 1)), some (.int ((ro 0).2 2)), some (.int ((ro 0).2 3)), none, none], [.int ((ro 0).2 1), .ref 1], 0, 0, (mSH, I, L))) rfl ?_
    refine mCall (s2 := (9, 67, 0, [some (.ref 1), some (.int ((ro 0).2 1))], [], 0, 0, (mSH, I, L))) rfl ?_
    refine mB 1 (s2 := (9, 67, 1, [some (.ref 1), some (.int ((ro 0).2 1))], [.int ((ro 0).2 1)], 0, 0, (mSH, I, L))) rfl ?_
    refine mBT (s2 := (9, 67, 4, [some (.ref 1), some (.int ((ro 0).2 1))], [], 0, 0, (mSH, I, L))) rfl (by first | (simp only [f0_9, f0_10, f0_11, f1_2, f2_1, f4_1, f6_0, f6_1, f6_2, f6_3, f7_0, f7_1, f7_2, f7_3, f9_0, f9_1, f9_2, f25_0, f25_1, f26_1, f30_1, f32_1, f34_1, f34_3, f34_4, f34_11, f37_0, f37_1, f37_2, f37_3, f38_0, f38_1, f38_2, f39_0, f39_1, f39_2, f41_0, f41_1, f41_2, f41_3, f41_4, f41_5, g34_7, g34_8, hro0, hro1, hro1_0, hro1_1, hro1_2, hro2, hro2_0, hro2_1, hro2_2, hro13, mTn0, mTn1, mTn2, mTn10, of_decide_eq_true c0]; first | decide | rfl) | decide | rfl) ?_
    refine mB 3 (s2 := (9, 67, 15, [some (.ref 1), some (.int ((ro 0).2 1))], [.ref 2], 0, 0, (mSH, I, L))) rfl ?_
    refine mRt (r := (some (.ref 2))) (h := (mSH, I, L)) rfl rfl ?_
    show mWP mTb_ mFT ro (10, 79, 15, [some (.ref 0), some (.int ((ro 0).2 1)), some (.int ((ro 0).2 2)), some (.int ((ro 0).2 3)), none, none], [.ref 2], 0, 0, (mSH, I, L)) _
    refine mB 1 (s2 := (10, 79, 16, [some (.ref 0), some (.int ((ro 0).2 1)), some (.int ((ro 0).2 2)), some (.int ((ro 0).2 3)), none, none], [.int ((ro 0).2 2), .ref 2], 0, 0, (mSH, I, L))) rfl ?_
    refine mCall (s2 := (9, 41, 0, [some (.ref 2), some (.int ((ro 0).2 2))], [], 0, 0, (mSH, I, L))) rfl ?_
    refine mB 1 (s2 := (9, 41, 1, [some (.ref 2), some (.int ((ro 0).2 2))], [.int ((ro 0).2 2)], 0, 0, (mSH, I, L))) rfl ?_
    refine mBr (s2 := (9, 41, 16, [some (.ref 2), some (.int ((ro 0).2 2))], [], 0, 0, (mSH, I, L))) (s3 := (9, 41, 4, [some (.ref 2), some (.int ((ro 0).2 2))], [], 0, 0, (mSH, I, L))) rfl (fun c1 => ?_) (fun c1 => ?_)
    · refine mB 1 (s2 := (9, 41, 17, [some (.ref 2), some (.int ((ro 0).2 2))], [.int 0], 0, 0, (mSH, I, L))) rfl ?_
      refine mRt (r := (some (.int 0))) (h := (mSH, I, L)) rfl rfl ?_
      show mWP mTb_ mFT ro (10, 79, 19, [some (.ref 0), some (.int ((ro 0).2 1)), some (.int ((ro 0).2 2)), some (.int ((ro 0).2 3)), none, none], [.int 0], 0, 0, (mSH, I, L)) _
      refine mBT (s2 := (10, 79, 29, [some (.ref 0), some (.int ((ro 0).2 1)), some (.int ((ro 0).2 2)), some (.int ((ro 0).2 3)), none, none], [], 0, 0, (mSH, I, L))) rfl (by decide) ?_
      refine mB 2 (s2 := (10, 79, 32, [some (.ref 0), some (.int ((ro 0).2 1)), some (.int ((ro 0).2 2)), some (.int ((ro 0).2 3)), none, none], [.int (-2), .ref 0], 0, 0, (mSH, I, L))) rfl ?_
      refine mCall (s2 := (9, 103, 0, [some (.ref 0), some (.int (-2))], [], 0, 0, (mSH, I, L))) rfl ?_
      refine mB 2 (s2 := (9, 103, 3, [some (.ref 0), some (.int (-2))], [.int (-2), .int (-2)], 0, 0, (mSH, I, L))) rfl ?_
      refine mBT (s2 := (9, 103, 6, [some (.ref 0), some (.int (-2))], [], 0, 0, (mSH, I, L))) rfl (by decide) ?_
      refine mB 8 (s2 := (9, 103, 49, [some (.ref 0), some (.int (-2))], [.int (-2)], 0, 0, (mSH, (mUp I 0 9 ((I 0 9) + 1)), L))) rfl ?_
      refine mRt (r := (some (.int (-2)))) (h := (mSH, (mUp I 0 9 ((I 0 9) + 1)), L)) rfl (mRet_int rfl) ?_
      show mWP mTb_ mFT ro (10, 79, 35, [some (.ref 0), some (.int ((ro 0).2 1)), some (.int ((ro 0).2 2)), some (.int ((ro 0).2 3)), none, none], [.int (-2)], 0, 0, (mSH, (mUp I 0 9 ((I 0 9) + 1)), L)) _
      refine mRt (r := (some (.int (-2)))) (h := (mSH, (mUp I 0 9 ((I 0 9) + 1)), L)) rfl (mRet_int rfl) ?_
      show mWP mTb_ mFT ro (11, 163, 244, [some (.ref 1000), some (.ref 0), some (.ref 34), some (.int 0)], [.int (-2)], 62, 3336, (mSH, (mUp I 0 9 ((I 0 9) + 1)), L)) _
      refine mB 5 (s2 := (11, 163, 249, [some (.ref 1000), some (.ref 0), some (.ref 34), some (.int 0)], [.int 1, .ref 1000, .ref 34, .int (-2)], 62, 3336, (mSH, (mUp I 0 9 ((I 0 9) + 1)), L))) rfl ?_
      refine mRq (s2 := (11, 163, 250, [some (.ref 1000), some (.ref 0), some (.ref 34), some (.int 0)], [.int ((ro 0).2 1), .ref 34, .int (-2)], 62, 3336, (mSH, (mUp I 0 9 ((I 0 9) + 1)), L))) rfl (by first | (simp only [f0_9, f0_10, f0_11, f1_2, f2_1, f4_1, f6_0, f6_1, f6_2, f6_3, f7_0, f7_1, f7_2, f7_3, f9_0, f9_1, f9_2, f25_0, f25_1, f26_1, f30_1, f32_1, f34_1, f34_3, f34_4, f34_11, f37_0, f37_1, f37_2, f37_3, f38_0, f38_1, f38_2, f39_0, f39_1, f39_2, f41_0, f41_1, f41_2, f41_3, f41_4, f41_5, g34_7, g34_8, hro0, hro1, hro1_0, hro1_1, hro1_2, hro2, hro2_0, hro2_1, hro2_2, hro13, mTn0, mTn1, mTn2, mTn10, of_decide_eq_true c0]; first | decide | rfl) | decide | rfl) ?_
      refine mB 4 (s2 := (11, 163, 254, [some (.ref 1000), some (.ref 0), some (.ref 34), some (.int 0)], [.int 2, .ref 1000, .int ((ro 0).2 1), .ref 34, .int (-2)], 62, 3336, (mSH, (mUp I 0 9 ((I 0 9) + 1)), L))) rfl ?_
      refine mRq (s2 := (11, 163, 255, [some (.ref 1000), some (.ref 0), some (.ref 34), some (.int 0)], [.int ((ro 0).2 2), .int ((ro 0).2 1), .ref 34, .int (-2)], 62, 3336, (mSH, (mUp I 0 9 ((I 0 9) + 1)), L))) rfl (by first | (simp only [f0_9, f0_10, f0_11, f1_2, f2_1, f4_1, f6_0, f6_1, f6_2, f6_3, f7_0, f7_1, f7_2, f7_3, f9_0, f9_1, f9_2, f25_0, f25_1, f26_1, f30_1, f32_1, f34_1, f34_3, f34_4, f34_11, f37_0, f37_1, f37_2, f37_3, f38_0, f38_1, f38_2, f39_0, f39_1, f39_2, f41_0, f41_1, f41_2, f41_3, f41_4, f41_5, g34_7, g34_8, hro0, hro1, hro1_0, hro1_1, hro1_2, hro2, hro2_0, hro2_1, hro2_2, hro13, mTn0, mTn1, mTn2, mTn10, of_decide_eq_true c0]; first | decide | rfl) | decide | rfl) ?_
      refine mB 4 (s2 := (11, 163, 259, [some (.ref 1000), some (.ref 0), some (.ref 34), some (.int 0)], [.int 3, .ref 1000, .int ((ro 0).2 2), .int ((ro 0).2 1), .ref 34, .int (-2)], 62, 3336, (mSH, (mUp I 0 9 ((I 0 9) + 1)), L))) rfl ?_
      refine mRq (s2 := (11, 163, 260, [some (.ref 1000), some (.ref 0), some (.ref 34), some (.int 0)], [.int ((ro 0).2 3), .int ((ro 0).2 2), .int ((ro 0).2 1), .ref 34, .int (-2)], 62, 3336, (mSH, (mUp I 0 9 ((I 0 9) + 1)), L))) rfl (by first | (simp only [f0_9, f0_10, f0_11, f1_2, f2_1, f4_1, f6_0, f6_1, f6_2, f6_3, f7_0, f7_1, f7_2, f7_3, f9_0, f9_1, f9_2, f25_0, f25_1, f26_1, f30_1, f32_1, f34_1, f34_3, f34_4, f34_11, f37_0, f37_1, f37_2, f37_3, f38_0, f38_1, f38_2, f39_0, f39_1, f39_2, f41_0, f41_1, f41_2, f41_3, f41_4, f41_5, g34_7, g34_8, hro0, hro1, hro1_0, hro1_1, hro1_2, hro2, hro2_0, hro2_1, hro2_2, hro13, mTn0, mTn1, mTn2, mTn10, of_decide_eq_true c0]; first | decide | rfl) | decide | rfl) ?_
      refine mCall (s2 := (10, 119, 0, [some (.ref 34), some (.int ((ro 0).2 1)), some (.int ((ro 0).2 2)), some (.int ((ro 0).2 3)), none], [], 0, 0, (mSH, (mUp I 0 9 ((I 0 9) + 1)), L))) rfl ?_
      refine mB 3 (s2 := (10, 119, 3, [some (.ref 34), some (.int ((ro 0).2 1)), some (.int ((ro 0).2 2)), some (.int ((ro 0).2 3)), none], [.int 1, .int 0, .int ((ro 0).2 1)], 0, 0, (mSH, (mUp I 0 9 ((I 0 9) + 1)), L))) rfl ?_
      refine mCall (s2 := (9, 112, 0, [some (.int ((ro 0).2 1)), some (.int 0), some (.int 1)], [], 0, 0, (mSH, (mUp I 0 9 ((I 0 9) + 1)), L))) rfl ?_
      refine mB 2 (s2 := (9, 112, 2, [some (.int ((ro 0).2 1)), some (.int 0), some (.int 1)], [.int 0, .int ((ro 0).2 1)], 0, 0, (mSH, (mUp I 0 9 ((I 0 9) + 1)), L))) rfl ?_
      refine mBF (s3 := (9, 112, 5, [some (.int ((ro 0).2 1)), some (.int 0), some (.int 1)], [], 0, 0, (mSH, (mUp I 0 9 ((I 0 9) + 1)), L))) rfl (by first | (simp only [f0_9, f0_10, f0_11, f1_2, f2_1, f4_1, f6_0, f6_1, f6_2, f6_3, f7_0, f7_1, f7_2, f7_3, f9_0, f9_1, f9_2, f25_0, f25_1, f26_1, f30_1, f32_1, f34_1, f34_3, f34_4, f34_11, f37_0, f37_1, f37_2, f37_3, f38_0, f38_1, f38_2, f39_0, f39_1, f39_2, f41_0, f41_1, f41_2, f41_3, f41_4, f41_5, g34_7, g34_8, hro0, hro1, hro1_0, hro1_1, hro1_2, hro2, hro2_0, hro2_1, hro2_2, hro13, mTn0, mTn1, mTn2, mTn10, of_decide_eq_true c0]; first | decide | rfl) | decide | rfl) ?_
      refine mB 2 (s2 := (9, 112, 7, [some (.int ((ro 0).2 1)), some (.int 0), some (.int 1)], [.int 1, .int ((ro 0).2 1)], 0, 0, (mSH, (mUp I 0 9 ((I 0 9) + 1)), L))) rfl ?_
      refine mBF (s3 := (9, 112, 10, [some (.int ((ro 0).2 1)), some (.int 0), some (.int 1)], [], 0, 0, (mSH, (mUp I 0 9 ((I 0 9) + 1)), L))) rfl (by first | (simp only [f0_9, f0_10, f0_11, f1_2, f2_1, f4_1, f6_0, f6_1, f6_2, f6_3, f7_0, f7_1, f7_2, f7_3, f9_0, f9_1, f9_2, f25_0, f25_1, f26_1, f30_1, f32_1, f34_1, f34_3, f34_4, f34_11, f37_0, f37_1, f37_2, f37_3, f38_0, f38_1, f38_2, f39_0, f39_1, f39_2, f41_0, f41_1, f41_2, f41_3, f41_4, f41_5, g34_7, g34_8, hro0, hro1, hro1_0, hro1_1, hro1_2, hro2, hro2_0, hro2_1, hro2_2, hro13, mTn0, mTn1, mTn2, mTn10, of_decide_eq_true c0]; first | decide | rfl) | decide | rfl) ?_
      refine mB 2 (s2 := (9, 112, 15, [some (.int ((ro 0).2 1)), some (.int 0), some (.int 1)], [.int 1], 0, 0, (mSH, (mUp I 0 9 ((I 0 9) + 1)), L))) rfl ?_
      refine mRt (r := (some (.int 1))) (h := (mSH, (mUp I 0 9 ((I 0 9) + 1)), L)) rfl rfl ?_
      show mWP mTb_ mFT ro (10, 119, 6, [some (.ref 34), some (.int ((ro 0).2 1)), some (.int ((ro 0).2 2)), some (.int ((ro 0).2 3)), none], [.int 1], 0, 0, (mSH, (mUp I 0 9 ((I 0 9) + 1)), L)) _
      refine mBF (s3 := (10, 119, 9, [some (.ref 34), some (.int ((ro 0).2 1)), some (.int ((ro 0).2 2)), some (.int ((ro 0).2 3)), none], [], 0, 0, (mSH, (mUp I 0 9 ((I 0 9) + 1)), L))) rfl (by decide) ?_
      refine mB 1 (s2 := (10, 119, 10, [some (.ref 34), some (.int ((ro 0).2 1)), some (.int ((ro 0).2 2)), some (.int ((ro 0).2 3)), none], [.int ((ro 0).2 1)], 0, 0, (mSH, (mUp I 0 9 ((I 0 9) + 1)), L))) rfl ?_
      refine mBT (s2 := (10, 119, 13, [some (.ref 34), some (.int ((ro 0).2 1)), some (.int ((ro 0).2 2)), some (.int ((ro 0).2 3)), none], [], 0, 0, (mSH, (mUp I 0 9 ((I 0 9) + 1)), L))) rfl (by first | (simp only [f0_9, f0_10, f0_11, f1_2, f2_1, f4_1, f6_0, f6_1, f6_2, f6_3, f7_0, f7_1, f7_2, f7_3, f9_0, f9_1, f9_2, f25_0, f25_1, f26_1, f30_1, f32_1, f34_1, f34_3, f34_4, f34_11, f37_0, f37_1, f37_2, f37_3, f38_0, f38_1, f38_2, f39_0, f39_1, f39_2, f41_0, f41_1, f41_2, f41_3, f41_4, f41_5, g34_7, g34_8, hro0, hro1, hro1_0, hro1_1, hro1_2, hro2, hro2_0, hro2_1, hro2_2, hro13, mTn0, mTn1, mTn2, mTn10, of_decide_eq_true c0]; first | decide | rfl) | decide | rfl) ?_
      refine mB 2 (s2 := (10, 119, 15, [some (.ref 34), some (.int ((ro 0).2 1)), some (.int ((ro 0).2 2)), some (.int ((ro 0).2 3)), none], [.int ((ro 0).2 2), .ref 34], 0, 0, (mSH, (mUp I 0 9 ((I 0 9) + 1)), L))) rfl ?_
      refine mCall (s2 := (9, 114, 0, [some (.ref 34), some (.int ((ro 0).2 2))], [], 0, 0, (mSH, (mUp I 0 9 ((I 0 9) + 1)), L))) rfl ?_
      refine mB 6 (s2 := (9, 114, 8, [some (.ref 34), some (.int ((ro 0).2 2))], [.int ((I 34 1) - 1), .int 0, .int ((ro 0).2 2)], 0, 0, (mSH, (mUp I 0 9 ((I 0 9) + 1)), L))) rfl ?_
      refine mCall (s2 := (8, 112, 0, [some (.int ((ro 0).2 2)), some (.int 0), some (.int ((I 34 1) - 1))], [], 0, 0, (mSH, (mUp I 0 9 ((I 0 9) + 1)), L))) rfl ?_
      refine mB 2 (s2 := (8, 112, 2, [some (.int ((ro 0).2 2)), some (.int 0), some (.int ((I 34 1) - 1))], [.int 0, .int ((ro 0).2 2)], 0, 0, (mSH, (mUp I 0 9 ((I 0 9) + 1)), L))) rfl ?_
      refine mBT (s2 := (8, 112, 14, [some (.int ((ro 0).2 2)), some (.int 0), some (.int ((I 34 1) - 1))], [], 0, 0, (mSH, (mUp I 0 9 ((I 0 9) + 1)), L))) rfl (decide_eq_true (by
        have a0 := of_decide_eq_true c0
        have a1 := of_decide_eq_true c1
        simp only [f0_9, f0_10, f0_11, f1_2, f2_1, f4_1, f6_0, f6_1, f6_2, f6_3, f7_0, f7_1, f7_2, f7_3, f9_0, f9_1, f9_2, f25_0, f25_1, f26_1, f30_1, f32_1, f34_1, f34_3, f34_4, f34_11, f37_0, f37_1, f37_2, f37_3, f38_0, f38_1, f38_2, f39_0, f39_1, f39_2, f41_0, f41_1, f41_2, f41_3, f41_4, f41_5, g34_7, g34_8, hro0, hro1, hro1_0, hro1_1, hro1_2, hro2, hro2_0, hro2_1, hro2_2, hro13, mTn0, mTn1, mTn2, mTn10, of_decide_eq_true c0, Int32.lt_iff_toInt_lt, Int32.le_iff_toInt_le, ← Int32.toInt_inj, mLi0, mLi1, mLi2, mLi3, mLi4, mLi5, mLi6, mLi7, mLi8, mLi9, mLi16, mLi99, mLi120, mLi127, mLi1584, mLi999999, mLim] at a0 a1 ⊢
        omega)) ?_
      refine mB 1 (s2 := (8, 112, 15, [some (.int ((ro 0).2 2)), some (.int 0), some (.int ((I 34 1) - 1))], [.int 0], 0, 0, (mSH, (mUp I 0 9 ((I 0 9) + 1)), L))) rfl ?_
      refine mRt (r := (some (.int 0))) (h := (mSH, (mUp I 0 9 ((I 0 9) + 1)), L)) rfl rfl ?_
      show mWP mTb_ mFT ro (9, 114, 11, [some (.ref 34), some (.int ((ro 0).2 2))], [.int 0], 0, 0, (mSH, (mUp I 0 9 ((I 0 9) + 1)), L)) _
      refine mRt (r := (some (.int 0))) (h := (mSH, (mUp I 0 9 ((I 0 9) + 1)), L)) rfl rfl ?_
      show mWP mTb_ mFT ro (10, 119, 18, [some (.ref 34), some (.int ((ro 0).2 1)), some (.int ((ro 0).2 2)), some (.int ((ro 0).2 3)), none], [.int 0], 0, 0, (mSH, (mUp I 0 9 ((I 0 9) + 1)), L)) _
      refine mBT (s2 := (10, 119, 42, [some (.ref 34), some (.int ((ro 0).2 1)), some (.int ((ro 0).2 2)), some (.int ((ro 0).2 3)), none], [], 0, 0, (mSH, (mUp I 0 9 ((I 0 9) + 1)), L))) rfl (by decide) ?_
      refine mB 2 (s2 := (10, 119, 45, [some (.ref 34), some (.int ((ro 0).2 1)), some (.int ((ro 0).2 2)), some (.int ((ro 0).2 3)), none], [.int (-2), .ref 34], 0, 0, (mSH, (mUp I 0 9 ((I 0 9) + 1)), L))) rfl ?_
      refine mCall (s2 := (9, 113, 0, [some (.ref 34), some (.int (-2))], [], 0, 0, (mSH, (mUp I 0 9 ((I 0 9) + 1)), L))) rfl ?_
      refine mB 6 (s2 := (9, 113, 9, [some (.ref 34), some (.int (-2))], [.int 0, .ref 39, .int 0, .ref 39], 0, 0, (mSH, (mUp I 0 9 ((I 0 9) + 1)), L))) rfl ?_
      refine mRq (s2 := (9, 113, 10, [some (.ref 34), some (.int (-2))], [.int (I 39 0), .int 0, .ref 39], 0, 0, (mSH, (mUp I 0 9 ((I 0 9) + 1)), L))) rfl (by decide) ?_
      refine mB 2 (s2 := (9, 113, 12, [some (.ref 34), some (.int (-2))], [.int ((I 39 0) + 1), .int 0, .ref 39], 0, 0, (mSH, (mUp I 0 9 ((I 0 9) + 1)), L))) rfl ?_
      refine mRq (s2 := (9, 113, 13, [some (.ref 34), some (.int (-2))], [], 0, 0, (mSH, (mUp (mUp I 0 9 ((I 0 9) + 1)) 39 0 ((I 39 0) + 1)), L))) rfl (by decide) ?_
      refine mB 1 (s2 := (9, 113, 14, [some (.ref 34), some (.int (-2))], [.int (-2)], 0, 0, (mSH, (mUp (mUp I 0 9 ((I 0 9) + 1)) 39 0 ((I 39 0) + 1)), L))) rfl ?_
      refine mRt (r := (some (.int (-2)))) (h := (mSH, (mUp (mUp I 0 9 ((I 0 9) + 1)) 39 0 ((I 39 0) + 1)), L)) rfl (mRet_int rfl) ?_
      show mWP mTb_ mFT ro (10, 119, 48, [some (.ref 34), some (.int ((ro 0).2 1)), some (.int ((ro 0).2 2)), some (.int ((ro 0).2 3)), none], [.int (-2)], 0, 0, (mSH, (mUp (mUp I 0 9 ((I 0 9) + 1)) 39 0 ((I 39 0) + 1)), L)) _
      refine mRt (r := (some (.int (-2)))) (h := (mSH, (mUp (mUp I 0 9 ((I 0 9) + 1)) 39 0 ((I 39 0) + 1)), L)) rfl (mRet_int rfl) ?_
      show mWP mTb_ mFT ro (11, 163, 263, [some (.ref 1000), some (.ref 0), some (.ref 34), some (.int 0)], [.int (-2), .int (-2)], 62, 3336, (mSH, (mUp (mUp I 0 9 ((I 0 9) + 1)) 39 0 ((I 39 0) + 1)), L)) _
      refine mBT (s2 := (11, 163, 808, [some (.ref 1000), some (.ref 0), some (.ref 34), some (.int 0)], [], 62, 3336, (mSH, (mUp (mUp I 0 9 ((I 0 9) + 1)) 39 0 ((I 39 0) + 1)), L))) rfl (by decide) ?_
      exact h1 (of_decide_eq_true c0) (of_decide_eq_true c1)
    · refine mB 3 (s2 := (9, 41, 9, [some (.ref 2), some (.int ((ro 0).2 2))], [.int (I 2 1), .int ((ro 0).2 2)], 0, 0, (mSH, I, L))) rfl ?_
      refine mBT (s2 := (9, 41, 16, [some (.ref 2), some (.int ((ro 0).2 2))], [], 0, 0, (mSH, I, L))) rfl (decide_eq_true (by
        have a0 := of_decide_eq_true c0
        have a1 := of_decide_eq_false c1
        simp only [f0_9, f0_10, f0_11, f1_2, f2_1, f4_1, f6_0, f6_1, f6_2, f6_3, f7_0, f7_1, f7_2, f7_3, f9_0, f9_1, f9_2, f25_0, f25_1, f26_1, f30_1, f32_1, f34_1, f34_3, f34_4, f34_11, f37_0, f37_1, f37_2, f37_3, f38_0, f38_1, f38_2, f39_0, f39_1, f39_2, f41_0, f41_1, f41_2, f41_3, f41_4, f41_5, g34_7, g34_8, hro0, hro1, hro1_0, hro1_1, hro1_2, hro2, hro2_0, hro2_1, hro2_2, hro13, mTn0, mTn1, mTn2, mTn10, of_decide_eq_true c0, Int32.lt_iff_toInt_lt, Int32.le_iff_toInt_le, ← Int32.toInt_inj, mLi0, mLi1, mLi2, mLi3, mLi4, mLi5, mLi6, mLi7, mLi8, mLi9, mLi16, mLi99, mLi120, mLi127, mLi1584, mLi999999, mLim] at a0 a1 ⊢
        omega)) ?_
      refine mB 1 (s2 := (9, 41, 17, [some (.ref 2), some (.int ((ro 0).2 2))], [.int 0], 0, 0, (mSH, I, L))) rfl ?_
      refine mRt (r := (some (.int 0))) (h := (mSH, I, L)) rfl rfl ?_
      show mWP mTb_ mFT ro (10, 79, 19, [some (.ref 0), some (.int ((ro 0).2 1)), some (.int ((ro 0).2 2)), some (.int ((ro 0).2 3)), none, none], [.int 0], 0, 0, (mSH, I, L)) _
      refine mBT (s2 := (10, 79, 29, [some (.ref 0), some (.int ((ro 0).2 1)), some (.int ((ro 0).2 2)), some (.int ((ro 0).2 3)), none, none], [], 0, 0, (mSH, I, L))) rfl (by decide) ?_
      refine mB 2 (s2 := (10, 79, 32, [some (.ref 0), some (.int ((ro 0).2 1)), some (.int ((ro 0).2 2)), some (.int ((ro 0).2 3)), none, none], [.int (-2), .ref 0], 0, 0, (mSH, I, L))) rfl ?_
      refine mCall (s2 := (9, 103, 0, [some (.ref 0), some (.int (-2))], [], 0, 0, (mSH, I, L))) rfl ?_
      refine mB 2 (s2 := (9, 103, 3, [some (.ref 0), some (.int (-2))], [.int (-2), .int (-2)], 0, 0, (mSH, I, L))) rfl ?_
      refine mBT (s2 := (9, 103, 6, [some (.ref 0), some (.int (-2))], [], 0, 0, (mSH, I, L))) rfl (by decide) ?_
      refine mB 8 (s2 := (9, 103, 49, [some (.ref 0), some (.int (-2))], [.int (-2)], 0, 0, (mSH, (mUp I 0 9 ((I 0 9) + 1)), L))) rfl ?_
      refine mRt (r := (some (.int (-2)))) (h := (mSH, (mUp I 0 9 ((I 0 9) + 1)), L)) rfl (mRet_int rfl) ?_
      show mWP mTb_ mFT ro (10, 79, 35, [some (.ref 0), some (.int ((ro 0).2 1)), some (.int ((ro 0).2 2)), some (.int ((ro 0).2 3)), none, none], [.int (-2)], 0, 0, (mSH, (mUp I 0 9 ((I 0 9) + 1)), L)) _
      refine mRt (r := (some (.int (-2)))) (h := (mSH, (mUp I 0 9 ((I 0 9) + 1)), L)) rfl (mRet_int rfl) ?_
      show mWP mTb_ mFT ro (11, 163, 244, [some (.ref 1000), some (.ref 0), some (.ref 34), some (.int 0)], [.int (-2)], 62, 3336, (mSH, (mUp I 0 9 ((I 0 9) + 1)), L)) _
      refine mB 5 (s2 := (11, 163, 249, [some (.ref 1000), some (.ref 0), some (.ref 34), some (.int 0)], [.int 1, .ref 1000, .ref 34, .int (-2)], 62, 3336, (mSH, (mUp I 0 9 ((I 0 9) + 1)), L))) rfl ?_
      refine mRq (s2 := (11, 163, 250, [some (.ref 1000), some (.ref 0), some (.ref 34), some (.int 0)], [.int ((ro 0).2 1), .ref 34, .int (-2)], 62, 3336, (mSH, (mUp I 0 9 ((I 0 9) + 1)), L))) rfl (by first | (simp only [f0_9, f0_10, f0_11, f1_2, f2_1, f4_1, f6_0, f6_1, f6_2, f6_3, f7_0, f7_1, f7_2, f7_3, f9_0, f9_1, f9_2, f25_0, f25_1, f26_1, f30_1, f32_1, f34_1, f34_3, f34_4, f34_11, f37_0, f37_1, f37_2, f37_3, f38_0, f38_1, f38_2, f39_0, f39_1, f39_2, f41_0, f41_1, f41_2, f41_3, f41_4, f41_5, g34_7, g34_8, hro0, hro1, hro1_0, hro1_1, hro1_2, hro2, hro2_0, hro2_1, hro2_2, hro13, mTn0, mTn1, mTn2, mTn10, of_decide_eq_true c0]; first | decide | rfl) | decide | rfl) ?_
      refine mB 4 (s2 := (11, 163, 254, [some (.ref 1000), some (.ref 0), some (.ref 34), some (.int 0)], [.int 2, .ref 1000, .int ((ro 0).2 1), .ref 34, .int (-2)], 62, 3336, (mSH, (mUp I 0 9 ((I 0 9) + 1)), L))) rfl ?_
      refine mRq (s2 := (11, 163, 255, [some (.ref 1000), some (.ref 0), some (.ref 34), some (.int 0)], [.int ((ro 0).2 2), .int ((ro 0).2 1), .ref 34, .int (-2)], 62, 3336, (mSH, (mUp I 0 9 ((I 0 9) + 1)), L))) rfl (by first | (simp only [f0_9, f0_10, f0_11, f1_2, f2_1, f4_1, f6_0, f6_1, f6_2, f6_3, f7_0, f7_1, f7_2, f7_3, f9_0, f9_1, f9_2, f25_0, f25_1, f26_1, f30_1, f32_1, f34_1, f34_3, f34_4, f34_11, f37_0, f37_1, f37_2, f37_3, f38_0, f38_1, f38_2, f39_0, f39_1, f39_2, f41_0, f41_1, f41_2, f41_3, f41_4, f41_5, g34_7, g34_8, hro0, hro1, hro1_0, hro1_1, hro1_2, hro2, hro2_0, hro2_1, hro2_2, hro13, mTn0, mTn1, mTn2, mTn10, of_decide_eq_true c0]; first | decide | rfl) | decide | rfl) ?_
      refine mB 4 (s2 := (11, 163, 259, [some (.ref 1000), some (.ref 0), some (.ref 34), some (.int 0)], [.int 3, .ref 1000, .int ((ro 0).2 2), .int ((ro 0).2 1), .ref 34, .int (-2)], 62, 3336, (mSH, (mUp I 0 9 ((I 0 9) + 1)), L))) rfl ?_
      refine mRq (s2 := (11, 163, 260, [some (.ref 1000), some (.ref 0), some (.ref 34), some (.int 0)], [.int ((ro 0).2 3), .int ((ro 0).2 2), .int ((ro 0).2 1), .ref 34, .int (-2)], 62, 3336, (mSH, (mUp I 0 9 ((I 0 9) + 1)), L))) rfl (by first | (simp only [f0_9, f0_10, f0_11, f1_2, f2_1, f4_1, f6_0, f6_1, f6_2, f6_3, f7_0, f7_1, f7_2, f7_3, f9_0, f9_1, f9_2, f25_0, f25_1, f26_1, f30_1, f32_1, f34_1, f34_3, f34_4, f34_11, f37_0, f37_1, f37_2, f37_3, f38_0, f38_1, f38_2, f39_0, f39_1, f39_2, f41_0, f41_1, f41_2, f41_3, f41_4, f41_5, g34_7, g34_8, hro0, hro1, hro1_0, hro1_1, hro1_2, hro2, hro2_0, hro2_1, hro2_2, hro13, mTn0, mTn1, mTn2, mTn10, of_decide_eq_true c0]; first | decide | rfl) | decide | rfl) ?_
      refine mCall (s2 := (10, 119, 0, [some (.ref 34), some (.int ((ro 0).2 1)), some (.int ((ro 0).2 2)), some (.int ((ro 0).2 3)), none], [], 0, 0, (mSH, (mUp I 0 9 ((I 0 9) + 1)), L))) rfl ?_
      refine mB 3 (s2 := (10, 119, 3, [some (.ref 34), some (.int ((ro 0).2 1)), some (.int ((ro 0).2 2)), some (.int ((ro 0).2 3)), none], [.int 1, .int 0, .int ((ro 0).2 1)], 0, 0, (mSH, (mUp I 0 9 ((I 0 9) + 1)), L))) rfl ?_
      refine mCall (s2 := (9, 112, 0, [some (.int ((ro 0).2 1)), some (.int 0), some (.int 1)], [], 0, 0, (mSH, (mUp I 0 9 ((I 0 9) + 1)), L))) rfl ?_
      refine mB 2 (s2 := (9, 112, 2, [some (.int ((ro 0).2 1)), some (.int 0), some (.int 1)], [.int 0, .int ((ro 0).2 1)], 0, 0, (mSH, (mUp I 0 9 ((I 0 9) + 1)), L))) rfl ?_
      refine mBF (s3 := (9, 112, 5, [some (.int ((ro 0).2 1)), some (.int 0), some (.int 1)], [], 0, 0, (mSH, (mUp I 0 9 ((I 0 9) + 1)), L))) rfl (by first | (simp only [f0_9, f0_10, f0_11, f1_2, f2_1, f4_1, f6_0, f6_1, f6_2, f6_3, f7_0, f7_1, f7_2, f7_3, f9_0, f9_1, f9_2, f25_0, f25_1, f26_1, f30_1, f32_1, f34_1, f34_3, f34_4, f34_11, f37_0, f37_1, f37_2, f37_3, f38_0, f38_1, f38_2, f39_0, f39_1, f39_2, f41_0, f41_1, f41_2, f41_3, f41_4, f41_5, g34_7, g34_8, hro0, hro1, hro1_0, hro1_1, hro1_2, hro2, hro2_0, hro2_1, hro2_2, hro13, mTn0, mTn1, mTn2, mTn10, of_decide_eq_true c0]; first | decide | rfl) | decide | rfl) ?_
      refine mB 2 (s2 := (9, 112, 7, [some (.int ((ro 0).2 1)), some (.int 0), some (.int 1)], [.int 1, .int ((ro 0).2 1)], 0, 0, (mSH, (mUp I 0 9 ((I 0 9) + 1)), L))) rfl ?_
      refine mBF (s3 := (9, 112, 10, [some (.int ((ro 0).2 1)), some (.int 0), some (.int 1)], [], 0, 0, (mSH, (mUp I 0 9 ((I 0 9) + 1)), L))) rfl (by first | (simp only [f0_9, f0_10, f0_11, f1_2, f2_1, f4_1, f6_0, f6_1, f6_2, f6_3, f7_0, f7_1, f7_2, f7_3, f9_0, f9_1, f9_2, f25_0, f25_1, f26_1, f30_1, f32_1, f34_1, f34_3, f34_4, f34_11, f37_0, f37_1, f37_2, f37_3, f38_0, f38_1, f38_2, f39_0, f39_1, f39_2, f41_0, f41_1, f41_2, f41_3, f41_4, f41_5, g34_7, g34_8, hro0, hro1, hro1_0, hro1_1, hro1_2, hro2, hro2_0, hro2_1, hro2_2, hro13, mTn0, mTn1, mTn2, mTn10, of_decide_eq_true c0]; first | decide | rfl) | decide | rfl) ?_
      refine mB 2 (s2 := (9, 112, 15, [some (.int ((ro 0).2 1)), some (.int 0), some (.int 1)], [.int 1], 0, 0, (mSH, (mUp I 0 9 ((I 0 9) + 1)), L))) rfl ?_
      refine mRt (r := (some (.int 1))) (h := (mSH, (mUp I 0 9 ((I 0 9) + 1)), L)) rfl rfl ?_
      show mWP mTb_ mFT ro (10, 119, 6, [some (.ref 34), some (.int ((ro 0).2 1)), some (.int ((ro 0).2 2)), some (.int ((ro 0).2 3)), none], [.int 1], 0, 0, (mSH, (mUp I 0 9 ((I 0 9) + 1)), L)) _
      refine mBF (s3 := (10, 119, 9, [some (.ref 34), some (.int ((ro 0).2 1)), some (.int ((ro 0).2 2)), some (.int ((ro 0).2 3)), none], [], 0, 0, (mSH, (mUp I 0 9 ((I 0 9) + 1)), L))) rfl (by decide) ?_
      refine mB 1 (s2 := (10, 119, 10, [some (.ref 34), some (.int ((ro 0).2 1)), some (.int ((ro 0).2 2)), some (.int ((ro 0).2 3)), none], [.int ((ro 0).2 1)], 0, 0, (mSH, (mUp I 0 9 ((I 0 9) + 1)), L))) rfl ?_
      refine mBT (s2 := (10, 119, 13, [some (.ref 34), some (.int ((ro 0).2 1)), some (.int ((ro 0).2 2)), some (.int ((ro 0).2 3)), none], [], 0, 0, (mSH, (mUp I 0 9 ((I 0 9) + 1)), L))) rfl (by first | (simp only [f0_9, f0_10, f0_11, f1_2, f2_1, f4_1, f6_0, f6_1, f6_2, f6_3, f7_0, f7_1, f7_2, f7_3, f9_0, f9_1, f9_2, f25_0, f25_1, f26_1, f30_1, f32_1, f34_1, f34_3, f34_4, f34_11, f37_0, f37_1, f37_2, f37_3, f38_0, f38_1, f38_2, f39_0, f39_1, f39_2, f41_0, f41_1, f41_2, f41_3, f41_4, f41_5, g34_7, g34_8, hro0, hro1, hro1_0, hro1_1, hro1_2, hro2, hro2_0, hro2_1, hro2_2, hro13, mTn0, mTn1, mTn2, mTn10, of_decide_eq_true c0]; first | decide | rfl) | decide | rfl) ?_
      refine mB 2 (s2 := (10, 119, 15, [some (.ref 34), some (.int ((ro 0).2 1)), some (.int ((ro 0).2 2)), some (.int ((ro 0).2 3)), none], [.int ((ro 0).2 2), .ref 34], 0, 0, (mSH, (mUp I 0 9 ((I 0 9) + 1)), L))) rfl ?_
      refine mCall (s2 := (9, 114, 0, [some (.ref 34), some (.int ((ro 0).2 2))], [], 0, 0, (mSH, (mUp I 0 9 ((I 0 9) + 1)), L))) rfl ?_
      refine mB 6 (s2 := (9, 114, 8, [some (.ref 34), some (.int ((ro 0).2 2))], [.int ((I 34 1) - 1), .int 0, .int ((ro 0).2 2)], 0, 0, (mSH, (mUp I 0 9 ((I 0 9) + 1)), L))) rfl ?_
      refine mCall (s2 := (8, 112, 0, [some (.int ((ro 0).2 2)), some (.int 0), some (.int ((I 34 1) - 1))], [], 0, 0, (mSH, (mUp I 0 9 ((I 0 9) + 1)), L))) rfl ?_
      refine mB 2 (s2 := (8, 112, 2, [some (.int ((ro 0).2 2)), some (.int 0), some (.int ((I 34 1) - 1))], [.int 0, .int ((ro 0).2 2)], 0, 0, (mSH, (mUp I 0 9 ((I 0 9) + 1)), L))) rfl ?_
      refine mBF (s3 := (8, 112, 5, [some (.int ((ro 0).2 2)), some (.int 0), some (.int ((I 34 1) - 1))], [], 0, 0, (mSH, (mUp I 0 9 ((I 0 9) + 1)), L))) rfl (decide_eq_false (by
        have a0 := of_decide_eq_true c0
        have a1 := of_decide_eq_false c1
        simp only [f0_9, f0_10, f0_11, f1_2, f2_1, f4_1, f6_0, f6_1, f6_2, f6_3, f7_0, f7_1, f7_2, f7_3, f9_0, f9_1, f9_2, f25_0, f25_1, f26_1, f30_1, f32_1, f34_1, f34_3, f34_4, f34_11, f37_0, f37_1, f37_2, f37_3, f38_0, f38_1, f38_2, f39_0, f39_1, f39_2, f41_0, f41_1, f41_2, f41_3, f41_4, f41_5, g34_7, g34_8, hro0, hro1, hro1_0, hro1_1, hro1_2, hro2, hro2_0, hro2_1, hro2_2, hro13, mTn0, mTn1, mTn2, mTn10, of_decide_eq_true c0, Int32.lt_iff_toInt_lt, Int32.le_iff_toInt_le, ← Int32.toInt_inj, mLi0, mLi1, mLi2, mLi3, mLi4, mLi5, mLi6, mLi7, mLi8, mLi9, mLi16, mLi99, mLi120, mLi127, mLi1584, mLi999999, mLim] at a0 a1 ⊢
        omega)) ?_
      refine mB 2 (s2 := (8, 112, 7, [some (.int ((ro 0).2 2)), some (.int 0), some (.int ((I 34 1) - 1))], [.int ((I 34 1) - 1), .int ((ro 0).2 2)], 0, 0, (mSH, (mUp I 0 9 ((I 0 9) + 1)), L))) rfl ?_
      refine mBT (s2 := (8, 112, 14, [some (.int ((ro 0).2 2)), some (.int 0), some (.int ((I 34 1) - 1))], [], 0, 0, (mSH, (mUp I 0 9 ((I 0 9) + 1)), L))) rfl (decide_eq_true (by
        have a0 := of_decide_eq_true c0
        have a1 := of_decide_eq_false c1
        simp only [f0_9, f0_10, f0_11, f1_2, f2_1, f4_1, f6_0, f6_1, f6_2, f6_3, f7_0, f7_1, f7_2, f7_3, f9_0, f9_1, f9_2, f25_0, f25_1, f26_1, f30_1, f32_1, f34_1, f34_3, f34_4, f34_11, f37_0, f37_1, f37_2, f37_3, f38_0, f38_1, f38_2, f39_0, f39_1, f39_2, f41_0, f41_1, f41_2, f41_3, f41_4, f41_5, g34_7, g34_8, hro0, hro1, hro1_0, hro1_1, hro1_2, hro2, hro2_0, hro2_1, hro2_2, hro13, mTn0, mTn1, mTn2, mTn10, of_decide_eq_true c0, Int32.lt_iff_toInt_lt, Int32.le_iff_toInt_le, ← Int32.toInt_inj, mLi0, mLi1, mLi2, mLi3, mLi4, mLi5, mLi6, mLi7, mLi8, mLi9, mLi16, mLi99, mLi120, mLi127, mLi1584, mLi999999, mLim] at a0 a1 ⊢
        omega)) ?_
      refine mB 1 (s2 := (8, 112, 15, [some (.int ((ro 0).2 2)), some (.int 0), some (.int ((I 34 1) - 1))], [.int 0], 0, 0, (mSH, (mUp I 0 9 ((I 0 9) + 1)), L))) rfl ?_
      refine mRt (r := (some (.int 0))) (h := (mSH, (mUp I 0 9 ((I 0 9) + 1)), L)) rfl rfl ?_
      show mWP mTb_ mFT ro (9, 114, 11, [some (.ref 34), some (.int ((ro 0).2 2))], [.int 0], 0, 0, (mSH, (mUp I 0 9 ((I 0 9) + 1)), L)) _
      refine mRt (r := (some (.int 0))) (h := (mSH, (mUp I 0 9 ((I 0 9) + 1)), L)) rfl rfl ?_
      show mWP mTb_ mFT ro (10, 119, 18, [some (.ref 34), some (.int ((ro 0).2 1)), some (.int ((ro 0).2 2)), some (.int ((ro 0).2 3)), none], [.int 0], 0, 0, (mSH, (mUp I 0 9 ((I 0 9) + 1)), L)) _
      refine mBT (s2 := (10, 119, 42, [some (.ref 34), some (.int ((ro 0).2 1)), some (.int ((ro 0).2 2)), some (.int ((ro 0).2 3)), none], [], 0, 0, (mSH, (mUp I 0 9 ((I 0 9) + 1)), L))) rfl (by decide) ?_
      refine mB 2 (s2 := (10, 119, 45, [some (.ref 34), some (.int ((ro 0).2 1)), some (.int ((ro 0).2 2)), some (.int ((ro 0).2 3)), none], [.int (-2), .ref 34], 0, 0, (mSH, (mUp I 0 9 ((I 0 9) + 1)), L))) rfl ?_
      refine mCall (s2 := (9, 113, 0, [some (.ref 34), some (.int (-2))], [], 0, 0, (mSH, (mUp I 0 9 ((I 0 9) + 1)), L))) rfl ?_
      refine mB 6 (s2 := (9, 113, 9, [some (.ref 34), some (.int (-2))], [.int 0, .ref 39, .int 0, .ref 39], 0, 0, (mSH, (mUp I 0 9 ((I 0 9) + 1)), L))) rfl ?_
      refine mRq (s2 := (9, 113, 10, [some (.ref 34), some (.int (-2))], [.int (I 39 0), .int 0, .ref 39], 0, 0, (mSH, (mUp I 0 9 ((I 0 9) + 1)), L))) rfl (by decide) ?_
      refine mB 2 (s2 := (9, 113, 12, [some (.ref 34), some (.int (-2))], [.int ((I 39 0) + 1), .int 0, .ref 39], 0, 0, (mSH, (mUp I 0 9 ((I 0 9) + 1)), L))) rfl ?_
      refine mRq (s2 := (9, 113, 13, [some (.ref 34), some (.int (-2))], [], 0, 0, (mSH, (mUp (mUp I 0 9 ((I 0 9) + 1)) 39 0 ((I 39 0) + 1)), L))) rfl (by decide) ?_
      refine mB 1 (s2 := (9, 113, 14, [some (.ref 34), some (.int (-2))], [.int (-2)], 0, 0, (mSH, (mUp (mUp I 0 9 ((I 0 9) + 1)) 39 0 ((I 39 0) + 1)), L))) rfl ?_
      refine mRt (r := (some (.int (-2)))) (h := (mSH, (mUp (mUp I 0 9 ((I 0 9) + 1)) 39 0 ((I 39 0) + 1)), L)) rfl (mRet_int rfl) ?_
      show mWP mTb_ mFT ro (10, 119, 48, [some (.ref 34), some (.int ((ro 0).2 1)), some (.int ((ro 0).2 2)), some (.int ((ro 0).2 3)), none], [.int (-2)], 0, 0, (mSH, (mUp (mUp I 0 9 ((I 0 9) + 1)) 39 0 ((I 39 0) + 1)), L)) _
      refine mRt (r := (some (.int (-2)))) (h := (mSH, (mUp (mUp I 0 9 ((I 0 9) + 1)) 39 0 ((I 39 0) + 1)), L)) rfl (mRet_int rfl) ?_
      show mWP mTb_ mFT ro (11, 163, 263, [some (.ref 1000), some (.ref 0), some (.ref 34), some (.int 0)], [.int (-2), .int (-2)], 62, 3336, (mSH, (mUp (mUp I 0 9 ((I 0 9) + 1)) 39 0 ((I 39 0) + 1)), L)) _
      refine mBT (s2 := (11, 163, 808, [some (.ref 1000), some (.ref 0), some (.ref 34), some (.int 0)], [], 62, 3336, (mSH, (mUp (mUp I 0 9 ((I 0 9) + 1)) 39 0 ((I 39 0) + 1)), L))) rfl (by decide) ?_
      exact h2 (of_decide_eq_true c0) (of_decide_eq_false c1)
  · refine mB 2 (s2 := (9, 108, 6, [some (.int ((ro 0).2 1))], [.int 1, .int ((ro 0).2 1)], 0, 0, (mSH, I, L))) rfl ?_
    refine mBr (s2 := (9, 108, 9, [some (.int ((ro 0).2 1))], [], 0, 0, (mSH, I, L))) (s3 := (9, 108, 13, [some (.int ((ro 0).2 1))], [], 0, 0, (mSH, I, L))) rfl (fun c1 => ?_) (fun c1 => ?_)
    · refine mB 2 (s2 := (9, 108, 14, [some (.int ((ro 0).2 1))], [.int 1], 0, 0, (mSH, I, L))) rfl ?_
      refine mRt (r := (some (.int 1))) (h := (mSH, I, L)) rfl rfl ?_
      show mWP mTb_ mFT ro (10, 79, 4, [some (.ref 0), some (.int ((ro 0).2 1)), some (.int ((ro 0).2 2)), some (.int ((ro 0).2 3)), none, none], [.int 1], 0, 0, (mSH, I, L)) _
      refine mBF (s3 := (10, 79, 7, [some (.ref 0), some (.int ((ro 0).2 1)), some (.int ((ro 0).2 2)), some (.int ((ro 0).2 3)), none, none], [], 0, 0, (mSH, I, L))) rfl (by decide) ?_
      refine mB 3 (s2 := (10, 79, 12, [some (.ref 0), some (.int ((ro 0).2 1)), some (.int ((ro 0).2 2)), some (.int ((ro 0).2 3)), none, none], [.int ((ro 0).2 1), .ref 1], 0, 0, (mSH, I, L))) rfl ?_
      refine mCall (s2 := (9, 67, 0, [some (.ref 1), some (.int ((ro 0).2 1))], [], 0, 0, (mSH, I, L))) rfl ?_
      refine mB 1 (s2 := (9, 67, 1, [some (.ref 1), some (.int ((ro 0).2 1))], [.int ((ro 0).2 1)], 0, 0, (mSH, I, L))) rfl ?_
      refine mBF (s3 := (9, 67, 11, [some (.ref 1), some (.int ((ro 0).2 1))], [], 0, 0, (mSH, I, L))) rfl (by first | (simp only [f0_9, f0_10, f0_11, f1_2, f2_1, f4_1, f6_0, f6_1, f6_2, f6_3, f7_0, f7_1, f7_2, f7_3, f9_0, f9_1, f9_2, f25_0, f25_1, f26_1, f30_1, f32_1, f34_1, f34_3, f34_4, f34_11, f37_0, f37_1, f37_2, f37_3, f38_0, f38_1, f38_2, f39_0, f39_1, f39_2, f41_0, f41_1, f41_2, f41_3, f41_4, f41_5, g34_7, g34_8, hro0, hro1, hro1_0, hro1_1, hro1_2, hro2, hro2_0, hro2_1, hro2_2, hro13, mTn0, mTn1, mTn2, mTn10, of_decide_eq_true c1]; first | decide | rfl) | decide | rfl) ?_
      refine mB 2 (s2 := (9, 67, 15, [some (.ref 1), some (.int ((ro 0).2 1))], [.ref 4], 0, 0, (mSH, I, L))) rfl ?_
      refine mRt (r := (some (.ref 4))) (h := (mSH, I, L)) rfl rfl ?_
      show mWP mTb_ mFT ro (10, 79, 15, [some (.ref 0), some (.int ((ro 0).2 1)), some (.int ((ro 0).2 2)), some (.int ((ro 0).2 3)), none, none], [.ref 4], 0, 0, (mSH, I, L)) _
      refine mB 1 (s2 := (10, 79, 16, [some (.ref 0), some (.int ((ro 0).2 1)), some (.int ((ro 0).2 2)), some (.int ((ro 0).2 3)), none, none], [.int ((ro 0).2 2), .ref 4], 0, 0, (mSH, I, L))) rfl ?_
      refine mCall (s2 := (9, 41, 0, [some (.ref 4), some (.int ((ro 0).2 2))], [], 0, 0, (mSH, I, L))) rfl ?_
      refine mB 1 (s2 := (9, 41, 1, [some (.ref 4), some (.int ((ro 0).2 2))], [.int ((ro 0).2 2)], 0, 0, (mSH, I, L))) rfl ?_
      refine mBr (s2 := (9, 41, 16, [some (.ref 4), some (.int ((ro 0).2 2))], [], 0, 0, (mSH, I, L))) (s3 := (9, 41, 4, [some (.ref 4), some (.int ((ro 0).2 2))], [], 0, 0, (mSH, I, L))) rfl (fun c2 => ?_) (fun c2 => ?_)
      · refine mB 1 (s2 := (9, 41, 17, [some (.ref 4), some (.int ((ro 0).2 2))], [.int 0], 0, 0, (mSH, I, L))) rfl ?_
        refine mRt (r := (some (.int 0))) (h := (mSH, I, L)) rfl rfl ?_
        show mWP mTb_ mFT ro (10, 79, 19, [some (.ref 0), some (.int ((ro 0).2 1)), some (.int ((ro 0).2 2)), some (.int ((ro 0).2 3)), none, none], [.int 0], 0, 0, (mSH, I, L)) _
        refine mBT (s2 := (10, 79, 29, [some (.ref 0), some (.int ((ro 0).2 1)), some (.int ((ro 0).2 2)), some (.int ((ro 0).2 3)), none, none], [], 0, 0, (mSH, I, L))) rfl (by decide) ?_
        refine mB 2 (s2 := (10, 79, 32, [some (.ref 0), some (.int ((ro 0).2 1)), some (.int ((ro 0).2 2)), some (.int ((ro 0).2 3)), none, none], [.int (-2), .ref 0], 0, 0, (mSH, I, L))) rfl ?_
        refine mCall (s2 := (9, 103, 0, [some (.ref 0), some (.int (-2))], [], 0, 0, (mSH, I, L))) rfl ?_
        refine mB 2 (s2 := (9, 103, 3, [some (.ref 0), some (.int (-2))], [.int (-2), .int (-2)], 0, 0, (mSH, I, L))) rfl ?_
        refine mBT (s2 := (9, 103, 6, [some (.ref 0), some (.int (-2))], [], 0, 0, (mSH, I, L))) rfl (by decide) ?_
        refine mB 8 (s2 := (9, 103, 49, [some (.ref 0), some (.int (-2))], [.int (-2)], 0, 0, (mSH, (mUp I 0 9 ((I 0 9) + 1)), L))) rfl ?_
        refine mRt (r := (some (.int (-2)))) (h := (mSH, (mUp I 0 9 ((I 0 9) + 1)), L)) rfl (mRet_int rfl) ?_
        show mWP mTb_ mFT ro (10, 79, 35, [some (.ref 0), some (.int ((ro 0).2 1)), some (.int ((ro 0).2 2)), some (.int ((ro 0).2 3)), none, none], [.int (-2)], 0, 0, (mSH, (mUp I 0 9 ((I 0 9) + 1)), L)) _
        refine mRt (r := (some (.int (-2)))) (h := (mSH, (mUp I 0 9 ((I 0 9) + 1)), L)) rfl (mRet_int rfl) ?_
        show mWP mTb_ mFT ro (11, 163, 244, [some (.ref 1000), some (.ref 0), some (.ref 34), some (.int 0)], [.int (-2)], 62, 3336, (mSH, (mUp I 0 9 ((I 0 9) + 1)), L)) _
        refine mB 5 (s2 := (11, 163, 249, [some (.ref 1000), some (.ref 0), some (.ref 34), some (.int 0)], [.int 1, .ref 1000, .ref 34, .int (-2)], 62, 3336, (mSH, (mUp I 0 9 ((I 0 9) + 1)), L))) rfl ?_
        refine mRq (s2 := (11, 163, 250, [some (.ref 1000), some (.ref 0), some (.ref 34), some (.int 0)], [.int ((ro 0).2 1), .ref 34, .int (-2)], 62, 3336, (mSH, (mUp I 0 9 ((I 0 9) + 1)), L))) rfl (by first | (simp only [f0_9, f0_10, f0_11, f1_2, f2_1, f4_1, f6_0, f6_1, f6_2, f6_3, f7_0, f7_1, f7_2, f7_3, f9_0, f9_1, f9_2, f25_0, f25_1, f26_1, f30_1, f32_1, f34_1, f34_3, f34_4, f34_11, f37_0, f37_1, f37_2, f37_3, f38_0, f38_1, f38_2, f39_0, f39_1, f39_2, f41_0, f41_1, f41_2, f41_3, f41_4, f41_5, g34_7, g34_8, hro0, hro1, hro1_0, hro1_1, hro1_2, hro2, hro2_0, hro2_1, hro2_2, hro13, mTn0, mTn1, mTn2, mTn10, of_decide_eq_true c1]; first | decide | rfl) | decide | rfl) ?_
        refine mB 4 (s2 := (11, 163, 254, [some (.ref 1000), some (.ref 0), some (.ref 34), some (.int 0)], [.int 2, .ref 1000, .int ((ro 0).2 1), .ref 34, .int (-2)], 62, 3336, (mSH, (mUp I 0 9 ((I 0 9) + 1)), L))) rfl ?_
        refine mRq (s2 := (11, 163, 255, [some (.ref 1000), some (.ref 0), some (.ref 34), some (.int 0)], [.int ((ro 0).2 2), .int ((ro 0).2 1), .ref 34, .int (-2)], 62, 3336, (mSH, (mUp I 0 9 ((I 0 9) + 1)), L))) rfl (by first | (simp only [f0_9, f0_10, f0_11, f1_2, f2_1, f4_1, f6_0, f6_1, f6_2, f6_3, f7_0, f7_1, f7_2, f7_3, f9_0, f9_1, f9_2, f25_0, f25_1, f26_1, f30_1, f32_1, f34_1, f34_3, f34_4, f34_11, f37_0, f37_1, f37_2, f37_3, f38_0, f38_1, f38_2, f39_0, f39_1, f39_2, f41_0, f41_1, f41_2, f41_3, f41_4, f41_5, g34_7, g34_8, hro0, hro1, hro1_0, hro1_1, hro1_2, hro2, hro2_0, hro2_1, hro2_2, hro13, mTn0, mTn1, mTn2, mTn10, of_decide_eq_true c1]; first | decide | rfl) | decide | rfl) ?_
        refine mB 4 (s2 := (11, 163, 259, [some (.ref 1000), some (.ref 0), some (.ref 34), some (.int 0)], [.int 3, .ref 1000, .int ((ro 0).2 2), .int ((ro 0).2 1), .ref 34, .int (-2)], 62, 3336, (mSH, (mUp I 0 9 ((I 0 9) + 1)), L))) rfl ?_
        refine mRq (s2 := (11, 163, 260, [some (.ref 1000), some (.ref 0), some (.ref 34), some (.int 0)], [.int ((ro 0).2 3), .int ((ro 0).2 2), .int ((ro 0).2 1), .ref 34, .int (-2)], 62, 3336, (mSH, (mUp I 0 9 ((I 0 9) + 1)), L))) rfl (by first | (simp only [f0_9, f0_10, f0_11, f1_2, f2_1, f4_1, f6_0, f6_1, f6_2, f6_3, f7_0, f7_1, f7_2, f7_3, f9_0, f9_1, f9_2, f25_0, f25_1, f26_1, f30_1, f32_1, f34_1, f34_3, f34_4, f34_11, f37_0, f37_1, f37_2, f37_3, f38_0, f38_1, f38_2, f39_0, f39_1, f39_2, f41_0, f41_1, f41_2, f41_3, f41_4, f41_5, g34_7, g34_8, hro0, hro1, hro1_0, hro1_1, hro1_2, hro2, hro2_0, hro2_1, hro2_2, hro13, mTn0, mTn1, mTn2, mTn10, of_decide_eq_true c1]; first | decide | rfl) | decide | rfl) ?_
        refine mCall (s2 := (10, 119, 0, [some (.ref 34), some (.int ((ro 0).2 1)), some (.int ((ro 0).2 2)), some (.int ((ro 0).2 3)), none], [], 0, 0, (mSH, (mUp I 0 9 ((I 0 9) + 1)), L))) rfl ?_
        refine mB 3 (s2 := (10, 119, 3, [some (.ref 34), some (.int ((ro 0).2 1)), some (.int ((ro 0).2 2)), some (.int ((ro 0).2 3)), none], [.int 1, .int 0, .int ((ro 0).2 1)], 0, 0, (mSH, (mUp I 0 9 ((I 0 9) + 1)), L))) rfl ?_
        refine mCall (s2 := (9, 112, 0, [some (.int ((ro 0).2 1)), some (.int 0), some (.int 1)], [], 0, 0, (mSH, (mUp I 0 9 ((I 0 9) + 1)), L))) rfl ?_
        refine mB 2 (s2 := (9, 112, 2, [some (.int ((ro 0).2 1)), some (.int 0), some (.int 1)], [.int 0, .int ((ro 0).2 1)], 0, 0, (mSH, (mUp I 0 9 ((I 0 9) + 1)), L))) rfl ?_
        refine mBF (s3 := (9, 112, 5, [some (.int ((ro 0).2 1)), some (.int 0), some (.int 1)], [], 0, 0, (mSH, (mUp I 0 9 ((I 0 9) + 1)), L))) rfl (by first | (simp only [f0_9, f0_10, f0_11, f1_2, f2_1, f4_1, f6_0, f6_1, f6_2, f6_3, f7_0, f7_1, f7_2, f7_3, f9_0, f9_1, f9_2, f25_0, f25_1, f26_1, f30_1, f32_1, f34_1, f34_3, f34_4, f34_11, f37_0, f37_1, f37_2, f37_3, f38_0, f38_1, f38_2, f39_0, f39_1, f39_2, f41_0, f41_1, f41_2, f41_3, f41_4, f41_5, g34_7, g34_8, hro0, hro1, hro1_0, hro1_1, hro1_2, hro2, hro2_0, hro2_1, hro2_2, hro13, mTn0, mTn1, mTn2, mTn10, of_decide_eq_true c1]; first | decide | rfl) | decide | rfl) ?_
        refine mB 2 (s2 := (9, 112, 7, [some (.int ((ro 0).2 1)), some (.int 0), some (.int 1)], [.int 1, .int ((ro 0).2 1)], 0, 0, (mSH, (mUp I 0 9 ((I 0 9) + 1)), L))) rfl ?_
        refine mBF (s3 := (9, 112, 10, [some (.int ((ro 0).2 1)), some (.int 0), some (.int 1)], [], 0, 0, (mSH, (mUp I 0 9 ((I 0 9) + 1)), L))) rfl (by first | (simp only [f0_9, f0_10, f0_11, f1_2, f2_1, f4_1, f6_0, f6_1, f6_2, f6_3, f7_0, f7_1, f7_2, f7_3, f9_0, f9_1, f9_2, f25_0, f25_1, f26_1, f30_1, f32_1, f34_1, f34_3, f34_4, f34_11, f37_0, f37_1, f37_2, f37_3, f38_0, f38_1, f38_2, f39_0, f39_1, f39_2, f41_0, f41_1, f41_2, f41_3, f41_4, f41_5, g34_7, g34_8, hro0, hro1, hro1_0, hro1_1, hro1_2, hro2, hro2_0, hro2_1, hro2_2, hro13, mTn0, mTn1, mTn2, mTn10, of_decide_eq_true c1]; first | decide | rfl) | decide | rfl) ?_
        refine mB 2 (s2 := (9, 112, 15, [some (.int ((ro 0).2 1)), some (.int 0), some (.int 1)], [.int 1], 0, 0, (mSH, (mUp I 0 9 ((I 0 9) + 1)), L))) rfl ?_
        refine mRt (r := (some (.int 1))) (h := (mSH, (mUp I 0 9 ((I 0 9) + 1)), L)) rfl rfl ?_
        show mWP mTb_ mFT ro (10, 119, 6, [some (.ref 34), some (.int ((ro 0).2 1)), some (.int ((ro 0).2 2)), some (.int ((ro 0).2 3)), none], [.int 1], 0, 0, (mSH, (mUp I 0 9 ((I 0 9) + 1)), L)) _
        refine mBF (s3 := (10, 119, 9, [some (.ref 34), some (.int ((ro 0).2 1)), some (.int ((ro 0).2 2)), some (.int ((ro 0).2 3)), none], [], 0, 0, (mSH, (mUp I 0 9 ((I 0 9) + 1)), L))) rfl (by decide) ?_
        refine mB 1 (s2 := (10, 119, 10, [some (.ref 34), some (.int ((ro 0).2 1)), some (.int ((ro 0).2 2)), some (.int ((ro 0).2 3)), none], [.int ((ro 0).2 1)], 0, 0, (mSH, (mUp I 0 9 ((I 0 9) + 1)), L))) rfl ?_
        refine mBF (s3 := (10, 119, 24, [some (.ref 34), some (.int ((ro 0).2 1)), some (.int ((ro 0).2 2)), some (.int ((ro 0).2 3)), none], [], 0, 0, (mSH, (mUp I 0 9 ((I 0 9) + 1)), L))) rfl (by first | (simp only [f0_9, f0_10, f0_11, f1_2, f2_1, f4_1, f6_0, f6_1, f6_2, f6_3, f7_0, f7_1, f7_2, f7_3, f9_0, f9_1, f9_2, f25_0, f25_1, f26_1, f30_1, f32_1, f34_1, f34_3, f34_4, f34_11, f37_0, f37_1, f37_2, f37_3, f38_0, f38_1, f38_2, f39_0, f39_1, f39_2, f41_0, f41_1, f41_2, f41_3, f41_4, f41_5, g34_7, g34_8, hro0, hro1, hro1_0, hro1_1, hro1_2, hro2, hro2_0, hro2_1, hro2_2, hro13, mTn0, mTn1, mTn2, mTn10, of_decide_eq_true c1]; first | decide | rfl) | decide | rfl) ?_
        refine mB 2 (s2 := (10, 119, 26, [some (.ref 34), some (.int ((ro 0).2 1)), some (.int ((ro 0).2 2)), some (.int ((ro 0).2 3)), none], [.int ((ro 0).2 2), .ref 34], 0, 0, (mSH, (mUp I 0 9 ((I 0 9) + 1)), L))) rfl ?_
        refine mCall (s2 := (9, 115, 0, [some (.ref 34), some (.int ((ro 0).2 2))], [], 0, 0, (mSH, (mUp I 0 9 ((I 0 9) + 1)), L))) rfl ?_
        refine mB 6 (s2 := (9, 115, 8, [some (.ref 34), some (.int ((ro 0).2 2))], [.int ((I 34 3) - 1), .int 0, .int ((ro 0).2 2)], 0, 0, (mSH, (mUp I 0 9 ((I 0 9) + 1)), L))) rfl ?_
        refine mCall (s2 := (8, 112, 0, [some (.int ((ro 0).2 2)), some (.int 0), some (.int ((I 34 3) - 1))], [], 0, 0, (mSH, (mUp I 0 9 ((I 0 9) + 1)), L))) rfl ?_
        refine mB 2 (s2 := (8, 112, 2, [some (.int ((ro 0).2 2)), some (.int 0), some (.int ((I 34 3) - 1))], [.int 0, .int ((ro 0).2 2)], 0, 0, (mSH, (mUp I 0 9 ((I 0 9) + 1)), L))) rfl ?_
        refine mBT (s2 := (8, 112, 14, [some (.int ((ro 0).2 2)), some (.int 0), some (.int ((I 34 3) - 1))], [], 0, 0, (mSH, (mUp I 0 9 ((I 0 9) + 1)), L))) rfl (decide_eq_true (by
        have a0 := of_decide_eq_false c0
        have a1 := of_decide_eq_true c1
        have a2 := of_decide_eq_true c2
        simp only [f0_9, f0_10, f0_11, f1_2, f2_1, f4_1, f6_0, f6_1, f6_2, f6_3, f7_0, f7_1, f7_2, f7_3, f9_0, f9_1, f9_2, f25_0, f25_1, f26_1, f30_1, f32_1, f34_1, f34_3, f34_4, f34_11, f37_0, f37_1, f37_2, f37_3, f38_0, f38_1, f38_2, f39_0, f39_1, f39_2, f41_0, f41_1, f41_2, f41_3, f41_4, f41_5, g34_7, g34_8, hro0, hro1, hro1_0, hro1_1, hro1_2, hro2, hro2_0, hro2_1, hro2_2, hro13, mTn0, mTn1, mTn2, mTn10, of_decide_eq_true c1, Int32.lt_iff_toInt_lt, Int32.le_iff_toInt_le, ← Int32.toInt_inj, mLi0, mLi1, mLi2, mLi3, mLi4, mLi5, mLi6, mLi7, mLi8, mLi9, mLi16, mLi99, mLi120, mLi127, mLi1584, mLi999999, mLim] at a0 a1 a2 ⊢
        omega)) ?_
        refine mB 1 (s2 := (8, 112, 15, [some (.int ((ro 0).2 2)), some (.int 0), some (.int ((I 34 3) - 1))], [.int 0], 0, 0, (mSH, (mUp I 0 9 ((I 0 9) + 1)), L))) rfl ?_
        refine mRt (r := (some (.int 0))) (h := (mSH, (mUp I 0 9 ((I 0 9) + 1)), L)) rfl rfl ?_
        show mWP mTb_ mFT ro (9, 115, 11, [some (.ref 34), some (.int ((ro 0).2 2))], [.int 0], 0, 0, (mSH, (mUp I 0 9 ((I 0 9) + 1)), L)) _
        refine mRt (r := (some (.int 0))) (h := (mSH, (mUp I 0 9 ((I 0 9) + 1)), L)) rfl rfl ?_
        show mWP mTb_ mFT ro (10, 119, 29, [some (.ref 34), some (.int ((ro 0).2 1)), some (.int ((ro 0).2 2)), some (.int ((ro 0).2 3)), none], [.int 0], 0, 0, (mSH, (mUp I 0 9 ((I 0 9) + 1)), L)) _
        refine mBT (s2 := (10, 119, 42, [some (.ref 34), some (.int ((ro 0).2 1)), some (.int ((ro 0).2 2)), some (.int ((ro 0).2 3)), none], [], 0, 0, (mSH, (mUp I 0 9 ((I 0 9) + 1)), L))) rfl (by decide) ?_
        refine mB 2 (s2 := (10, 119, 45, [some (.ref 34), some (.int ((ro 0).2 1)), some (.int ((ro 0).2 2)), some (.int ((ro 0).2 3)), none], [.int (-2), .ref 34], 0, 0, (mSH, (mUp I 0 9 ((I 0 9) + 1)), L))) rfl ?_
        refine mCall (s2 := (9, 113, 0, [some (.ref 34), some (.int (-2))], [], 0, 0, (mSH, (mUp I 0 9 ((I 0 9) + 1)), L))) rfl ?_
        refine mB 6 (s2 := (9, 113, 9, [some (.ref 34), some (.int (-2))], [.int 0, .ref 39, .int 0, .ref 39], 0, 0, (mSH, (mUp I 0 9 ((I 0 9) + 1)), L))) rfl ?_
        refine mRq (s2 := (9, 113, 10, [some (.ref 34), some (.int (-2))], [.int (I 39 0), .int 0, .ref 39], 0, 0, (mSH, (mUp I 0 9 ((I 0 9) + 1)), L))) rfl (by decide) ?_
        refine mB 2 (s2 := (9, 113, 12, [some (.ref 34), some (.int (-2))], [.int ((I 39 0) + 1), .int 0, .ref 39], 0, 0, (mSH, (mUp I 0 9 ((I 0 9) + 1)), L))) rfl ?_
        refine mRq (s2 := (9, 113, 13, [some (.ref 34), some (.int (-2))], [], 0, 0, (mSH, (mUp (mUp I 0 9 ((I 0 9) + 1)) 39 0 ((I 39 0) + 1)), L))) rfl (by decide) ?_
        refine mB 1 (s2 := (9, 113, 14, [some (.ref 34), some (.int (-2))], [.int (-2)], 0, 0, (mSH, (mUp (mUp I 0 9 ((I 0 9) + 1)) 39 0 ((I 39 0) + 1)), L))) rfl ?_
        refine mRt (r := (some (.int (-2)))) (h := (mSH, (mUp (mUp I 0 9 ((I 0 9) + 1)) 39 0 ((I 39 0) + 1)), L)) rfl (mRet_int rfl) ?_
        show mWP mTb_ mFT ro (10, 119, 48, [some (.ref 34), some (.int ((ro 0).2 1)), some (.int ((ro 0).2 2)), some (.int ((ro 0).2 3)), none], [.int (-2)], 0, 0, (mSH, (mUp (mUp I 0 9 ((I 0 9) + 1)) 39 0 ((I 39 0) + 1)), L)) _
        refine mRt (r := (some (.int (-2)))) (h := (mSH, (mUp (mUp I 0 9 ((I 0 9) + 1)) 39 0 ((I 39 0) + 1)), L)) rfl (mRet_int rfl) ?_
        show mWP mTb_ mFT ro (11, 163, 263, [some (.ref 1000), some (.ref 0), some (.ref 34), some (.int 0)], [.int (-2), .int (-2)], 62, 3336, (mSH, (mUp (mUp I 0 9 ((I 0 9) + 1)) 39 0 ((I 39 0) + 1)), L)) _
        refine mBT (s2 := (11, 163, 808, [some (.ref 1000), some (.ref 0), some (.ref 34), some (.int 0)], [], 62, 3336, (mSH, (mUp (mUp I 0 9 ((I 0 9) + 1)) 39 0 ((I 39 0) + 1)), L))) rfl (by decide) ?_
        exact h3 (of_decide_eq_false c0) (of_decide_eq_true c1) (of_decide_eq_true c2)
      · refine mB 3 (s2 := (9, 41, 9, [some (.ref 4), some (.int ((ro 0).2 2))], [.int (I 4 1), .int ((ro 0).2 2)], 0, 0, (mSH, I, L))) rfl ?_
        refine mBT (s2 := (9, 41, 16, [some (.ref 4), some (.int ((ro 0).2 2))], [], 0, 0, (mSH, I, L))) rfl (decide_eq_true (by
        have a0 := of_decide_eq_false c0
        have a1 := of_decide_eq_true c1
        have a2 := of_decide_eq_false c2
        simp only [f0_9, f0_10, f0_11, f1_2, f2_1, f4_1, f6_0, f6_1, f6_2, f6_3, f7_0, f7_1, f7_2, f7_3, f9_0, f9_1, f9_2, f25_0, f25_1, f26_1, f30_1, f32_1, f34_1, f34_3, f34_4, f34_11, f37_0, f37_1, f37_2, f37_3, f38_0, f38_1, f38_2, f39_0, f39_1, f39_2, f41_0, f41_1, f41_2, f41_3, f41_4, f41_5, g34_7, g34_8, hro0, hro1, hro1_0, hro1_1, hro1_2, hro2, hro2_0, hro2_1, hro2_2, hro13, mTn0, mTn1, mTn2, mTn10, of_decide_eq_true c1, Int32.lt_iff_toInt_lt, Int32.le_iff_toInt_le, ← Int32.toInt_inj, mLi0, mLi1, mLi2, mLi3, mLi4, mLi5, mLi6, mLi7, mLi8, mLi9, mLi16, mLi99, mLi120, mLi127, mLi1584, mLi999999, mLim] at a0 a1 a2 ⊢
        omega)) ?_
        refine mB 1 (s2 := (9, 41, 17, [some (.ref 4), some (.int ((ro 0).2 2))], [.int 0], 0, 0, (mSH, I, L))) rfl ?_
        refine mRt (r := (some (.int 0))) (h := (mSH, I, L)) rfl rfl ?_
        show mWP mTb_ mFT ro (10, 79, 19, [some (.ref 0), some (.int ((ro 0).2 1)), some (.int ((ro 0).2 2)), some (.int ((ro 0).2 3)), none, none], [.int 0], 0, 0, (mSH, I, L)) _
        refine mBT (s2 := (10, 79, 29, [some (.ref 0), some (.int ((ro 0).2 1)), some (.int ((ro 0).2 2)), some (.int ((ro 0).2 3)), none, none], [], 0, 0, (mSH, I, L))) rfl (by decide) ?_
        refine mB 2 (s2 := (10, 79, 32, [some (.ref 0), some (.int ((ro 0).2 1)), some (.int ((ro 0).2 2)), some (.int ((ro 0).2 3)), none, none], [.int (-2), .ref 0], 0, 0, (mSH, I, L))) rfl ?_
        refine mCall (s2 := (9, 103, 0, [some (.ref 0), some (.int (-2))], [], 0, 0, (mSH, I, L))) rfl ?_
        refine mB 2 (s2 := (9, 103, 3, [some (.ref 0), some (.int (-2))], [.int (-2), .int (-2)], 0, 0, (mSH, I, L))) rfl ?_
        refine mBT (s2 := (9, 103, 6, [some (.ref 0), some (.int (-2))], [], 0, 0, (mSH, I, L))) rfl (by decide) ?_
        refine mB 8 (s2 := (9, 103, 49, [some (.ref 0), some (.int (-2))], [.int (-2)], 0, 0, (mSH, (mUp I 0 9 ((I 0 9) + 1)), L))) rfl ?_
        refine mRt (r := (some (.int (-2)))) (h := (mSH, (mUp I 0 9 ((I 0 9) + 1)), L)) rfl (mRet_int rfl) ?_
        show mWP mTb_ mFT ro (10, 79, 35, [some (.ref 0), some (.int ((ro 0).2 1)), some (.int ((ro 0).2 2)), some (.int ((ro 0).2 3)), none, none], [.int (-2)], 0, 0, (mSH, (mUp I 0 9 ((I 0 9) + 1)), L)) _
        refine mRt (r := (some (.int (-2)))) (h := (mSH, (mUp I 0 9 ((I 0 9) + 1)), L)) rfl (mRet_int rfl) ?_
        show mWP mTb_ mFT ro (11, 163, 244, [some (.ref 1000), some (.ref 0), some (.ref 34), some (.int 0)], [.int (-2)], 62, 3336, (mSH, (mUp I 0 9 ((I 0 9) + 1)), L)) _
        refine mB 5 (s2 := (11, 163, 249, [some (.ref 1000), some (.ref 0), some (.ref 34), some (.int 0)], [.int 1, .ref 1000, .ref 34, .int (-2)], 62, 3336, (mSH, (mUp I 0 9 ((I 0 9) + 1)), L))) rfl ?_
        refine mRq (s2 := (11, 163, 250, [some (.ref 1000), some (.ref 0), some (.ref 34), some (.int 0)], [.int ((ro 0).2 1), .ref 34, .int (-2)], 62, 3336, (mSH, (mUp I 0 9 ((I 0 9) + 1)), L))) rfl (by first | (simp only [f0_9, f0_10, f0_11, f1_2, f2_1, f4_1, f6_0, f6_1, f6_2, f6_3, f7_0, f7_1, f7_2, f7_3, f9_0, f9_1, f9_2, f25_0, f25_1, f26_1, f30_1, f32_1, f34_1, f34_3, f34_4, f34_11, f37_0, f37_1, f37_2, f37_3, f38_0, f38_1, f38_2, f39_0, f39_1, f39_2, f41_0, f41_1, f41_2, f41_3, f41_4, f41_5, g34_7, g34_8, hro0, hro1, hro1_0, hro1_1, hro1_2, hro2, hro2_0, hro2_1, hro2_2, hro13, mTn0, mTn1, mTn2, mTn10, of_decide_eq_true c1]; first | decide | rfl) | decide | rfl) ?_
        refine mB 4 (s2 := (11, 163, 254, [some (.ref 1000), some (.ref 0), some (.ref 34), some (.int 0)], [.int 2, .ref 1000, .int ((ro 0).2 1), .ref 34, .int (-2)], 62, 3336, (mSH, (mUp I 0 9 ((I 0 9) + 1)), L))) rfl ?_
        refine mRq (s2 := (11, 163, 255, [some (.ref 1000), some (.ref 0), some (.ref 34), some (.int 0)], [.int ((ro 0).2 2), .int ((ro 0).2 1), .ref 34, .int (-2)], 62, 3336, (mSH, (mUp I 0 9 ((I 0 9) + 1)), L))) rfl (by first | (simp only [f0_9, f0_10, f0_11, f1_2, f2_1, f4_1, f6_0, f6_1, f6_2, f6_3, f7_0, f7_1, f7_2, f7_3, f9_0, f9_1, f9_2, f25_0, f25_1, f26_1, f30_1, f32_1, f34_1, f34_3, f34_4, f34_11, f37_0, f37_1, f37_2, f37_3, f38_0, f38_1, f38_2, f39_0, f39_1, f39_2, f41_0, f41_1, f41_2, f41_3, f41_4, f41_5, g34_7, g34_8, hro0, hro1, hro1_0, hro1_1, hro1_2, hro2, hro2_0, hro2_1, hro2_2, hro13, mTn0, mTn1, mTn2, mTn10, of_decide_eq_true c1]; first | decide | rfl) | decide | rfl) ?_
        refine mB 4 (s2 := (11, 163, 259, [some (.ref 1000), some (.ref 0), some (.ref 34), some (.int 0)], [.int 3, .ref 1000, .int ((ro 0).2 2), .int ((ro 0).2 1), .ref 34, .int (-2)], 62, 3336, (mSH, (mUp I 0 9 ((I 0 9) + 1)), L))) rfl ?_
        refine mRq (s2 := (11, 163, 260, [some (.ref 1000), some (.ref 0), some (.ref 34), some (.int 0)], [.int ((ro 0).2 3), .int ((ro 0).2 2), .int ((ro 0).2 1), .ref 34, .int (-2)], 62, 3336, (mSH, (mUp I 0 9 ((I 0 9) + 1)), L))) rfl (by first | (simp only [f0_9, f0_10, f0_11, f1_2, f2_1, f4_1, f6_0, f6_1, f6_2, f6_3, f7_0, f7_1, f7_2, f7_3, f9_0, f9_1, f9_2, f25_0, f25_1, f26_1, f30_1, f32_1, f34_1, f34_3, f34_4, f34_11, f37_0, f37_1, f37_2, f37_3, f38_0, f38_1, f38_2, f39_0, f39_1, f39_2, f41_0, f41_1, f41_2, f41_3, f41_4, f41_5, g34_7, g34_8, hro0, hro1, hro1_0, hro1_1, hro1_2, hro2, hro2_0, hro2_1, hro2_2, hro13, mTn0, mTn1, mTn2, mTn10, of_decide_eq_true c1]; first | decide | rfl) | decide | rfl) ?_
        refine mCall (s2 := (10, 119, 0, [some (.ref 34), some (.int ((ro 0).2 1)), some (.int ((ro 0).2 2)), some (.int ((ro 0).2 3)), none], [], 0, 0, (mSH, (mUp I 0 9 ((I 0 9) + 1)), L))) rfl ?_
        refine mB 3 (s2 := (10, 119, 3, [some (.ref 34), some (.int ((ro 0).2 1)), some (.int ((ro 0).2 2)), some (.int ((ro 0).2 3)), none], [.int 1, .int 0, .int ((ro 0).2 1)], 0, 0, (mSH, (mUp I 0 9 ((I 0 9) + 1)), L))) rfl ?_
        refine mCall (s2 := (9, 112, 0, [some (.int ((ro 0).2 1)), some (.int 0), some (.int 1)], [], 0, 0, (mSH, (mUp I 0 9 ((I 0 9) + 1)), L))) rfl ?_
        refine mB 2 (s2 := (9, 112, 2, [some (.int ((ro 0).2 1)), some (.int 0), some (.int 1)], [.int 0, .int ((ro 0).2 1)], 0, 0, (mSH, (mUp I 0 9 ((I 0 9) + 1)), L))) rfl ?_
        refine mBF (s3 := (9, 112, 5, [some (.int ((ro 0).2 1)), some (.int 0), some (.int 1)], [], 0, 0, (mSH, (mUp I 0 9 ((I 0 9) + 1)), L))) rfl (by first | (simp only [f0_9, f0_10, f0_11, f1_2, f2_1, f4_1, f6_0, f6_1, f6_2, f6_3, f7_0, f7_1, f7_2, f7_3, f9_0, f9_1, f9_2, f25_0, f25_1, f26_1, f30_1, f32_1, f34_1, f34_3, f34_4, f34_11, f37_0, f37_1, f37_2, f37_3, f38_0, f38_1, f38_2, f39_0, f39_1, f39_2, f41_0, f41_1, f41_2, f41_3, f41_4, f41_5, g34_7, g34_8, hro0, hro1, hro1_0, hro1_1, hro1_2, hro2, hro2_0, hro2_1, hro2_2, hro13, mTn0, mTn1, mTn2, mTn10, of_decide_eq_true c1]; first | decide | rfl) | decide | rfl) ?_
        refine mB 2 (s2 := (9, 112, 7, [some (.int ((ro 0).2 1)), some (.int 0), some (.int 1)], [.int 1, .int ((ro 0).2 1)], 0, 0, (mSH, (mUp I 0 9 ((I 0 9) + 1)), L))) rfl ?_
        refine mBF (s3 := (9, 112, 10, [some (.int ((ro 0).2 1)), some (.int 0), some (.int 1)], [], 0, 0, (mSH, (mUp I 0 9 ((I 0 9) + 1)), L))) rfl (by first | (simp only [f0_9, f0_10, f0_11, f1_2, f2_1, f4_1, f6_0, f6_1, f6_2, f6_3, f7_0, f7_1, f7_2, f7_3, f9_0, f9_1, f9_2, f25_0, f25_1, f26_1, f30_1, f32_1, f34_1, f34_3, f34_4, f34_11, f37_0, f37_1, f37_2, f37_3, f38_0, f38_1, f38_2, f39_0, f39_1, f39_2, f41_0, f41_1, f41_2, f41_3, f41_4, f41_5, g34_7, g34_8, hro0, hro1, hro1_0, hro1_1, hro1_2, hro2, hro2_0, hro2_1, hro2_2, hro13, mTn0, mTn1, mTn2, mTn10, of_decide_eq_true c1]; first | decide | rfl) | decide | rfl) ?_
        refine mB 2 (s2 := (9, 112, 15, [some (.int ((ro 0).2 1)), some (.int 0), some (.int 1)], [.int 1], 0, 0, (mSH, (mUp I 0 9 ((I 0 9) + 1)), L))) rfl ?_
        refine mRt (r := (some (.int 1))) (h := (mSH, (mUp I 0 9 ((I 0 9) + 1)), L)) rfl rfl ?_
        show mWP mTb_ mFT ro (10, 119, 6, [some (.ref 34), some (.int ((ro 0).2 1)), some (.int ((ro 0).2 2)), some (.int ((ro 0).2 3)), none], [.int 1], 0, 0, (mSH, (mUp I 0 9 ((I 0 9) + 1)), L)) _
        refine mBF (s3 := (10, 119, 9, [some (.ref 34), some (.int ((ro 0).2 1)), some (.int ((ro 0).2 2)), some (.int ((ro 0).2 3)), none], [], 0, 0, (mSH, (mUp I 0 9 ((I 0 9) + 1)), L))) rfl (by decide) ?_
        refine mB 1 (s2 := (10, 119, 10, [some (.ref 34), some (.int ((ro 0).2 1)), some (.int ((ro 0).2 2)), some (.int ((ro 0).2 3)), none], [.int ((ro 0).2 1)], 0, 0, (mSH, (mUp I 0 9 ((I 0 9) + 1)), L))) rfl ?_
        refine mBF (s3 := (10, 119, 24, [some (.ref 34), some (.int ((ro 0).2 1)), some (.int ((ro 0).2 2)), some (.int ((ro 0).2 3)), none], [], 0, 0, (mSH, (mUp I 0 9 ((I 0 9) + 1)), L))) rfl (by first | (simp only [f0_9, f0_10, f0_11, f1_2, f2_1, f4_1, f6_0, f6_1, f6_2, f6_3, f7_0, f7_1, f7_2, f7_3, f9_0, f9_1, f9_2, f25_0, f25_1, f26_1, f30_1, f32_1, f34_1, f34_3, f34_4, f34_11, f37_0, f37_1, f37_2, f37_3, f38_0, f38_1, f38_2, f39_0, f39_1, f39_2, f41_0, f41_1, f41_2, f41_3, f41_4, f41_5, g34_7, g34_8, hro0, hro1, hro1_0, hro1_1, hro1_2, hro2, hro2_0, hro2_1, hro2_2, hro13, mTn0, mTn1, mTn2, mTn10, of_decide_eq_true c1]; first | decide | rfl) | decide | rfl) ?_
        refine mB 2 (s2 := (10, 119, 26, [some (.ref 34), some (.int ((ro 0).2 1)), some (.int ((ro 0).2 2)), some (.int ((ro 0).2 3)), none], [.int ((ro 0).2 2), .ref 34], 0, 0, (mSH, (mUp I 0 9 ((I 0 9) + 1)), L))) rfl ?_
        refine mCall (s2 := (9, 115, 0, [some (.ref 34), some (.int ((ro 0).2 2))], [], 0, 0, (mSH, (mUp I 0 9 ((I 0 9) + 1)), L))) rfl ?_
        refine mB 6 (s2 := (9, 115, 8, [some (.ref 34), some (.int ((ro 0).2 2))], [.int ((I 34 3) - 1), .int 0, .int ((ro 0).2 2)], 0, 0, (mSH, (mUp I 0 9 ((I 0 9) + 1)), L))) rfl ?_
        refine mCall (s2 := (8, 112, 0, [some (.int ((ro 0).2 2)), some (.int 0), some (.int ((I 34 3) - 1))], [], 0, 0, (mSH, (mUp I 0 9 ((I 0 9) + 1)), L))) rfl ?_
        refine mB 2 (s2 := (8, 112, 2, [some (.int ((ro 0).2 2)), some (.int 0), some (.int ((I 34 3) - 1))], [.int 0, .int ((ro 0).2 2)], 0, 0, (mSH, (mUp I 0 9 ((I 0 9) + 1)), L))) rfl ?_
        refine mBF (s3 := (8, 112, 5, [some (.int ((ro 0).2 2)), some (.int 0), some (.int ((I 34 3) - 1))], [], 0, 0, (mSH, (mUp I 0 9 ((I 0 9) + 1)), L))) rfl (decide_eq_false (by
        have a0 := of_decide_eq_false c0
        have a1 := of_decide_eq_true c1
        have a2 := of_decide_eq_false c2
        simp only [f0_9, f0_10, f0_11, f1_2, f2_1, f4_1, f6_0, f6_1, f6_2, f6_3, f7_0, f7_1, f7_2, f7_3, f9_0, f9_1, f9_2, f25_0, f25_1, f26_1, f30_1, f32_1, f34_1, f34_3, f34_4, f34_11, f37_0, f37_1, f37_2, f37_3, f38_0, f38_1, f38_2, f39_0, f39_1, f39_2, f41_0, f41_1, f41_2, f41_3, f41_4, f41_5, g34_7, g34_8, hro0, hro1, hro1_0, hro1_1, hro1_2, hro2, hro2_0, hro2_1, hro2_2, hro13, mTn0, mTn1, mTn2, mTn10, of_decide_eq_true c1, Int32.lt_iff_toInt_lt, Int32.le_iff_toInt_le, ← Int32.toInt_inj, mLi0, mLi1, mLi2, mLi3, mLi4, mLi5, mLi6, mLi7, mLi8, mLi9, mLi16, mLi99, mLi120, mLi127, mLi1584, mLi999999, mLim] at a0 a1 a2 ⊢
        omega)) ?_
        refine mB 2 (s2 := (8, 112, 7, [some (.int ((ro 0).2 2)), some (.int 0), some (.int ((I 34 3) - 1))], [.int ((I 34 3) - 1), .int ((ro 0).2 2)], 0, 0, (mSH, (mUp I 0 9 ((I 0 9) + 1)), L))) rfl ?_
        refine mBT (s2 := (8, 112, 14, [some (.int ((ro 0).2 2)), some (.int 0), some (.int ((I 34 3) - 1))], [], 0, 0, (mSH, (mUp I 0 9 ((I 0 9) + 1)), L))) rfl (decide_eq_true (by
        have a0 := of_decide_eq_false c0
        have a1 := of_decide_eq_true c1
        have a2 := of_decide_eq_false c2
        simp only [f0_9, f0_10, f0_11, f1_2, f2_1, f4_1, f6_0, f6_1, f6_2, f6_3, f7_0, f7_1, f7_2, f7_3, f9_0, f9_1, f9_2, f25_0, f25_1, f26_1, f30_1, f32_1, f34_1, f34_3, f34_4, f34_11, f37_0, f37_1, f37_2, f37_3, f38_0, f38_1, f38_2, f39_0, f39_1, f39_2, f41_0, f41_1, f41_2, f41_3, f41_4, f41_5, g34_7, g34_8, hro0, hro1, hro1_0, hro1_1, hro1_2, hro2, hro2_0, hro2_1, hro2_2, hro13, mTn0, mTn1, mTn2, mTn10, of_decide_eq_true c1, Int32.lt_iff_toInt_lt, Int32.le_iff_toInt_le, ← Int32.toInt_inj, mLi0, mLi1, mLi2, mLi3, mLi4, mLi5, mLi6, mLi7, mLi8, mLi9, mLi16, mLi99, mLi120, mLi127, mLi1584, mLi999999, mLim] at a0 a1 a2 ⊢
        omega)) ?_
        refine mB 1 (s2 := (8, 112, 15, [some (.int ((ro 0).2 2)), some (.int 0), some (.int ((I 34 3) - 1))], [.int 0], 0, 0, (mSH, (mUp I 0 9 ((I 0 9) + 1)), L))) rfl ?_
        refine mRt (r := (some (.int 0))) (h := (mSH, (mUp I 0 9 ((I 0 9) + 1)), L)) rfl rfl ?_
        show mWP mTb_ mFT ro (9, 115, 11, [some (.ref 34), some (.int ((ro 0).2 2))], [.int 0], 0, 0, (mSH, (mUp I 0 9 ((I 0 9) + 1)), L)) _
        refine mRt (r := (some (.int 0))) (h := (mSH, (mUp I 0 9 ((I 0 9) + 1)), L)) rfl rfl ?_
        show mWP mTb_ mFT ro (10, 119, 29, [some (.ref 34), some (.int ((ro 0).2 1)), some (.int ((ro 0).2 2)), some (.int ((ro 0).2 3)), none], [.int 0], 0, 0, (mSH, (mUp I 0 9 ((I 0 9) + 1)), L)) _
        refine mBT (s2 := (10, 119, 42, [some (.ref 34), some (.int ((ro 0).2 1)), some (.int ((ro 0).2 2)), some (.int ((ro 0).2 3)), none], [], 0, 0, (mSH, (mUp I 0 9 ((I 0 9) + 1)), L))) rfl (by decide) ?_
        refine mB 2 (s2 := (10, 119, 45, [some (.ref 34), some (.int ((ro 0).2 1)), some (.int ((ro 0).2 2)), some (.int ((ro 0).2 3)), none], [.int (-2), .ref 34], 0, 0, (mSH, (mUp I 0 9 ((I 0 9) + 1)), L))) rfl ?_
        refine mCall (s2 := (9, 113, 0, [some (.ref 34), some (.int (-2))], [], 0, 0, (mSH, (mUp I 0 9 ((I 0 9) + 1)), L))) rfl ?_
        refine mB 6 (s2 := (9, 113, 9, [some (.ref 34), some (.int (-2))], [.int 0, .ref 39, .int 0, .ref 39], 0, 0, (mSH, (mUp I 0 9 ((I 0 9) + 1)), L))) rfl ?_
        refine mRq (s2 := (9, 113, 10, [some (.ref 34), some (.int (-2))], [.int (I 39 0), .int 0, .ref 39], 0, 0, (mSH, (mUp I 0 9 ((I 0 9) + 1)), L))) rfl (by decide) ?_
        refine mB 2 (s2 := (9, 113, 12, [some (.ref 34), some (.int (-2))], [.int ((I 39 0) + 1), .int 0, .ref 39], 0, 0, (mSH, (mUp I 0 9 ((I 0 9) + 1)), L))) rfl ?_
        refine mRq (s2 := (9, 113, 13, [some (.ref 34), some (.int (-2))], [], 0, 0, (mSH, (mUp (mUp I 0 9 ((I 0 9) + 1)) 39 0 ((I 39 0) + 1)), L))) rfl (by decide) ?_
        refine mB 1 (s2 := (9, 113, 14, [some (.ref 34), some (.int (-2))], [.int (-2)], 0, 0, (mSH, (mUp (mUp I 0 9 ((I 0 9) + 1)) 39 0 ((I 39 0) + 1)), L))) rfl ?_
        refine mRt (r := (some (.int (-2)))) (h := (mSH, (mUp (mUp I 0 9 ((I 0 9) + 1)) 39 0 ((I 39 0) + 1)), L)) rfl (mRet_int rfl) ?_
        show mWP mTb_ mFT ro (10, 119, 48, [some (.ref 34), some (.int ((ro 0).2 1)), some (.int ((ro 0).2 2)), some (.int ((ro 0).2 3)), none], [.int (-2)], 0, 0, (mSH, (mUp (mUp I 0 9 ((I 0 9) + 1)) 39 0 ((I 39 0) + 1)), L)) _
        refine mRt (r := (some (.int (-2)))) (h := (mSH, (mUp (mUp I 0 9 ((I 0 9) + 1)) 39 0 ((I 39 0) + 1)), L)) rfl (mRet_int rfl) ?_
        show mWP mTb_ mFT ro (11, 163, 263, [some (.ref 1000), some (.ref 0), some (.ref 34), some (.int 0)], [.int (-2), .int (-2)], 62, 3336, (mSH, (mUp (mUp I 0 9 ((I 0 9) + 1)) 39 0 ((I 39 0) + 1)), L)) _
        refine mBT (s2 := (11, 163, 808, [some (.ref 1000), some (.ref 0), some (.ref 34), some (.int 0)], [], 62, 3336, (mSH, (mUp (mUp I 0 9 ((I 0 9) + 1)) 39 0 ((I 39 0) + 1)), L))) rfl (by decide) ?_
        exact h4 (of_decide_eq_false c0) (of_decide_eq_true c1) (of_decide_eq_false c2)
    · refine mB 1 (s2 := (9, 108, 14, [some (.int ((ro 0).2 1))], [.int 0], 0, 0, (mSH, I, L))) rfl ?_
      refine mRt (r := (some (.int 0))) (h := (mSH, I, L)) rfl rfl ?_
      show mWP mTb_ mFT ro (10, 79, 4, [some (.ref 0), some (.int ((ro 0).2 1)), some (.int ((ro 0).2 2)), some (.int ((ro 0).2 3)), none, none], [.int 0], 0, 0, (mSH, I, L)) _
      refine mBT (s2 := (10, 79, 29, [some (.ref 0), some (.int ((ro 0).2 1)), some (.int ((ro 0).2 2)), some (.int ((ro 0).2 3)), none, none], [], 0, 0, (mSH, I, L))) rfl (by decide) ?_
      refine mB 2 (s2 := (10, 79, 32, [some (.ref 0), some (.int ((ro 0).2 1)), some (.int ((ro 0).2 2)), some (.int ((ro 0).2 3)), none, none], [.int (-2), .ref 0], 0, 0, (mSH, I, L))) rfl ?_
      refine mCall (s2 := (9, 103, 0, [some (.ref 0), some (.int (-2))], [], 0, 0, (mSH, I, L))) rfl ?_
      refine mB 2 (s2 := (9, 103, 3, [some (.ref 0), some (.int (-2))], [.int (-2), .int (-2)], 0, 0, (mSH, I, L))) rfl ?_
      refine mBT (s2 := (9, 103, 6, [some (.ref 0), some (.int (-2))], [], 0, 0, (mSH, I, L))) rfl (by decide) ?_
      refine mB 8 (s2 := (9, 103, 49, [some (.ref 0), some (.int (-2))], [.int (-2)], 0, 0, (mSH, (mUp I 0 9 ((I 0 9) + 1)), L))) rfl ?_
      refine mRt (r := (some (.int (-2)))) (h := (mSH, (mUp I 0 9 ((I 0 9) + 1)), L)) rfl (mRet_int rfl) ?_
      show mWP mTb_ mFT ro (10, 79, 35, [some (.ref 0), some (.int ((ro 0).2 1)), some (.int ((ro 0).2 2)), some (.int ((ro 0).2 3)), none, none], [.int (-2)], 0, 0, (mSH, (mUp I 0 9 ((I 0 9) + 1)), L)) _
      refine mRt (r := (some (.int (-2)))) (h := (mSH, (mUp I 0 9 ((I 0 9) + 1)), L)) rfl (mRet_int rfl) ?_
      show mWP mTb_ mFT ro (11, 163, 244, [some (.ref 1000), some (.ref 0), some (.ref 34), some (.int 0)], [.int (-2)], 62, 3336, (mSH, (mUp I 0 9 ((I 0 9) + 1)), L)) _
      refine mB 5 (s2 := (11, 163, 249, [some (.ref 1000), some (.ref 0), some (.ref 34), some (.int 0)], [.int 1, .ref 1000, .ref 34, .int (-2)], 62, 3336, (mSH, (mUp I 0 9 ((I 0 9) + 1)), L))) rfl ?_
      refine mRq (s2 := (11, 163, 250, [some (.ref 1000), some (.ref 0), some (.ref 34), some (.int 0)], [.int ((ro 0).2 1), .ref 34, .int (-2)], 62, 3336, (mSH, (mUp I 0 9 ((I 0 9) + 1)), L))) rfl (by first | (simp only [f0_9, f0_10, f0_11, f1_2, f2_1, f4_1, f6_0, f6_1, f6_2, f6_3, f7_0, f7_1, f7_2, f7_3, f9_0, f9_1, f9_2, f25_0, f25_1, f26_1, f30_1, f32_1, f34_1, f34_3, f34_4, f34_11, f37_0, f37_1, f37_2, f37_3, f38_0, f38_1, f38_2, f39_0, f39_1, f39_2, f41_0, f41_1, f41_2, f41_3, f41_4, f41_5, g34_7, g34_8, hro0, hro1, hro1_0, hro1_1, hro1_2, hro2, hro2_0, hro2_1, hro2_2, hro13, mTn0, mTn1, mTn2, mTn10]; first | decide | rfl) | decide | rfl) ?_
      refine mB 4 (s2 := (11, 163, 254, [some (.ref 1000), some (.ref 0), some (.ref 34), some (.int 0)], [.int 2, .ref 1000, .int ((ro 0).2 1), .ref 34, .int (-2)], 62, 3336, (mSH, (mUp I 0 9 ((I 0 9) + 1)), L))) rfl ?_
      refine mRq (s2 := (11, 163, 255, [some (.ref 1000), some (.ref 0), some (.ref 34), some (.int 0)], [.int ((ro 0).2 2), .int ((ro 0).2 1), .ref 34, .int (-2)], 62, 3336, (mSH, (mUp I 0 9 ((I 0 9) + 1)), L))) rfl (by first | (simp only [f0_9, f0_10, f0_11, f1_2, f2_1, f4_1, f6_0, f6_1, f6_2, f6_3, f7_0, f7_1, f7_2, f7_3, f9_0, f9_1, f9_2, f25_0, f25_1, f26_1, f30_1, f32_1, f34_1, f34_3, f34_4, f34_11, f37_0, f37_1, f37_2, f37_3, f38_0, f38_1, f38_2, f39_0, f39_1, f39_2, f41_0, f41_1, f41_2, f41_3, f41_4, f41_5, g34_7, g34_8, hro0, hro1, hro1_0, hro1_1, hro1_2, hro2, hro2_0, hro2_1, hro2_2, hro13, mTn0, mTn1, mTn2, mTn10]; first | decide | rfl) | decide | rfl) ?_
      refine mB 4 (s2 := (11, 163, 259, [some (.ref 1000), some (.ref 0), some (.ref 34), some (.int 0)], [.int 3, .ref 1000, .int ((ro 0).2 2), .int ((ro 0).2 1), .ref 34, .int (-2)], 62, 3336, (mSH, (mUp I 0 9 ((I 0 9) + 1)), L))) rfl ?_
      refine mRq (s2 := (11, 163, 260, [some (.ref 1000), some (.ref 0), some (.ref 34), some (.int 0)], [.int ((ro 0).2 3), .int ((ro 0).2 2), .int ((ro 0).2 1), .ref 34, .int (-2)], 62, 3336, (mSH, (mUp I 0 9 ((I 0 9) + 1)), L))) rfl (by first | (simp only [f0_9, f0_10, f0_11, f1_2, f2_1, f4_1, f6_0, f6_1, f6_2, f6_3, f7_0, f7_1, f7_2, f7_3, f9_0, f9_1, f9_2, f25_0, f25_1, f26_1, f30_1, f32_1, f34_1, f34_3, f34_4, f34_11, f37_0, f37_1, f37_2, f37_3, f38_0, f38_1, f38_2, f39_0, f39_1, f39_2, f41_0, f41_1, f41_2, f41_3, f41_4, f41_5, g34_7, g34_8, hro0, hro1, hro1_0, hro1_1, hro1_2, hro2, hro2_0, hro2_1, hro2_2, hro13, mTn0, mTn1, mTn2, mTn10]; first | decide | rfl) | decide | rfl) ?_
      refine mCall (s2 := (10, 119, 0, [some (.ref 34), some (.int ((ro 0).2 1)), some (.int ((ro 0).2 2)), some (.int ((ro 0).2 3)), none], [], 0, 0, (mSH, (mUp I 0 9 ((I 0 9) + 1)), L))) rfl ?_
      refine mB 3 (s2 := (10, 119, 3, [some (.ref 34), some (.int ((ro 0).2 1)), some (.int ((ro 0).2 2)), some (.int ((ro 0).2 3)), none], [.int 1, .int 0, .int ((ro 0).2 1)], 0, 0, (mSH, (mUp I 0 9 ((I 0 9) + 1)), L))) rfl ?_
      refine mCall (s2 := (9, 112, 0, [some (.int ((ro 0).2 1)), some (.int 0), some (.int 1)], [], 0, 0, (mSH, (mUp I 0 9 ((I 0 9) + 1)), L))) rfl ?_
      refine mB 2 (s2 := (9, 112, 2, [some (.int ((ro 0).2 1)), some (.int 0), some (.int 1)], [.int 0, .int ((ro 0).2 1)], 0, 0, (mSH, (mUp I 0 9 ((I 0 9) + 1)), L))) rfl ?_
      refine mBr (s2 := (9, 112, 14, [some (.int ((ro 0).2 1)), some (.int 0), some (.int 1)], [], 0, 0, (mSH, (mUp I 0 9 ((I 0 9) + 1)), L))) (s3 := (9, 112, 5, [some (.int ((ro 0).2 1)), some (.int 0), some (.int 1)], [], 0, 0, (mSH, (mUp I 0 9 ((I 0 9) + 1)), L))) rfl (fun c2 => ?_) (fun c2 => ?_)
      · refine mB 1 (s2 := (9, 112, 15, [some (.int ((ro 0).2 1)), some (.int 0), some (.int 1)], [.int 0], 0, 0, (mSH, (mUp I 0 9 ((I 0 9) + 1)), L))) rfl ?_
        refine mRt (r := (some (.int 0))) (h := (mSH, (mUp I 0 9 ((I 0 9) + 1)), L)) rfl rfl ?_
        show mWP mTb_ mFT ro (10, 119, 6, [some (.ref 34), some (.int ((ro 0).2 1)), some (.int ((ro 0).2 2)), some (.int ((ro 0).2 3)), none], [.int 0], 0, 0, (mSH, (mUp I 0 9 ((I 0 9) + 1)), L)) _
        refine mBT (s2 := (10, 119, 42, [some (.ref 34), some (.int ((ro 0).2 1)), some (.int ((ro 0).2 2)), some (.int ((ro 0).2 3)), none], [], 0, 0, (mSH, (mUp I 0 9 ((I 0 9) + 1)), L))) rfl (by decide) ?_
        refine mB 2 (s2 := (10, 119, 45, [some (.ref 34), some (.int ((ro 0).2 1)), some (.int ((ro 0).2 2)), some (.int ((ro 0).2 3)), none], [.int (-2), .ref 34], 0, 0, (mSH, (mUp I 0 9 ((I 0 9) + 1)), L))) rfl ?_
        refine mCall (s2 := (9, 113, 0, [some (.ref 34), some (.int (-2))], [], 0, 0, (mSH, (mUp I 0 9 ((I 0 9) + 1)), L))) rfl ?_
        refine mB 6 (s2 := (9, 113, 9, [some (.ref 34), some (.int (-2))], [.int 0, .ref 39, .int 0, .ref 39], 0, 0, (mSH, (mUp I 0 9 ((I 0 9) + 1)), L))) rfl ?_
        refine mRq (s2 := (9, 113, 10, [some (.ref 34), some (.int (-2))], [.int (I 39 0), .int 0, .ref 39], 0, 0, (mSH, (mUp I 0 9 ((I 0 9) + 1)), L))) rfl (by decide) ?_
        refine mB 2 (s2 := (9, 113, 12, [some (.ref 34), some (.int (-2))], [.int ((I 39 0) + 1), .int 0, .ref 39], 0, 0, (mSH, (mUp I 0 9 ((I 0 9) + 1)), L))) rfl ?_
        refine mRq (s2 := (9, 113, 13, [some (.ref 34), some (.int (-2))], [], 0, 0, (mSH, (mUp (mUp I 0 9 ((I 0 9) + 1)) 39 0 ((I 39 0) + 1)), L))) rfl (by decide) ?_
        refine mB 1 (s2 := (9, 113, 14, [some (.ref 34), some (.int (-2))], [.int (-2)], 0, 0, (mSH, (mUp (mUp I 0 9 ((I 0 9) + 1)) 39 0 ((I 39 0) + 1)), L))) rfl ?_
        refine mRt (r := (some (.int (-2)))) (h := (mSH, (mUp (mUp I 0 9 ((I 0 9) + 1)) 39 0 ((I 39 0) + 1)), L)) rfl (mRet_int rfl) ?_
        show mWP mTb_ mFT ro (10, 119, 48, [some (.ref 34), some (.int ((ro 0).2 1)), some (.int ((ro 0).2 2)), some (.int ((ro 0).2 3)), none], [.int (-2)], 0, 0, (mSH, (mUp (mUp I 0 9 ((I 0 9) + 1)) 39 0 ((I 39 0) + 1)), L)) _
        refine mRt (r := (some (.int (-2)))) (h := (mSH, (mUp (mUp I 0 9 ((I 0 9) + 1)) 39 0 ((I 39 0) + 1)), L)) rfl (mRet_int rfl) ?_
        show mWP mTb_ mFT ro (11, 163, 263, [some (.ref 1000), some (.ref 0), some (.ref 34), some (.int 0)], [.int (-2), .int (-2)], 62, 3336, (mSH, (mUp (mUp I 0 9 ((I 0 9) + 1)) 39 0 ((I 39 0) + 1)), L)) _
        refine mBT (s2 := (11, 163, 808, [some (.ref 1000), some (.ref 0), some (.ref 34), some (.int 0)], [], 62, 3336, (mSH, (mUp (mUp I 0 9 ((I 0 9) + 1)) 39 0 ((I 39 0) + 1)), L))) rfl (by decide) ?_
        exact h5 (of_decide_eq_false c0) (of_decide_eq_false c1) (of_decide_eq_true c2)
      · refine mB 2 (s2 := (9, 112, 7, [some (.int ((ro 0).2 1)), some (.int 0), some (.int 1)], [.int 1, .int ((ro 0).2 1)], 0, 0, (mSH, (mUp I 0 9 ((I 0 9) + 1)), L))) rfl ?_
        refine mBT (s2 := (9, 112, 14, [some (.int ((ro 0).2 1)), some (.int 0), some (.int 1)], [], 0, 0, (mSH, (mUp I 0 9 ((I 0 9) + 1)), L))) rfl (decide_eq_true (by
        have a0 := of_decide_eq_false c0
        have a1 := of_decide_eq_false c1
        have a2 := of_decide_eq_false c2
        simp only [f0_9, f0_10, f0_11, f1_2, f2_1, f4_1, f6_0, f6_1, f6_2, f6_3, f7_0, f7_1, f7_2, f7_3, f9_0, f9_1, f9_2, f25_0, f25_1, f26_1, f30_1, f32_1, f34_1, f34_3, f34_4, f34_11, f37_0, f37_1, f37_2, f37_3, f38_0, f38_1, f38_2, f39_0, f39_1, f39_2, f41_0, f41_1, f41_2, f41_3, f41_4, f41_5, g34_7, g34_8, hro0, hro1, hro1_0, hro1_1, hro1_2, hro2, hro2_0, hro2_1, hro2_2, hro13, mTn0, mTn1, mTn2, mTn10, Int32.lt_iff_toInt_lt, Int32.le_iff_toInt_le, ← Int32.toInt_inj, mLi0, mLi1, mLi2, mLi3, mLi4, mLi5, mLi6, mLi7, mLi8, mLi9, mLi16, mLi99, mLi120, mLi127, mLi1584, mLi999999, mLim] at a0 a1 a2 ⊢
        omega)) ?_
        refine mB 1 (s2 := (9, 112, 15, [some (.int ((ro 0).2 1)), some (.int 0), some (.int 1)], [.int 0], 0, 0, (mSH, (mUp I 0 9 ((I 0 9) + 1)), L))) rfl ?_
        refine mRt (r := (some (.int 0))) (h := (mSH, (mUp I 0 9 ((I 0 9) + 1)), L)) rfl rfl ?_
        show mWP mTb_ mFT ro (10, 119, 6, [some (.ref 34), some (.int ((ro 0).2 1)), some (.int ((ro 0).2 2)), some (.int ((ro 0).2 3)), none], [.int 0], 0, 0, (mSH, (mUp I 0 9 ((I 0 9) + 1)), L)) _
        refine mBT (s2 := (10, 119, 42, [some (.ref 34), some (.int ((ro 0).2 1)), some (.int ((ro 0).2 2)), some (.int ((ro 0).2 3)), none], [], 0, 0, (mSH, (mUp I 0 9 ((I 0 9) + 1)), L))) rfl (by decide) ?_
        refine mB 2 (s2 := (10, 119, 45, [some (.ref 34), some (.int ((ro 0).2 1)), some (.int ((ro 0).2 2)), some (.int ((ro 0).2 3)), none], [.int (-2), .ref 34], 0, 0, (mSH, (mUp I 0 9 ((I 0 9) + 1)), L))) rfl ?_
        refine mCall (s2 := (9, 113, 0, [some (.ref 34), some (.int (-2))], [], 0, 0, (mSH, (mUp I 0 9 ((I 0 9) + 1)), L))) rfl ?_
        refine mB 6 (s2 := (9, 113, 9, [some (.ref 34), some (.int (-2))], [.int 0, .ref 39, .int 0, .ref 39], 0, 0, (mSH, (mUp I 0 9 ((I 0 9) + 1)), L))) rfl ?_
        refine mRq (s2 := (9, 113, 10, [some (.ref 34), some (.int (-2))], [.int (I 39 0), .int 0, .ref 39], 0, 0, (mSH, (mUp I 0 9 ((I 0 9) + 1)), L))) rfl (by decide) ?_
        refine mB 2 (s2 := (9, 113, 12, [some (.ref 34), some (.int (-2))], [.int ((I 39 0) + 1), .int 0, .ref 39], 0, 0, (mSH, (mUp I 0 9 ((I 0 9) + 1)), L))) rfl ?_
        refine mRq (s2 := (9, 113, 13, [some (.ref 34), some (.int (-2))], [], 0, 0, (mSH, (mUp (mUp I 0 9 ((I 0 9) + 1)) 39 0 ((I 39 0) + 1)), L))) rfl (by decide) ?_
        refine mB 1 (s2 := (9, 113, 14, [some (.ref 34), some (.int (-2))], [.int (-2)], 0, 0, (mSH, (mUp (mUp I 0 9 ((I 0 9) + 1)) 39 0 ((I 39 0) + 1)), L))) rfl ?_
        refine mRt (r := (some (.int (-2)))) (h := (mSH, (mUp (mUp I 0 9 ((I 0 9) + 1)) 39 0 ((I 39 0) + 1)), L)) rfl (mRet_int rfl) ?_
        show mWP mTb_ mFT ro (10, 119, 48, [some (.ref 34), some (.int ((ro 0).2 1)), some (.int ((ro 0).2 2)), some (.int ((ro 0).2 3)), none], [.int (-2)], 0, 0, (mSH, (mUp (mUp I 0 9 ((I 0 9) + 1)) 39 0 ((I 39 0) + 1)), L)) _
        refine mRt (r := (some (.int (-2)))) (h := (mSH, (mUp (mUp I 0 9 ((I 0 9) + 1)) 39 0 ((I 39 0) + 1)), L)) rfl (mRet_int rfl) ?_
        show mWP mTb_ mFT ro (11, 163, 263, [some (.ref 1000), some (.ref 0), some (.ref 34), some (.int 0)], [.int (-2), .int (-2)], 62, 3336, (mSH, (mUp (mUp I 0 9 ((I 0 9) + 1)) 39 0 ((I 39 0) + 1)), L)) _
        refine mBT (s2 := (11, 163, 808, [some (.ref 1000), some (.ref 0), some (.ref 34), some (.int 0)], [], 62, 3336, (mSH, (mUp (mUp I 0 9 ((I 0 9) + 1)) 39 0 ((I 39 0) + 1)), L))) rfl (by decide) ?_
        exact h6 (of_decide_eq_false c0) (of_decide_eq_false c1) (of_decide_eq_false c2)
theorem p1_empties {ro : Nat → Nat × (Nat → Int32)} {Q : mPo} {I : Nat → Nat → Int32} {L : Nat → Nat → Int64} (hF : mFF I L) (hR : mRO ro) (h1 : (((ro 0).2 1) = 0) → mWP mTb_ mFT ro (11, 163, 808, [some (.ref 1000), some (.ref 0), some (.ref 34), some (.int 0)], [], 62, 3336, (mSH, (mUp (mUp I 2 1 0) 34 1 0), L)) Q) (h2 : ¬ (((ro 0).2 1) = 0) → (((ro 0).2 1) = 1) → mWP mTb_ mFT ro (11, 163, 808, [some (.ref 1000), some (.ref 0), some (.ref 34), some (.int 0)], [], 62, 3336, (mSH, (mUp (mUp I 4 1 0) 34 3 0), L)) Q) (h3 : ¬ (((ro 0).2 1) = 0) → ¬ (((ro 0).2 1) = 1) → (((ro 0).2 1) < 0) → mWP mTb_ mFT ro (11, 163, 808, [some (.ref 1000), some (.ref 0), some (.ref 34), some (.int 0)], [], 62, 3336, (mSH, (mUp (mUp I 0 9 ((I 0 9) + 1)) 39 0 ((I 39 0) + 1)), L)) Q) (h4 : ¬ (((ro 0).2 1) = 0) → ¬ (((ro 0).2 1) = 1) → ¬ (((ro 0).2 1) < 0) → mWP mTb_ mFT ro (11, 163, 808, [some (.ref 1000), some (.ref 0), some (.ref 34), some (.int 0)], [], 62, 3336, (mSH, (mUp (mUp I 0 9 ((I 0 9) + 1)) 39 0 ((I 39 0) + 1)), L)) Q) : mWP mTb_ mFT ro (11, 163, 268, [some (.ref 1000), some (.ref 0), some (.ref 34), some (.int 0)], [], 62, 3336, (mSH, I, L)) Q := by
  obtain ⟨f0_9, f0_10, f0_11, f1_2, f2_1, f4_1, f6_0, f6_1, f6_2, f6_3, f7_0, f7_1, f7_2, f7_3, f9_0, f9_1, f9_2, f25_0, f25_1, f26_1, f30_1, f32_1, f34_1, f34_3, f34_4, f34_11, f37_0, f37_1, f37_2, f37_3, f38_0, f38_1, f38_2, f39_0, f39_1, f39_2, f41_0, f41_1, f41_2, f41_3, f41_4, f41_5, g34_7, g34_8⟩ := hF
  obtain ⟨hro0, hro1, hro1_0, hro1_1, hro1_2, hro2, hro2_0, hro2_1, hro2_2, hro13⟩ := hR
  refine mB 5 (s2 := (11, 163, 273, [some (.ref 1000), some (.ref 0), some (.ref 34), some (.int 0)], [.int 1, .ref 1000, .ref 0], 62, 3336, (mSH, I, L))) rfl ?_
  refine mRq (s2 := (11, 163, 274, [some (.ref 1000), some (.ref 0), some (.ref 34), some (.int 0)], [.int ((ro 0).2 1), .ref 0], 62, 3336, (mSH, I, L))) rfl (by first | (simp only [f0_9, f0_10, f0_11, f1_2, f2_1, f4_1, f6_0, f6_1, f6_2, f6_3, f7_0, f7_1, f7_2, f7_3, f9_0, f9_1, f9_2, f25_0, f25_1, f26_1, f30_1, f32_1, f34_1, f34_3, f34_4, f34_11, f37_0, f37_1, f37_2, f37_3, f38_0, f38_1, f38_2, f39_0, f39_1, f39_2, f41_0, f41_1, f41_2, f41_3, f41_4, f41_5, g34_7, g34_8, hro0, hro1, hro1_0, hro1_1, hro1_2, hro2, hro2_0, hro2_1, hro2_2, hro13, mTn0, mTn1, mTn2, mTn10]; first | decide | rfl) | decide | rfl) ?_
  refine mCall (s2 := (10, 80, 0, [some (.ref 0), some (.int ((ro 0).2 1))], [], 0, 0, (mSH, I, L))) rfl ?_
  refine mB 1 (s2 := (10, 80, 1, [some (.ref 0), some (.int ((ro 0).2 1))], [.int ((ro 0).2 1)], 0, 0, (mSH, I, L))) rfl ?_
  refine mCall (s2 := (9, 108, 0, [some (.int ((ro 0).2 1))], [], 0, 0, (mSH, I, L))) rfl ?_
  refine mB 1 (s2 := (9, 108, 1, [some (.int ((ro 0).2 1))], [.int ((ro 0).2 1)], 0, 0, (mSH, I, L))) rfl ?_
  refine mBr (s2 := (9, 108, 9, [some (.int ((ro 0).2 1))], [], 0, 0, (mSH, I, L))) (s3 := (9, 108, 4, [some (.int ((ro 0).2 1))], [], 0, 0, (mSH, I, L))) rfl (fun c0 => ?_) (fun c0 => ?_)
  · refine mB 2 (s2 := (9, 108, 14, [some (.int ((ro 0).2 1))], [.int 1], 0, 0, (mSH, I, L))) rfl ?_
    refine mRt (r := (some (.int 1))) (h := (mSH, I, L)) rfl rfl ?_
    show mWP mTb_ mFT ro (10, 80, 4, [some (.ref 0), some (.int ((ro 0).2 1))], [.int 1], 0, 0, (mSH, I, L)) _
    refine mBF (s3 := (10, 80, 14, [some (.ref 0), some (.int ((ro 0).2 1))], [], 0, 0, (mSH, I, L))) rfl (by decide) ?_
    refine mB 3 (s2 := (10, 80, 19, [some (.ref 0), some (.int ((ro 0).2 1))], [.int ((ro 0).2 1), .ref 1], 0, 0, (mSH, I, L))) rfl ?_
    refine mCall (s2 := (9, 67, 0, [some (.ref 1), some (.int ((ro 0).2 1))], [], 0, 0, (mSH, I, L))) rfl ?_
    refine mB 1 (s2 := (9, 67, 1, [some (.ref 1), some (.int ((ro 0).2 1))], [.int ((ro 0).2 1)], 0, 0, (mSH, I, L))) rfl ?_
    refine mBT (s2 := (9, 67, 4, [some (.ref 1), some (.int ((ro 0).2 1))], [], 0, 0, (mSH, I, L))) rfl (by first | (simp only [f0_9, f0_10, f0_11, f1_2, f2_1, f4_1, f6_0, f6_1, f6_2, f6_3, f7_0, f7_1, f7_2, f7_3, f9_0, f9_1, f9_2, f25_0, f25_1, f26_1, f30_1, f32_1, f34_1, f34_3, f34_4, f34_11, f37_0, f37_1, f37_2, f37_3, f38_0, f38_1, f38_2, f39_0, f39_1, f39_2, f41_0, f41_1, f41_2, f41_3, f41_4, f41_5, g34_7, g34_8, hro0, hro1, hro1_0, hro1_1, hro1_2, hro2, hro2_0, hro2_1, hro2_2, hro13, mTn0, mTn1, mTn2, mTn10, of_decide_eq_true c0]; first | decide | rfl) | decide | rfl) ?_
    refine mB 3 (s2 := (9, 67, 15, [some (.ref 1), some (.int ((ro 0).2 1))], [.ref 2], 0, 0, (mSH, I, L))) rfl ?_
    refine mRt (r := (some (.ref 2))) (h := (mSH, I, L)) rfl rfl ?_
    show mWP mTb_ mFT ro (10, 80, 22, [some (.ref 0), some (.int ((ro 0).2 1))], [.ref 2], 0, 0, (mSH, I, L)) _
    refine mCall (s2 := (9, 45, 0, [some (.ref 2), none], [], 0, 0, (mSH, I, L))) rfl ?_
    refine mB 7 (s2 := (9, 45, 11, [some (.ref 2), some (.int (I 2 1))], [.int (I 2 1)], 0, 0, (mSH, (mUp I 2 1 0), L))) rfl ?_
    refine mRt (r := (some (.int (I 2 1)))) (h := (mSH, (mUp I 2 1 0), L)) rfl (mRet_int rfl) ?_
    show mWP mTb_ mFT ro (10, 80, 25, [some (.ref 0), some (.int ((ro 0).2 1))], [.int (I 2 1)], 0, 0, (mSH, (mUp I 2 1 0), L)) _
    refine mRt (r := (some (.int (I 2 1)))) (h := (mSH, (mUp I 2 1 0), L)) rfl (mRet_int rfl) ?_
    show mWP mTb_ mFT ro (11, 163, 277, [some (.ref 1000), some (.ref 0), some (.ref 34), some (.int 0)], [.int (I 2 1)], 62, 3336, (mSH, (mUp I 2 1 0), L)) _
    refine mB 5 (s2 := (11, 163, 282, [some (.ref 1000), some (.ref 0), some (.ref 34), some (.int 0)], [.int 1, .ref 1000, .ref 34, .int (I 2 1)], 62, 3336, (mSH, (mUp I 2 1 0), L))) rfl ?_
    refine mRq (s2 := (11, 163, 283, [some (.ref 1000), some (.ref 0), some (.ref 34), some (.int 0)], [.int ((ro 0).2 1), .ref 34, .int (I 2 1)], 62, 3336, (mSH, (mUp I 2 1 0), L))) rfl (by first | (simp only [f0_9, f0_10, f0_11, f1_2, f2_1, f4_1, f6_0, f6_1, f6_2, f6_3, f7_0, f7_1, f7_2, f7_3, f9_0, f9_1, f9_2, f25_0, f25_1, f26_1, f30_1, f32_1, f34_1, f34_3, f34_4, f34_11, f37_0, f37_1, f37_2, f37_3, f38_0, f38_1, f38_2, f39_0, f39_1, f39_2, f41_0, f41_1, f41_2, f41_3, f41_4, f41_5, g34_7, g34_8, hro0, hro1, hro1_0, hro1_1, hro1_2, hro2, hro2_0, hro2_1, hro2_2, hro13, mTn0, mTn1, mTn2, mTn10, of_decide_eq_true c0]; first | decide | rfl) | decide | rfl) ?_
    refine mCall (s2 := (10, 120, 0, [some (.ref 34), some (.int ((ro 0).2 1)), none], [], 0, 0, (mSH, (mUp I 2 1 0), L))) rfl ?_
    refine mB 3 (s2 := (10, 120, 3, [some (.ref 34), some (.int ((ro 0).2 1)), none], [.int 1, .int 0, .int ((ro 0).2 1)], 0, 0, (mSH, (mUp I 2 1 0), L))) rfl ?_
    refine mCall (s2 := (9, 112, 0, [some (.int ((ro 0).2 1)), some (.int 0), some (.int 1)], [], 0, 0, (mSH, (mUp I 2 1 0), L))) rfl ?_
    refine mB 2 (s2 := (9, 112, 2, [some (.int ((ro 0).2 1)), some (.int 0), some (.int 1)], [.int 0, .int ((ro 0).2 1)], 0, 0, (mSH, (mUp I 2 1 0), L))) rfl ?_
    refine mBF (s3 := (9, 112, 5, [some (.int ((ro 0).2 1)), some (.int 0), some (.int 1)], [], 0, 0, (mSH, (mUp I 2 1 0), L))) rfl (by first | (simp only [f0_9, f0_10, f0_11, f1_2, f2_1, f4_1, f6_0, f6_1, f6_2, f6_3, f7_0, f7_1, f7_2, f7_3, f9_0, f9_1, f9_2, f25_0, f25_1, f26_1, f30_1, f32_1, f34_1, f34_3, f34_4, f34_11, f37_0, f37_1, f37_2, f37_3, f38_0, f38_1, f38_2, f39_0, f39_1, f39_2, f41_0, f41_1, f41_2, f41_3, f41_4, f41_5, g34_7, g34_8, hro0, hro1, hro1_0, hro1_1, hro1_2, hro2, hro2_0, hro2_1, hro2_2, hro13, mTn0, mTn1, mTn2, mTn10, of_decide_eq_true c0]; first | decide | rfl) | decide | rfl) ?_
    refine mB 2 (s2 := (9, 112, 7, [some (.int ((ro 0).2 1)), some (.int 0), some (.int 1)], [.int 1, .int ((ro 0).2 1)], 0, 0, (mSH, (mUp I 2 1 0), L))) rfl ?_
    refine mBF (s3 := (9, 112, 10, [some (.int ((ro 0).2 1)), some (.int 0), some (.int 1)], [], 0, 0, (mSH, (mUp I 2 1 0), L))) rfl (by first | (simp only [f0_9, f0_10, f0_11, f1_2, f2_1, f4_1, f6_0, f6_1, f6_2, f6_3, f7_0, f7_1, f7_2, f7_3, f9_0, f9_1, f9_2, f25_0, f25_1, f26_1, f30_1, f32_1, f34_1, f34_3, f34_4, f34_11, f37_0, f37_1, f37_2, f37_3, f38_0, f38_1, f38_2, f39_0, f39_1, f39_2, f41_0, f41_1, f41_2, f41_3, f41_4, f41_5, g34_7, g34_8, hro0, hro1, hro1_0, hro1_1, hro1_2, hro2, hro2_0, hro2_1, hro2_2, hro13, mTn0, mTn1, mTn2, mTn10, of_decide_eq_true c0]; first | decide | rfl) | decide | rfl) ?_
    refine mB 2 (s2 := (9, 112, 15, [some (.int ((ro 0).2 1)), some (.int 0), some (.int 1)], [.int 1], 0, 0, (mSH, (mUp I 2 1 0), L))) rfl ?_
    refine mRt (r := (some (.int 1))) (h := (mSH, (mUp I 2 1 0), L)) rfl rfl ?_
    show mWP mTb_ mFT ro (10, 120, 6, [some (.ref 34), some (.int ((ro 0).2 1)), none], [.int 1], 0, 0, (mSH, (mUp I 2 1 0), L)) _
    refine mBF (s3 := (10, 120, 16, [some (.ref 34), some (.int ((ro 0).2 1)), none], [], 0, 0, (mSH, (mUp I 2 1 0), L))) rfl (by decide) ?_
    refine mB 1 (s2 := (10, 120, 17, [some (.ref 34), some (.int ((ro 0).2 1)), none], [.int ((ro 0).2 1)], 0, 0, (mSH, (mUp I 2 1 0), L))) rfl ?_
    refine mBT (s2 := (10, 120, 20, [some (.ref 34), some (.int ((ro 0).2 1)), none], [], 0, 0, (mSH, (mUp I 2 1 0), L))) rfl (by first | (simp only [f0_9, f0_10, f0_11, f1_2, f2_1, f4_1, f6_0, f6_1, f6_2, f6_3, f7_0, f7_1, f7_2, f7_3, f9_0, f9_1, f9_2, f25_0, f25_1, f26_1, f30_1, f32_1, f34_1, f34_3, f34_4, f34_11, f37_0, f37_1, f37_2, f37_3, f38_0, f38_1, f38_2, f39_0, f39_1, f39_2, f41_0, f41_1, f41_2, f41_3, f41_4, f41_5, g34_7, g34_8, hro0, hro1, hro1_0, hro1_1, hro1_2, hro2, hro2_0, hro2_1, hro2_2, hro13, mTn0, mTn1, mTn2, mTn10, of_decide_eq_true c0]; first | decide | rfl) | decide | rfl) ?_
    refine mB 5 (s2 := (10, 120, 33, [some (.ref 34), some (.int ((ro 0).2 1)), some (.int (I 34 1))], [.int ((ro 0).2 1)], 0, 0, (mSH, (mUp I 2 1 0), L))) rfl ?_
    refine mBT (s2 := (10, 120, 36, [some (.ref 34), some (.int ((ro 0).2 1)), some (.int (I 34 1))], [], 0, 0, (mSH, (mUp I 2 1 0), L))) rfl (by first | (simp only [f0_9, f0_10, f0_11, f1_2, f2_1, f4_1, f6_0, f6_1, f6_2, f6_3, f7_0, f7_1, f7_2, f7_3, f9_0, f9_1, f9_2, f25_0, f25_1, f26_1, f30_1, f32_1, f34_1, f34_3, f34_4, f34_11, f37_0, f37_1, f37_2, f37_3, f38_0, f38_1, f38_2, f39_0, f39_1, f39_2, f41_0, f41_1, f41_2, f41_3, f41_4, f41_5, g34_7, g34_8, hro0, hro1, hro1_0, hro1_1, hro1_2, hro2, hro2_0, hro2_1, hro2_2, hro13, mTn0, mTn1, mTn2, mTn10, of_decide_eq_true c0]; first | decide | rfl) | decide | rfl) ?_
    refine mB 5 (s2 := (10, 120, 50, [some (.ref 34), some (.int ((ro 0).2 1)), some (.int (I 34 1))], [.int (I 34 1)], 0, 0, (mSH, (mUp (mUp I 2 1 0) 34 1 0), L))) rfl ?_
    refine mRt (r := (some (.int (I 34 1)))) (h := (mSH, (mUp (mUp I 2 1 0) 34 1 0), L)) rfl (mRet_int rfl) ?_
    show mWP mTb_ mFT ro (11, 163, 286, [some (.ref 1000), some (.ref 0), some (.ref 34), some (.int 0)], [.int (I 34 1), .int (I 2 1)], 62, 3336, (mSH, (mUp (mUp I 2 1 0) 34 1 0), L)) _
    refine mBT (s2 := (11, 163, 808, [some (.ref 1000), some (.ref 0), some (.ref 34), some (.int 0)], [], 62, 3336, (mSH, (mUp (mUp I 2 1 0) 34 1 0), L))) rfl (by first | (simp only [f0_9, f0_10, f0_11, f1_2, f2_1, f4_1, f6_0, f6_1, f6_2, f6_3, f7_0, f7_1, f7_2, f7_3, f9_0, f9_1, f9_2, f25_0, f25_1, f26_1, f30_1, f32_1, f34_1, f34_3, f34_4, f34_11, f37_0, f37_1, f37_2, f37_3, f38_0, f38_1, f38_2, f39_0, f39_1, f39_2, f41_0, f41_1, f41_2, f41_3, f41_4, f41_5, g34_7, g34_8, hro0, hro1, hro1_0, hro1_1, hro1_2, hro2, hro2_0, hro2_1, hro2_2, hro13, mTn0, mTn1, mTn2, mTn10, of_decide_eq_true c0]; first | decide | rfl) | decide | rfl) ?_
    exact h1 (of_decide_eq_true c0)
  · refine mB 2 (s2 := (9, 108, 6, [some (.int ((ro 0).2 1))], [.int 1, .int ((ro 0).2 1)], 0, 0, (mSH, I, L))) rfl ?_
    refine mBr (s2 := (9, 108, 9, [some (.int ((ro 0).2 1))], [], 0, 0, (mSH, I, L))) (s3 := (9, 108, 13, [some (.int ((ro 0).2 1))], [], 0, 0, (mSH, I, L))) rfl (fun c1 => ?_) (fun c1 => ?_)
    · refine mB 2 (s2 := (9, 108, 14, [some (.int ((ro 0).2 1))], [.int 1], 0, 0, (mSH, I, L))) rfl ?_
      refine mRt (r := (some (.int 1))) (h := (mSH, I, L)) rfl rfl ?_
      show mWP mTb_ mFT ro (10, 80, 4, [some (.ref 0), some (.int ((ro 0).2 1))], [.int 1], 0, 0, (mSH, I, L)) _
      refine mBF (s3 := (10, 80, 14, [some (.ref 0), some (.int ((ro 0).2 1))], [], 0, 0, (mSH, I, L))) rfl (by decide) ?_
      refine mB 3 (s2 := (10, 80, 19, [some (.ref 0), some (.int ((ro 0).2 1))], [.int ((ro 0).2 1), .ref 1], 0, 0, (mSH, I, L))) rfl ?_
      refine mCall (s2 := (9, 67, 0, [some (.ref 1), some (.int ((ro 0).2 1))], [], 0, 0, (mSH, I, L))) rfl ?_
      refine mB 1 (s2 := (9, 67, 1, [some (.ref 1), some (.int ((ro 0).2 1))], [.int ((ro 0).2 1)], 0, 0, (mSH, I, L))) rfl ?_
      refine mBF (s3 := (9, 67, 11, [some (.ref 1), some (.int ((ro 0).2 1))], [], 0, 0, (mSH, I, L))) rfl (by first | (simp only [f0_9, f0_10, f0_11, f1_2, f2_1, f4_1, f6_0, f6_1, f6_2, f6_3, f7_0, f7_1, f7_2, f7_3, f9_0, f9_1, f9_2, f25_0, f25_1, f26_1, f30_1, f32_1, f34_1, f34_3, f34_4, f34_11, f37_0, f37_1, f37_2, f37_3, f38_0, f38_1, f38_2, f39_0, f39_1, f39_2, f41_0, f41_1, f41_2, f41_3, f41_4, f41_5, g34_7, g34_8, hro0, hro1, hro1_0, hro1_1, hro1_2, hro2, hro2_0, hro2_1, hro2_2, hro13, mTn0, mTn1, mTn2, mTn10, of_decide_eq_true c1]; first | decide | rfl) | decide | rfl) ?_
      refine mB 2 (s2 := (9, 67, 15, [some (.ref 1), some (.int ((ro 0).2 1))], [.ref 4], 0, 0, (mSH, I, L))) rfl ?_
      refine mRt (r := (some (.ref 4))) (h := (mSH, I, L)) rfl rfl ?_
      show mWP mTb_ mFT ro (10, 80, 22, [some (.ref 0), some (.int ((ro 0).2 1))], [.ref 4], 0, 0, (mSH, I, L)) _
      refine mCall (s2 := (9, 45, 0, [some (.ref 4), none], [], 0, 0, (mSH, I, L))) rfl ?_
      refine mB 7 (s2 := (9, 45, 11, [some (.ref 4), some (.int (I 4 1))], [.int (I 4 1)], 0, 0, (mSH, (mUp I 4 1 0), L))) rfl ?_
      refine mRt (r := (some (.int (I 4 1)))) (h := (mSH, (mUp I 4 1 0), L)) rfl (mRet_int rfl) ?_
      show mWP mTb_ mFT ro (10, 80, 25, [some (.ref 0), some (.int ((ro 0).2 1))], [.int (I 4 1)], 0, 0, (mSH, (mUp I 4 1 0), L)) _
      refine mRt (r := (some (.int (I 4 1)))) (h := (mSH, (mUp I 4 1 0), L)) rfl (mRet_int rfl) ?_
      show mWP mTb_ mFT ro (11, 163, 277, [some (.ref 1000), some (.ref 0), some (.ref 34), some (.int 0)], [.int (I 4 1)], 62, 3336, (mSH, (mUp I 4 1 0), L)) _
      refine mB 5 (s2 := (11, 163, 282, [some (.ref 1000), some (.ref 0), some (.ref 34), some (.int 0)], [.int 1, .ref 1000, .ref 34, .int (I 4 1)], 62, 3336, (mSH, (mUp I 4 1 0), L))) rfl ?_
      refine mRq (s2 := (11, 163, 283, [some (.ref 1000), some (.ref 0), some (.ref 34), some (.int 0)], [.int ((ro 0).2 1), .ref 34, .int (I 4 1)], 62, 3336, (mSH, (mUp I 4 1 0), L))) rfl (by first | (simp only [f0_9, f0_10, f0_11, f1_2, f2_1, f4_1, f6_0, f6_1, f6_2, f6_3, f7_0, f7_1, f7_2, f7_3, f9_0, f9_1, f9_2, f25_0, f25_1, f26_1, f30_1, f32_1, f34_1, f34_3, f34_4, f34_11, f37_0, f37_1, f37_2, f37_3, f38_0, f38_1, f38_2, f39_0, f39_1, f39_2, f41_0, f41_1, f41_2, f41_3, f41_4, f41_5, g34_7, g34_8, hro0, hro1, hro1_0, hro1_1, hro1_2, hro2, hro2_0, hro2_1, hro2_2, hro13, mTn0, mTn1, mTn2, mTn10, of_decide_eq_true c1]; first | decide | rfl) | decide | rfl) ?_
      refine mCall (s2 := (10, 120, 0, [some (.ref 34), some (.int ((ro 0).2 1)), none], [], 0, 0, (mSH, (mUp I 4 1 0), L))) rfl ?_
      refine mB 3 (s2 := (10, 120, 3, [some (.ref 34), some (.int ((ro 0).2 1)), none], [.int 1, .int 0, .int ((ro 0).2 1)], 0, 0, (mSH, (mUp I 4 1 0), L))) rfl ?_
      refine mCall (s2 := (9, 112, 0, [some (.int ((ro 0).2 1)), some (.int 0), some (.int 1)], [], 0, 0, (mSH, (mUp I 4 1 0), L))) rfl ?_
      refine mB 2 (s2 := (9, 112, 2, [some (.int ((ro 0).2 1)), some (.int 0), some (.int 1)], [.int 0, .int ((ro 0).2 1)], 0, 0, (mSH, (mUp I 4 1 0), L))) rfl ?_
      refine mBF (s3 := (9, 112, 5, [some (.int ((ro 0).2 1)), some (.int 0), some (.int 1)], [], 0, 0, (mSH, (mUp I 4 1 0), L))) rfl (by first | (simp only [f0_9, f0_10, f0_11, f1_2, f2_1, f4_1, f6_0, f6_1, f6_2, f6_3, f7_0, f7_1, f7_2, f7_3, f9_0, f9_1, f9_2, f25_0, f25_1, f26_1, f30_1, f32_1, f34_1, f34_3, f34_4, f34_11, f37_0, f37_1, f37_2, f37_3, f38_0, f38_1, f38_2, f39_0, f39_1, f39_2, f41_0, f41_1, f41_2, f41_3, f41_4, f41_5, g34_7, g34_8, hro0, hro1, hro1_0, hro1_1, hro1_2, hro2, hro2_0, hro2_1, hro2_2, hro13, mTn0, mTn1, mTn2, mTn10, of_decide_eq_true c1]; first | decide | rfl) | decide | rfl) ?_
      refine mB 2 (s2 := (9, 112, 7, [some (.int ((ro 0).2 1)), some (.int 0), some (.int 1)], [.int 1, .int ((ro 0).2 1)], 0, 0, (mSH, (mUp I 4 1 0), L))) rfl ?_
      refine mBF (s3 := (9, 112, 10, [some (.int ((ro 0).2 1)), some (.int 0), some (.int 1)], [], 0, 0, (mSH, (mUp I 4 1 0), L))) rfl (by first | (simp only [f0_9, f0_10, f0_11, f1_2, f2_1, f4_1, f6_0, f6_1, f6_2, f6_3, f7_0, f7_1, f7_2, f7_3, f9_0, f9_1, f9_2, f25_0, f25_1, f26_1, f30_1, f32_1, f34_1, f34_3, f34_4, f34_11, f37_0, f37_1, f37_2, f37_3, f38_0, f38_1, f38_2, f39_0, f39_1, f39_2, f41_0, f41_1, f41_2, f41_3, f41_4, f41_5, g34_7, g34_8, hro0, hro1, hro1_0, hro1_1, hro1_2, hro2, hro2_0, hro2_1, hro2_2, hro13, mTn0, mTn1, mTn2, mTn10, of_decide_eq_true c1]; first | decide | rfl) | decide | rfl) ?_
      refine mB 2 (s2 := (9, 112, 15, [some (.int ((ro 0).2 1)), some (.int 0), some (.int 1)], [.int 1], 0, 0, (mSH, (mUp I 4 1 0), L))) rfl ?_
      refine mRt (r := (some (.int 1))) (h := (mSH, (mUp I 4 1 0), L)) rfl rfl ?_
      show mWP mTb_ mFT ro (10, 120, 6, [some (.ref 34), some (.int ((ro 0).2 1)), none], [.int 1], 0, 0, (mSH, (mUp I 4 1 0), L)) _
      refine mBF (s3 := (10, 120, 16, [some (.ref 34), some (.int ((ro 0).2 1)), none], [], 0, 0, (mSH, (mUp I 4 1 0), L))) rfl (by decide) ?_
      refine mB 1 (s2 := (10, 120, 17, [some (.ref 34), some (.int ((ro 0).2 1)), none], [.int ((ro 0).2 1)], 0, 0, (mSH, (mUp I 4 1 0), L))) rfl ?_
      refine mBF (s3 := (10, 120, 27, [some (.ref 34), some (.int ((ro 0).2 1)), none], [], 0, 0, (mSH, (mUp I 4 1 0), L))) rfl (by first | (simp only [f0_9, f0_10, f0_11, f1_2, f2_1, f4_1, f6_0, f6_1, f6_2, f6_3, f7_0, f7_1, f7_2, f7_3, f9_0, f9_1, f9_2, f25_0, f25_1, f26_1, f30_1, f32_1, f34_1, f34_3, f34_4, f34_11, f37_0, f37_1, f37_2, f37_3, f38_0, f38_1, f38_2, f39_0, f39_1, f39_2, f41_0, f41_1, f41_2, f41_3, f41_4, f41_5, g34_7, g34_8, hro0, hro1, hro1_0, hro1_1, hro1_2, hro2, hro2_0, hro2_1, hro2_2, hro13, mTn0, mTn1, mTn2, mTn10, of_decide_eq_true c1]; first | decide | rfl) | decide | rfl) ?_
      refine mB 4 (s2 := (10, 120, 33, [some (.ref 34), some (.int ((ro 0).2 1)), some (.int (I 34 3))], [.int ((ro 0).2 1)], 0, 0, (mSH, (mUp I 4 1 0), L))) rfl ?_
      refine mBF (s3 := (10, 120, 44, [some (.ref 34), some (.int ((ro 0).2 1)), some (.int (I 34 3))], [], 0, 0, (mSH, (mUp I 4 1 0), L))) rfl (by first | (simp only [f0_9, f0_10, f0_11, f1_2, f2_1, f4_1, f6_0, f6_1, f6_2, f6_3, f7_0, f7_1, f7_2, f7_3, f9_0, f9_1, f9_2, f25_0, f25_1, f26_1, f30_1, f32_1, f34_1, f34_3, f34_4, f34_11, f37_0, f37_1, f37_2, f37_3, f38_0, f38_1, f38_2, f39_0, f39_1, f39_2, f41_0, f41_1, f41_2, f41_3, f41_4, f41_5, g34_7, g34_8, hro0, hro1, hro1_0, hro1_1, hro1_2, hro2, hro2_0, hro2_1, hro2_2, hro13, mTn0, mTn1, mTn2, mTn10, of_decide_eq_true c1]; first | decide | rfl) | decide | rfl) ?_
      refine mB 4 (s2 := (10, 120, 50, [some (.ref 34), some (.int ((ro 0).2 1)), some (.int (I 34 3))], [.int (I 34 3)], 0, 0, (mSH, (mUp (mUp I 4 1 0) 34 3 0), L))) rfl ?_
      refine mRt (r := (some (.int (I 34 3)))) (h := (mSH, (mUp (mUp I 4 1 0) 34 3 0), L)) rfl (mRet_int rfl) ?_
      show mWP mTb_ mFT ro (11, 163, 286, [some (.ref 1000), some (.ref 0), some (.ref 34), some (.int 0)], [.int (I 34 3), .int (I 4 1)], 62, 3336, (mSH, (mUp (mUp I 4 1 0) 34 3 0), L)) _
      refine mBT (s2 := (11, 163, 808, [some (.ref 1000), some (.ref 0), some (.ref 34), some (.int 0)], [], 62, 3336, (mSH, (mUp (mUp I 4 1 0) 34 3 0), L))) rfl (by first | (simp only [f0_9, f0_10, f0_11, f1_2, f2_1, f4_1, f6_0, f6_1, f6_2, f6_3, f7_0, f7_1, f7_2, f7_3, f9_0, f9_1, f9_2, f25_0, f25_1, f26_1, f30_1, f32_1, f34_1, f34_3, f34_4, f34_11, f37_0, f37_1, f37_2, f37_3, f38_0, f38_1, f38_2, f39_0, f39_1, f39_2, f41_0, f41_1, f41_2, f41_3, f41_4, f41_5, g34_7, g34_8, hro0, hro1, hro1_0, hro1_1, hro1_2, hro2, hro2_0, hro2_1, hro2_2, hro13, mTn0, mTn1, mTn2, mTn10, of_decide_eq_true c1]; first | decide | rfl) | decide | rfl) ?_
      exact h2 (of_decide_eq_false c0) (of_decide_eq_true c1)
    · refine mB 1 (s2 := (9, 108, 14, [some (.int ((ro 0).2 1))], [.int 0], 0, 0, (mSH, I, L))) rfl ?_
      refine mRt (r := (some (.int 0))) (h := (mSH, I, L)) rfl rfl ?_
      show mWP mTb_ mFT ro (10, 80, 4, [some (.ref 0), some (.int ((ro 0).2 1))], [.int 0], 0, 0, (mSH, I, L)) _
      refine mBT (s2 := (10, 80, 7, [some (.ref 0), some (.int ((ro 0).2 1))], [], 0, 0, (mSH, I, L))) rfl (by decide) ?_
      refine mB 2 (s2 := (10, 80, 10, [some (.ref 0), some (.int ((ro 0).2 1))], [.int (-2), .ref 0], 0, 0, (mSH, I, L))) rfl ?_
      refine mCall (s2 := (9, 103, 0, [some (.ref 0), some (.int (-2))], [], 0, 0, (mSH, I, L))) rfl ?_
      refine mB 2 (s2 := (9, 103, 3, [some (.ref 0), some (.int (-2))], [.int (-2), .int (-2)], 0, 0, (mSH, I, L))) rfl ?_
      refine mBT (s2 := (9, 103, 6, [some (.ref 0), some (.int (-2))], [], 0, 0, (mSH, I, L))) rfl (by decide) ?_
      refine mB 8 (s2 := (9, 103, 49, [some (.ref 0), some (.int (-2))], [.int (-2)], 0, 0, (mSH, (mUp I 0 9 ((I 0 9) + 1)), L))) rfl ?_
      refine mRt (r := (some (.int (-2)))) (h := (mSH, (mUp I 0 9 ((I 0 9) + 1)), L)) rfl (mRet_int rfl) ?_
      show mWP mTb_ mFT ro (10, 80, 13, [some (.ref 0), some (.int ((ro 0).2 1))], [.int (-2)], 0, 0, (mSH, (mUp I 0 9 ((I 0 9) + 1)), L)) _
      refine mRt (r := (some (.int (-2)))) (h := (mSH, (mUp I 0 9 ((I 0 9) + 1)), L)) rfl (mRet_int rfl) ?_
      show mWP mTb_ mFT ro (11, 163, 277, [some (.ref 1000), some (.ref 0), some (.ref 34), some (.int 0)], [.int (-2)], 62, 3336, (mSH, (mUp I 0 9 ((I 0 9) + 1)), L)) _
      refine mB 5 (s2 := (11, 163, 282, [some (.ref 1000), some (.ref 0), some (.ref 34), some (.int 0)], [.int 1, .ref 1000, .ref 34, .int (-2)], 62, 3336, (mSH, (mUp I 0 9 ((I 0 9) + 1)), L))) rfl ?_
      refine mRq (s2 := (11, 163, 283, [some (.ref 1000), some (.ref 0), some (.ref 34), some (.int 0)], [.int ((ro 0).2 1), .ref 34, .int (-2)], 62, 3336, (mSH, (mUp I 0 9 ((I 0 9) + 1)), L))) rfl (by first | (simp only [f0_9, f0_10, f0_11, f1_2, f2_1, f4_1, f6_0, f6_1, f6_2, f6_3, f7_0, f7_1, f7_2, f7_3, f9_0, f9_1, f9_2, f25_0, f25_1, f26_1, f30_1, f32_1, f34_1, f34_3, f34_4, f34_11, f37_0, f37_1, f37_2, f37_3, f38_0, f38_1, f38_2, f39_0, f39_1, f39_2, f41_0, f41_1, f41_2, f41_3, f41_4, f41_5, g34_7, g34_8, hro0, hro1, hro1_0, hro1_1, hro1_2, hro2, hro2_0, hro2_1, hro2_2, hro13, mTn0, mTn1, mTn2, mTn10]; first | decide | rfl) | decide | rfl) ?_
      refine mCall (s2 := (10, 120, 0, [some (.ref 34), some (.int ((ro 0).2 1)), none], [], 0, 0, (mSH, (mUp I 0 9 ((I 0 9) + 1)), L))) rfl ?_
      refine mB 3 (s2 := (10, 120, 3, [some (.ref 34), some (.int ((ro 0).2 1)), none], [.int 1, .int 0, .int ((ro 0).2 1)], 0, 0, (mSH, (mUp I 0 9 ((I 0 9) + 1)), L))) rfl ?_
      refine mCall (s2 := (9, 112, 0, [some (.int ((ro 0).2 1)), some (.int 0), some (.int 1)], [], 0, 0, (mSH, (mUp I 0 9 ((I 0 9) + 1)), L))) rfl ?_
      refine mB 2 (s2 := (9, 112, 2, [some (.int ((ro 0).2 1)), some (.int 0), some (.int 1)], [.int 0, .int ((ro 0).2 1)], 0, 0, (mSH, (mUp I 0 9 ((I 0 9) + 1)), L))) rfl ?_
      refine mBr (s2 := (9, 112, 14, [some (.int ((ro 0).2 1)), some (.int 0), some (.int 1)], [], 0, 0, (mSH, (mUp I 0 9 ((I 0 9) + 1)), L))) (s3 := (9, 112, 5, [some (.int ((ro 0).2 1)), some (.int 0), some (.int 1)], [], 0, 0, (mSH, (mUp I 0 9 ((I 0 9) + 1)), L))) rfl (fun c2 => ?_) (fun c2 => ?_)
      · refine mB 1 (s2 := (9, 112, 15, [some (.int ((ro 0).2 1)), some (.int 0), some (.int 1)], [.int 0], 0, 0, (mSH, (mUp I 0 9 ((I 0 9) + 1)), L))) rfl ?_
        refine mRt (r := (some (.int 0))) (h := (mSH, (mUp I 0 9 ((I 0 9) + 1)), L)) rfl rfl ?_
        show mWP mTb_ mFT ro (10, 120, 6, [some (.ref 34), some (.int ((ro 0).2 1)), none], [.int 0], 0, 0, (mSH, (mUp I 0 9 ((I 0 9) + 1)), L)) _
        refine mBT (s2 := (10, 120, 9, [some (.ref 34), some (.int ((ro 0).2 1)), none], [], 0, 0, (mSH, (mUp I 0 9 ((I 0 9) + 1)), L))) rfl (by decide) ?_
        refine mB 2 (s2 := (10, 120, 12, [some (.ref 34), some (.int ((ro 0).2 1)), none], [.int (-2), .ref 34], 0, 0, (mSH, (mUp I 0 9 ((I 0 9) + 1)), L))) rfl ?_
        refine mCall (s2 := (9, 113, 0, [some (.ref 34), some (.int (-2))], [], 0, 0, (mSH, (mUp I 0 9 ((I 0 9) + 1)), L))) rfl ?_
        refine mB 6 (s2 := (9, 113, 9, [some (.ref 34), some (.int (-2))], [.int 0, .ref 39, .int 0, .ref 39], 0, 0, (mSH, (mUp I 0 9 ((I 0 9) + 1)), L))) rfl ?_
        refine mRq (s2 := (9, 113, 10, [some (.ref 34), some (.int (-2))], [.int (I 39 0), .int 0, .ref 39], 0, 0, (mSH, (mUp I 0 9 ((I 0 9) + 1)), L))) rfl (by decide) ?_
        refine mB 2 (s2 := (9, 113, 12, [some (.ref 34), some (.int (-2))], [.int ((I 39 0) + 1), .int 0, .ref 39], 0, 0, (mSH, (mUp I 0 9 ((I 0 9) + 1)), L))) rfl ?_
        refine mRq (s2 := (9, 113, 13, [some (.ref 34), some (.int (-2))], [], 0, 0, (mSH, (mUp (mUp I 0 9 ((I 0 9) + 1)) 39 0 ((I 39 0) + 1)), L))) rfl (by decide) ?_
        refine mB 1 (s2 := (9, 113, 14, [some (.ref 34), some (.int (-2))], [.int (-2)], 0, 0, (mSH, (mUp (mUp I 0 9 ((I 0 9) + 1)) 39 0 ((I 39 0) + 1)), L))) rfl ?_
        refine mRt (r := (some (.int (-2)))) (h := (mSH, (mUp (mUp I 0 9 ((I 0 9) + 1)) 39 0 ((I 39 0) + 1)), L)) rfl (mRet_int rfl) ?_
        show mWP mTb_ mFT ro (10, 120, 15, [some (.ref 34), some (.int ((ro 0).2 1)), none], [.int (-2)], 0, 0, (mSH, (mUp (mUp I 0 9 ((I 0 9) + 1)) 39 0 ((I 39 0) + 1)), L)) _
        refine mRt (r := (some (.int (-2)))) (h := (mSH, (mUp (mUp I 0 9 ((I 0 9) + 1)) 39 0 ((I 39 0) + 1)), L)) rfl (mRet_int rfl) ?_
        show mWP mTb_ mFT ro (11, 163, 286, [some (.ref 1000), some (.ref 0), some (.ref 34), some (.int 0)], [.int (-2), .int (-2)], 62, 3336, (mSH, (mUp (mUp I 0 9 ((I 0 9) + 1)) 39 0 ((I 39 0) + 1)), L)) _
        refine mBT (s2 := (11, 163, 808, [some (.ref 1000), some (.ref 0), some (.ref 34), some (.int 0)], [], 62, 3336, (mSH, (mUp (mUp I 0 9 ((I 0 9) + 1)) 39 0 ((I 39 0) + 1)), L))) rfl (by decide) ?_
        exact h3 (of_decide_eq_false c0) (of_decide_eq_false c1) (of_decide_eq_true c2)
      · refine mB 2 (s2 := (9, 112, 7, [some (.int ((ro 0).2 1)), some (.int 0), some (.int 1)], [.int 1, .int ((ro 0).2 1)], 0, 0, (mSH, (mUp I 0 9 ((I 0 9) + 1)), L))) rfl ?_
        refine mBT (s2 := (9, 112, 14, [some (.int ((ro 0).2 1)), some (.int 0), some (.int 1)], [], 0, 0, (mSH, (mUp I 0 9 ((I 0 9) + 1)), L))) rfl (decide_eq_true (by
        have a0 := of_decide_eq_false c0
        have a1 := of_decide_eq_false c1
        have a2 := of_decide_eq_false c2
        simp only [f0_9, f0_10, f0_11, f1_2, f2_1, f4_1, f6_0, f6_1, f6_2, f6_3, f7_0, f7_1, f7_2, f7_3, f9_0, f9_1, f9_2, f25_0, f25_1, f26_1, f30_1, f32_1, f34_1, f34_3, f34_4, f34_11, f37_0, f37_1, f37_2, f37_3, f38_0, f38_1, f38_2, f39_0, f39_1, f39_2, f41_0, f41_1, f41_2, f41_3, f41_4, f41_5, g34_7, g34_8, hro0, hro1, hro1_0, hro1_1, hro1_2, hro2, hro2_0, hro2_1, hro2_2, hro13, mTn0, mTn1, mTn2, mTn10, Int32.lt_iff_toInt_lt, Int32.le_iff_toInt_le, ← Int32.toInt_inj, mLi0, mLi1, mLi2, mLi3, mLi4, mLi5, mLi6, mLi7, mLi8, mLi9, mLi16, mLi99, mLi120, mLi127, mLi1584, mLi999999, mLim] at a0 a1 a2 ⊢
        omega)) ?_
        refine mB 1 (s2 := (9, 112, 15, [some (.int ((ro 0).2 1)), some (.int 0), some (.int 1)], [.int 0], 0, 0, (mSH, (mUp I 0 9 ((I 0 9) + 1)), L))) rfl ?_
        refine mRt (r := (some (.int 0))) (h := (mSH, (mUp I 0 9 ((I 0 9) + 1)), L)) rfl rfl ?_
        show mWP mTb_ mFT ro (10, 120, 6, [some (.ref 34), some (.int ((ro 0).2 1)), none], [.int 0], 0, 0, (mSH, (mUp I 0 9 ((I 0 9) + 1)), L)) _
        refine mBT (s2 := (10, 120, 9, [some (.ref 34), some (.int ((ro 0).2 1)), none], [], 0, 0, (mSH, (mUp I 0 9 ((I 0 9) + 1)), L))) rfl (by decide) ?_
        refine mB 2 (s2 := (10, 120, 12, [some (.ref 34), some (.int ((ro 0).2 1)), none], [.int (-2), .ref 34], 0, 0, (mSH, (mUp I 0 9 ((I 0 9) + 1)), L))) rfl ?_
        refine mCall (s2 := (9, 113, 0, [some (.ref 34), some (.int (-2))], [], 0, 0, (mSH, (mUp I 0 9 ((I 0 9) + 1)), L))) rfl ?_
        refine mB 6 (s2 := (9, 113, 9, [some (.ref 34), some (.int (-2))], [.int 0, .ref 39, .int 0, .ref 39], 0, 0, (mSH, (mUp I 0 9 ((I 0 9) + 1)), L))) rfl ?_
        refine mRq (s2 := (9, 113, 10, [some (.ref 34), some (.int (-2))], [.int (I 39 0), .int 0, .ref 39], 0, 0, (mSH, (mUp I 0 9 ((I 0 9) + 1)), L))) rfl (by decide) ?_
        refine mB 2 (s2 := (9, 113, 12, [some (.ref 34), some (.int (-2))], [.int ((I 39 0) + 1), .int 0, .ref 39], 0, 0, (mSH, (mUp I 0 9 ((I 0 9) + 1)), L))) rfl ?_
        refine mRq (s2 := (9, 113, 13, [some (.ref 34), some (.int (-2))], [], 0, 0, (mSH, (mUp (mUp I 0 9 ((I 0 9) + 1)) 39 0 ((I 39 0) + 1)), L))) rfl (by decide) ?_
        refine mB 1 (s2 := (9, 113, 14, [some (.ref 34), some (.int (-2))], [.int (-2)], 0, 0, (mSH, (mUp (mUp I 0 9 ((I 0 9) + 1)) 39 0 ((I 39 0) + 1)), L))) rfl ?_
        refine mRt (r := (some (.int (-2)))) (h := (mSH, (mUp (mUp I 0 9 ((I 0 9) + 1)) 39 0 ((I 39 0) + 1)), L)) rfl (mRet_int rfl) ?_
        show mWP mTb_ mFT ro (10, 120, 15, [some (.ref 34), some (.int ((ro 0).2 1)), none], [.int (-2)], 0, 0, (mSH, (mUp (mUp I 0 9 ((I 0 9) + 1)) 39 0 ((I 39 0) + 1)), L)) _
        refine mRt (r := (some (.int (-2)))) (h := (mSH, (mUp (mUp I 0 9 ((I 0 9) + 1)) 39 0 ((I 39 0) + 1)), L)) rfl (mRet_int rfl) ?_
        show mWP mTb_ mFT ro (11, 163, 286, [some (.ref 1000), some (.ref 0), some (.ref 34), some (.int 0)], [.int (-2), .int (-2)], 62, 3336, (mSH, (mUp (mUp I 0 9 ((I 0 9) + 1)) 39 0 ((I 39 0) + 1)), L)) _
        refine mBT (s2 := (11, 163, 808, [some (.ref 1000), some (.ref 0), some (.ref 34), some (.int 0)], [], 62, 3336, (mSH, (mUp (mUp I 0 9 ((I 0 9) + 1)) 39 0 ((I 39 0) + 1)), L))) rfl (by decide) ?_
        exact h4 (of_decide_eq_false c0) (of_decide_eq_false c1) (of_decide_eq_false c2)
