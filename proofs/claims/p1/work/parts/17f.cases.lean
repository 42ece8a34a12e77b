theorem p1_unbound {ro : Nat → Nat × (Nat → Int32)} {Q : mPo} {I : Nat → Nat → Int32} {L : Nat → Nat → Int64} (hF : mFF I L) (hR : mRO ro) (h1 : mWP mTb_ mFT ro (11, 163, 808, [some (.ref 1000), some (.ref 0), some (.ref 34), some (.int 0)], [], 62, 3336, (mSH, (mUp (mUp (mUp (mUp (mUp (mFl (mFl (mFl (mFl I 12 154 1000000000) 13 154 1000000000) 20 154 0) 21 154 0) 34 20 0) 34 21 0) 34 22 0) 46 0 (-1)) 46 10 (-1)), L)) Q) : mWP mTb_ mFT ro (11, 163, 594, [some (.ref 1000), some (.ref 0), some (.ref 34), some (.int 0)], [], 62, 3336, (mSH, I, L)) Q := by
  obtain ⟨f0_9, f0_10, f0_11, f1_2, f2_1, f4_1, f6_0, f6_1, f6_2, f6_3, f7_0, f7_1, f7_2, f7_3, f9_0, f9_1, f9_2, f25_0, f25_1, f26_1, f30_1, f32_1, f34_1, f34_3, f34_4, f34_11, f37_0, f37_1, f37_2, f37_3, f38_0, f38_1, f38_2, f39_0, f39_1, f39_2, f41_0, f41_1, f41_2, f41_3, f41_4, f41_5, g34_7, g34_8⟩ := hF
  obtain ⟨hro0, hro1, hro1_0, hro1_1, hro1_2, hro2, hro2_0, hro2_1, hro2_2, hro13⟩ := hR
  refine mB 1 (s2 := (11, 163, 595, [some (.ref 1000), some (.ref 0), some (.ref 34), some (.int 0)], [.ref 0], 62, 3336, (mSH, I, L))) rfl ?_
  refine mCall (s2 := (10, 92, 0, [some (.ref 0)], [], 0, 0, (mSH, I, L))) rfl ?_
  refine mB 7 (s2 := (10, 92, 13, [some (.ref 0)], [.int 0, .ref 8, .ref 7, .ref 10], 0, 0, (mSH, I, L))) rfl ?_
  refine mCall (s2 := (9, 10, 0, [some (.ref 8), some (.int 0)], [], 0, 0, (mSH, I, L))) rfl ?_
  refine mB 2 (s2 := (9, 10, 2, [some (.ref 8), some (.int 0)], [.int 0, .ref 8], 0, 0, (mSH, I, L))) rfl ?_
  refine mCall (s2 := (8, 8, 0, [some (.ref 8), some (.int 0)], [], 0, 0, (mSH, I, L))) rfl ?_
  refine mB 1 (s2 := (8, 8, 1, [some (.ref 8), some (.int 0)], [.int 0], 0, 0, (mSH, I, L))) rfl ?_
  refine mBF (s3 := (8, 8, 4, [some (.ref 8), some (.int 0)], [], 0, 0, (mSH, I, L))) rfl (by decide) ?_
  refine mB 4 (s2 := (8, 8, 10, [some (.ref 8), some (.int 0)], [.int 3, .int 0], 0, 0, (mSH, I, L))) rfl ?_
  refine mBF (s3 := (8, 8, 13, [some (.ref 8), some (.int 0)], [], 0, 0, (mSH, I, L))) rfl (by decide) ?_
  refine mB 2 (s2 := (8, 8, 18, [some (.ref 8), some (.int 0)], [.int 1], 0, 0, (mSH, I, L))) rfl ?_
  refine mRt (r := (some (.int 1))) (h := (mSH, I, L)) rfl rfl ?_
  show mWP mTb_ mFT ro (9, 10, 5, [some (.ref 8), some (.int 0)], [.int 1], 0, 0, (mSH, I, L)) _
  refine mBF (s3 := (9, 10, 8, [some (.ref 8), some (.int 0)], [], 0, 0, (mSH, I, L))) rfl (by decide) ?_
  refine mB 3 (s2 := (9, 10, 13, [some (.ref 8), some (.int 0)], [.int 0, .ref 9], 0, 0, (mSH, I, L))) rfl ?_
  refine mRq (s2 := (9, 10, 14, [some (.ref 8), some (.int 0)], [.int (I 9 0)], 0, 0, (mSH, I, L))) rfl (by decide) ?_
  refine mB 1 (s2 := (9, 10, 18, [some (.ref 8), some (.int 0)], [.int (I 9 0)], 0, 0, (mSH, I, L))) rfl ?_
  refine mRt (r := (some (.int (I 9 0)))) (h := (mSH, I, L)) rfl (mRet_int rfl) ?_
  show mWP mTb_ mFT ro (10, 92, 16, [some (.ref 0)], [.int (I 9 0), .ref 7, .ref 10], 0, 0, (mSH, I, L)) _
  refine mCall (s2 := (9, 52, 0, [some (.ref 10), some (.ref 7), some (.int (I 9 0)), none, none, none], [], 0, 0, (mSH, I, L))) rfl ?_
  refine mB 1 (s2 := (9, 52, 1, [some (.ref 10), some (.ref 7), some (.int (I 9 0)), none, none, none], [.ref 10], 0, 0, (mSH, I, L))) rfl ?_
  refine mCall (s2 := (8, 53, 0, [some (.ref 10)], [], 0, 0, (mSH, I, L))) rfl ?_
  refine mB 3 (s2 := (8, 53, 5, [some (.ref 10)], [.int 0, .ref 11], 0, 0, (mSH, I, L))) rfl ?_
  refine mRq (s2 := (8, 53, 6, [some (.ref 10)], [.ref 12], 0, 0, (mSH, I, L))) rfl (by decide) ?_
  refine mB 1 (s2 := (8, 53, 8, [some (.ref 10)], [.int 1000000000, .ref 12], 0, 0, (mSH, I, L))) rfl ?_
  refine mCall (s2 := (7, 162, 0, [some (.ref 12), some (.int 1000000000), none, none], [], 0, 0, (mSH, I, L))) rfl ?_
  refine w_fill_12 ?_
  show mWP mTb_ mFT ro (8, 53, 11, [some (.ref 10)], [], 0, 0, (mSH, (mFl I 12 154 1000000000), L)) _
  refine mB 3 (s2 := (8, 53, 16, [some (.ref 10)], [.int 1, .ref 11], 0, 0, (mSH, (mFl I 12 154 1000000000), L))) rfl ?_
  refine mRq (s2 := (8, 53, 17, [some (.ref 10)], [.ref 13], 0, 0, (mSH, (mFl I 12 154 1000000000), L))) rfl (by decide) ?_
  refine mB 1 (s2 := (8, 53, 19, [some (.ref 10)], [.int 1000000000, .ref 13], 0, 0, (mSH, (mFl I 12 154 1000000000), L))) rfl ?_
  refine mCall (s2 := (7, 162, 0, [some (.ref 13), some (.int 1000000000), none, none], [], 0, 0, (mSH, (mFl I 12 154 1000000000), L))) rfl ?_
  refine w_fill_13 ?_
  show mWP mTb_ mFT ro (8, 53, 22, [some (.ref 10)], [], 0, 0, (mSH, (mFl (mFl I 12 154 1000000000) 13 154 1000000000), L)) _
  refine mB 3 (s2 := (8, 53, 27, [some (.ref 10)], [.int 0, .ref 20], 0, 0, (mSH, (mFl (mFl I 12 154 1000000000) 13 154 1000000000), L))) rfl ?_
  refine mCall (s2 := (7, 162, 0, [some (.ref 20), some (.int 0), none, none], [], 0, 0, (mSH, (mFl (mFl I 12 154 1000000000) 13 154 1000000000), L))) rfl ?_
  refine w_fill_20 ?_
  show mWP mTb_ mFT ro (8, 53, 30, [some (.ref 10)], [], 0, 0, (mSH, (mFl (mFl (mFl I 12 154 1000000000) 13 154 1000000000) 20 154 0), L)) _
  refine mB 3 (s2 := (8, 53, 35, [some (.ref 10)], [.int 0, .ref 21], 0, 0, (mSH, (mFl (mFl (mFl I 12 154 1000000000) 13 154 1000000000) 20 154 0), L))) rfl ?_
  refine mCall (s2 := (7, 162, 0, [some (.ref 21), some (.int 0), none, none], [], 0, 0, (mSH, (mFl (mFl (mFl I 12 154 1000000000) 13 154 1000000000) 20 154 0), L))) rfl ?_
  refine w_fill_21 ?_
  show mWP mTb_ mFT ro (8, 53, 38, [some (.ref 10)], [], 0, 0, (mSH, (mFl (mFl (mFl (mFl I 12 154 1000000000) 13 154 1000000000) 20 154 0) 21 154 0), L)) _
  refine mRt (r := none) (h := (mSH, (mFl (mFl (mFl (mFl I 12 154 1000000000) 13 154 1000000000) 20 154 0) 21 154 0), L)) rfl rfl ?_
  show mWP mTb_ mFT ro (9, 52, 4, [some (.ref 10), some (.ref 7), some (.int (I 9 0)), none, none, none], [], 0, 0, (mSH, (mFl (mFl (mFl (mFl I 12 154 1000000000) 13 154 1000000000) 20 154 0) 21 154 0), L)) _
  refine mB 3 (s2 := (9, 52, 11, [some (.ref 10), some (.ref 7), some (.int (I 9 0)), none, none, none], [.ref 4], 0, 0, (mSH, (mFl (mFl (mFl (mFl I 12 154 1000000000) 13 154 1000000000) 20 154 0) 21 154 0), L))) rfl ?_
  refine mCall (s2 := (8, 39, 0, [some (.ref 4)], [], 0, 0, (mSH, (mFl (mFl (mFl (mFl I 12 154 1000000000) 13 154 1000000000) 20 154 0) 21 154 0), L))) rfl ?_
  refine mB 2 (s2 := (8, 39, 4, [some (.ref 4)], [.int (I 4 1)], 0, 0, (mSH, (mFl (mFl (mFl (mFl I 12 154 1000000000) 13 154 1000000000) 20 154 0) 21 154 0), L))) rfl ?_
  refine mRt (r := (some (.int (I 4 1)))) (h := (mSH, (mFl (mFl (mFl (mFl I 12 154 1000000000) 13 154 1000000000) 20 154 0) 21 154 0), L)) rfl (mRet_int rfl) ?_
  show mWP mTb_ mFT ro (9, 52, 14, [some (.ref 10), some (.ref 7), some (.int (I 9 0)), none, none, none], [.int (I 4 1)], 0, 0, (mSH, (mFl (mFl (mFl (mFl I 12 154 1000000000) 13 154 1000000000) 20 154 0) 21 154 0), L)) _
  refine mB 4 (s2 := (9, 52, 18, [some (.ref 10), some (.ref 7), some (.int (I 9 0)), some (.int ((I 4 1) - 1)), none, none], [.int ((I 4 1) - 1)], 0, 0, (mSH, (mFl (mFl (mFl (mFl I 12 154 1000000000) 13 154 1000000000) 20 154 0) 21 154 0), L))) rfl ?_
  refine mBF (s3 := (9, 52, 21, [some (.ref 10), some (.ref 7), some (.int (I 9 0)), some (.int ((I 4 1) - 1)), none, none], [], 0, 0, (mSH, (mFl (mFl (mFl (mFl I 12 154 1000000000) 13 154 1000000000) 20 154 0) 21 154 0), L))) rfl (by first | (simp only [f0_9, f0_10, f0_11, f1_2, f2_1, f4_1, f6_0, f6_1, f6_2, f6_3, f7_0, f7_1, f7_2, f7_3, f9_0, f9_1, f9_2, f25_0, f25_1, f26_1, f30_1, f32_1, f34_1, f34_3, f34_4, f34_11, f37_0, f37_1, f37_2, f37_3, f38_0, f38_1, f38_2, f39_0, f39_1, f39_2, f41_0, f41_1, f41_2, f41_3, f41_4, f41_5, g34_7, g34_8, hro0, hro1, hro1_0, hro1_1, hro1_2, hro2, hro2_0, hro2_1, hro2_2, hro13, mTn0, mTn1, mTn2, mTn10]; first | decide | rfl) | decide | rfl) ?_
  refine mRt (r := none) (h := (mSH, (mFl (mFl (mFl (mFl I 12 154 1000000000) 13 154 1000000000) 20 154 0) 21 154 0), L)) rfl rfl ?_
  show mWP mTb_ mFT ro (10, 92, 19, [some (.ref 0)], [], 0, 0, (mSH, (mFl (mFl (mFl (mFl I 12 154 1000000000) 13 154 1000000000) 20 154 0) 21 154 0), L)) _
  refine mB 2 (s2 := (10, 92, 23, [some (.ref 0)], [.ref 10], 0, 0, (mSH, (mFl (mFl (mFl (mFl I 12 154 1000000000) 13 154 1000000000) 20 154 0) 21 154 0), L))) rfl ?_
  refine mCall (s2 := (9, 61, 0, [some (.ref 10)], [], 0, 0, (mSH, (mFl (mFl (mFl (mFl I 12 154 1000000000) 13 154 1000000000) 20 154 0) 21 154 0), L))) rfl ?_
  refine mB 2 (s2 := (9, 61, 4, [some (.ref 10)], [.int 153, .ref 10], 0, 0, (mSH, (mFl (mFl (mFl (mFl I 12 154 1000000000) 13 154 1000000000) 20 154 0) 21 154 0), L))) rfl ?_
  refine mCall (s2 := (8, 60, 0, [some (.ref 10), some (.int 153)], [], 0, 0, (mSH, (mFl (mFl (mFl (mFl I 12 154 1000000000) 13 154 1000000000) 20 154 0) 21 154 0), L))) rfl ?_
  refine mB 3 (s2 := (8, 60, 5, [some (.ref 10), some (.int 153)], [.int 0, .ref 11], 0, 0, (mSH, (mFl (mFl (mFl (mFl I 12 154 1000000000) 13 154 1000000000) 20 154 0) 21 154 0), L))) rfl ?_
  refine mRq (s2 := (8, 60, 6, [some (.ref 10), some (.int 153)], [.ref 12], 0, 0, (mSH, (mFl (mFl (mFl (mFl I 12 154 1000000000) 13 154 1000000000) 20 154 0) 21 154 0), L))) rfl (by decide) ?_
  refine mB 1 (s2 := (8, 60, 7, [some (.ref 10), some (.int 153)], [.int 153, .ref 12], 0, 0, (mSH, (mFl (mFl (mFl (mFl I 12 154 1000000000) 13 154 1000000000) 20 154 0) 21 154 0), L))) rfl ?_
  refine mRq (s2 := (8, 60, 8, [some (.ref 10), some (.int 153)], [.int 1000000000], 0, 0, (mSH, (mFl (mFl (mFl (mFl I 12 154 1000000000) 13 154 1000000000) 20 154 0) 21 154 0), L))) rfl (by decide) ?_
  refine mB 1 (s2 := (8, 60, 10, [some (.ref 10), some (.int 153)], [.int 1000000000, .int 1000000000], 0, 0, (mSH, (mFl (mFl (mFl (mFl I 12 154 1000000000) 13 154 1000000000) 20 154 0) 21 154 0), L))) rfl ?_
  refine mBT (s2 := (8, 60, 13, [some (.ref 10), some (.int 153)], [], 0, 0, (mSH, (mFl (mFl (mFl (mFl I 12 154 1000000000) 13 154 1000000000) 20 154 0) 21 154 0), L))) rfl (by decide) ?_
  refine mB 2 (s2 := (8, 60, 25, [some (.ref 10), some (.int 153)], [.int (-1)], 0, 0, (mSH, (mFl (mFl (mFl (mFl I 12 154 1000000000) 13 154 1000000000) 20 154 0) 21 154 0), L))) rfl ?_
  refine mRt (r := (some (.int (-1)))) (h := (mSH, (mFl (mFl (mFl (mFl I 12 154 1000000000) 13 154 1000000000) 20 154 0) 21 154 0), L)) rfl (mRet_int rfl) ?_
  show mWP mTb_ mFT ro (9, 61, 7, [some (.ref 10)], [.int (-1)], 0, 0, (mSH, (mFl (mFl (mFl (mFl I 12 154 1000000000) 13 154 1000000000) 20 154 0) 21 154 0), L)) _
  refine mRt (r := (some (.int (-1)))) (h := (mSH, (mFl (mFl (mFl (mFl I 12 154 1000000000) 13 154 1000000000) 20 154 0) 21 154 0), L)) rfl (mRet_int rfl) ?_
  show mWP mTb_ mFT ro (10, 92, 26, [some (.ref 0)], [.int (-1)], 0, 0, (mSH, (mFl (mFl (mFl (mFl I 12 154 1000000000) 13 154 1000000000) 20 154 0) 21 154 0), L)) _
  refine mRt (r := (some (.int (-1)))) (h := (mSH, (mFl (mFl (mFl (mFl I 12 154 1000000000) 13 154 1000000000) 20 154 0) 21 154 0), L)) rfl (mRet_int rfl) ?_
  show mWP mTb_ mFT ro (11, 163, 598, [some (.ref 1000), some (.ref 0), some (.ref 34), some (.int 0)], [.int (-1)], 62, 3336, (mSH, (mFl (mFl (mFl (mFl I 12 154 1000000000) 13 154 1000000000) 20 154 0) 21 154 0), L)) _
  refine mB 1 (s2 := (11, 163, 599, [some (.ref 1000), some (.ref 0), some (.ref 34), some (.int 0)], [.ref 34, .int (-1)], 62, 3336, (mSH, (mFl (mFl (mFl (mFl I 12 154 1000000000) 13 154 1000000000) 20 154 0) 21 154 0), L))) rfl ?_
  refine mCall (s2 := (10, 140, 0, [some (.ref 34)], [], 0, 0, (mSH, (mFl (mFl (mFl (mFl I 12 154 1000000000) 13 154 1000000000) 20 154 0) 21 154 0), L))) rfl ?_
  refine mB 4 (s2 := (10, 140, 6, [some (.ref 34)], [.int 0, .ref 38, .ref 34], 0, 0, (mSH, (mFl (mFl (mFl (mFl I 12 154 1000000000) 13 154 1000000000) 20 154 0) 21 154 0), L))) rfl ?_
  refine mRq (s2 := (10, 140, 7, [some (.ref 34)], [.int (I 38 0), .ref 34], 0, 0, (mSH, (mFl (mFl (mFl (mFl I 12 154 1000000000) 13 154 1000000000) 20 154 0) 21 154 0), L))) rfl (by decide) ?_
  refine mB 1 (s2 := (10, 140, 8, [some (.ref 34)], [.int 1, .int (I 38 0), .ref 34], 0, 0, (mSH, (mFl (mFl (mFl (mFl I 12 154 1000000000) 13 154 1000000000) 20 154 0) 21 154 0), L))) rfl ?_
  refine mCall (s2 := (9, 131, 0, [some (.ref 34), some (.int (I 38 0)), some (.int 1), none], [], 0, 0, (mSH, (mFl (mFl (mFl (mFl I 12 154 1000000000) 13 154 1000000000) 20 154 0) 21 154 0), L))) rfl ?_
  refine mB 1 (s2 := (9, 131, 1, [some (.ref 34), some (.int (I 38 0)), some (.int 1), none], [.ref 34], 0, 0, (mSH, (mFl (mFl (mFl (mFl I 12 154 1000000000) 13 154 1000000000) 20 154 0) 21 154 0), L))) rfl ?_
  refine mCall (s2 := (8, 130, 0, [some (.ref 34)], [], 0, 0, (mSH, (mFl (mFl (mFl (mFl I 12 154 1000000000) 13 154 1000000000) 20 154 0) 21 154 0), L))) rfl ?_
  refine mB 13 (s2 := (8, 130, 21, [some (.ref 34)], [.int (-1), .int 0, .ref 46], 0, 0, (mSH, (mUp (mUp (mUp (mFl (mFl (mFl (mFl I 12 154 1000000000) 13 154 1000000000) 20 154 0) 21 154 0) 34 20 0) 34 21 0) 34 22 0), L))) rfl ?_
  refine mRq (s2 := (8, 130, 22, [some (.ref 34)], [], 0, 0, (mSH, (mUp (mUp (mUp (mUp (mFl (mFl (mFl (mFl I 12 154 1000000000) 13 154 1000000000) 20 154 0) 21 154 0) 34 20 0) 34 21 0) 34 22 0) 46 0 (-1)), L))) rfl (by decide) ?_
  refine mB 4 (s2 := (8, 130, 29, [some (.ref 34)], [.int (-1), .int 10, .ref 46], 0, 0, (mSH, (mUp (mUp (mUp (mUp (mFl (mFl (mFl (mFl I 12 154 1000000000) 13 154 1000000000) 20 154 0) 21 154 0) 34 20 0) 34 21 0) 34 22 0) 46 0 (-1)), L))) rfl ?_
  refine mRq (s2 := (8, 130, 30, [some (.ref 34)], [], 0, 0, (mSH, (mUp (mUp (mUp (mUp (mUp (mFl (mFl (mFl (mFl I 12 154 1000000000) 13 154 1000000000) 20 154 0) 21 154 0) 34 20 0) 34 21 0) 34 22 0) 46 0 (-1)) 46 10 (-1)), L))) rfl (by decide) ?_
  refine mRt (r := none) (h := (mSH, (mUp (mUp (mUp (mUp (mUp (mFl (mFl (mFl (mFl I 12 154 1000000000) 13 154 1000000000) 20 154 0) 21 154 0) 34 20 0) 34 21 0) 34 22 0) 46 0 (-1)) 46 10 (-1)), L)) rfl rfl ?_
  show mWP mTb_ mFT ro (9, 131, 4, [some (.ref 34), some (.int (I 38 0)), some (.int 1), none], [], 0, 0, (mSH, (mUp (mUp (mUp (mUp (mUp (mFl (mFl (mFl (mFl I 12 154 1000000000) 13 154 1000000000) 20 154 0) 21 154 0) 34 20 0) 34 21 0) 34 22 0) 46 0 (-1)) 46 10 (-1)), L)) _
  refine mB 5 (s2 := (9, 131, 11, [some (.ref 34), some (.int (I 38 0)), some (.int 1), some (.int 0)], [.int (I 34 1), .int 0], 0, 0, (mSH, (mUp (mUp (mUp (mUp (mUp (mFl (mFl (mFl (mFl I 12 154 1000000000) 13 154 1000000000) 20 154 0) 21 154 0) 34 20 0) 34 21 0) 34 22 0) 46 0 (-1)) 46 10 (-1)), L))) rfl ?_
  refine mBT (s2 := (9, 131, 34, [some (.ref 34), some (.int (I 38 0)), some (.int 1), some (.int 0)], [], 0, 0, (mSH, (mUp (mUp (mUp (mUp (mUp (mFl (mFl (mFl (mFl I 12 154 1000000000) 13 154 1000000000) 20 154 0) 21 154 0) 34 20 0) 34 21 0) 34 22 0) 46 0 (-1)) 46 10 (-1)), L))) rfl (by first | (simp only [f0_9, f0_10, f0_11, f1_2, f2_1, f4_1, f6_0, f6_1, f6_2, f6_3, f7_0, f7_1, f7_2, f7_3, f9_0, f9_1, f9_2, f25_0, f25_1, f26_1, f30_1, f32_1, f34_1, f34_3, f34_4, f34_11, f37_0, f37_1, f37_2, f37_3, f38_0, f38_1, f38_2, f39_0, f39_1, f39_2, f41_0, f41_1, f41_2, f41_3, f41_4, f41_5, g34_7, g34_8, hro0, hro1, hro1_0, hro1_1, hro1_2, hro2, hro2_0, hro2_1, hro2_2, hro13, mTn0, mTn1, mTn2, mTn10]; first | decide | rfl) | decide | rfl) ?_
  refine mB 2 (s2 := (9, 131, 38, [some (.ref 34), some (.int (I 38 0)), some (.int 1), some (.int 0)], [.int 0], 0, 0, (mSH, (mUp (mUp (mUp (mUp (mUp (mFl (mFl (mFl (mFl I 12 154 1000000000) 13 154 1000000000) 20 154 0) 21 154 0) 34 20 0) 34 21 0) 34 22 0) 46 0 (-1)) 46 10 (-1)), L))) rfl ?_
  refine mBT (s2 := (9, 131, 45, [some (.ref 34), some (.int (I 38 0)), some (.int 1), some (.int 0)], [], 0, 0, (mSH, (mUp (mUp (mUp (mUp (mUp (mFl (mFl (mFl (mFl I 12 154 1000000000) 13 154 1000000000) 20 154 0) 21 154 0) 34 20 0) 34 21 0) 34 22 0) 46 0 (-1)) 46 10 (-1)), L))) rfl (by decide) ?_
  refine mB 1 (s2 := (9, 131, 46, [some (.ref 34), some (.int (I 38 0)), some (.int 1), some (.int 0)], [.int 0], 0, 0, (mSH, (mUp (mUp (mUp (mUp (mUp (mFl (mFl (mFl (mFl I 12 154 1000000000) 13 154 1000000000) 20 154 0) 21 154 0) 34 20 0) 34 21 0) 34 22 0) 46 0 (-1)) 46 10 (-1)), L))) rfl ?_
  refine mRt (r := (some (.int 0))) (h := (mSH, (mUp (mUp (mUp (mUp (mUp (mFl (mFl (mFl (mFl I 12 154 1000000000) 13 154 1000000000) 20 154 0) 21 154 0) 34 20 0) 34 21 0) 34 22 0) 46 0 (-1)) 46 10 (-1)), L)) rfl rfl ?_
  show mWP mTb_ mFT ro (10, 140, 11, [some (.ref 34)], [.int 0], 0, 0, (mSH, (mUp (mUp (mUp (mUp (mUp (mFl (mFl (mFl (mFl I 12 154 1000000000) 13 154 1000000000) 20 154 0) 21 154 0) 34 20 0) 34 21 0) 34 22 0) 46 0 (-1)) 46 10 (-1)), L)) _
  refine mB 4 (s2 := (10, 140, 17, [some (.ref 34)], [.int 0, .ref 46], 0, 0, (mSH, (mUp (mUp (mUp (mUp (mUp (mFl (mFl (mFl (mFl I 12 154 1000000000) 13 154 1000000000) 20 154 0) 21 154 0) 34 20 0) 34 21 0) 34 22 0) 46 0 (-1)) 46 10 (-1)), L))) rfl ?_
  refine mRq (s2 := (10, 140, 18, [some (.ref 34)], [.int (-1)], 0, 0, (mSH, (mUp (mUp (mUp (mUp (mUp (mFl (mFl (mFl (mFl I 12 154 1000000000) 13 154 1000000000) 20 154 0) 21 154 0) 34 20 0) 34 21 0) 34 22 0) 46 0 (-1)) 46 10 (-1)), L))) rfl (by decide) ?_
  refine mRt (r := (some (.int (-1)))) (h := (mSH, (mUp (mUp (mUp (mUp (mUp (mFl (mFl (mFl (mFl I 12 154 1000000000) 13 154 1000000000) 20 154 0) 21 154 0) 34 20 0) 34 21 0) 34 22 0) 46 0 (-1)) 46 10 (-1)), L)) rfl (mRet_int rfl) ?_
  show mWP mTb_ mFT ro (11, 163, 602, [some (.ref 1000), some (.ref 0), some (.ref 34), some (.int 0)], [.int (-1), .int (-1)], 62, 3336, (mSH, (mUp (mUp (mUp (mUp (mUp (mFl (mFl (mFl (mFl I 12 154 1000000000) 13 154 1000000000) 20 154 0) 21 154 0) 34 20 0) 34 21 0) 34 22 0) 46 0 (-1)) 46 10 (-1)), L)) _
  refine mBT (s2 := (11, 163, 808, [some (.ref 1000), some (.ref 0), some (.ref 34), some (.int 0)], [], 62, 3336, (mSH, (mUp (mUp (mUp (mUp (mUp (mFl (mFl (mFl (mFl I 12 154 1000000000) 13 154 1000000000) 20 154 0) 21 154 0) 34 20 0) 34 21 0) 34 22 0) 46 0 (-1)) 46 10 (-1)), L))) rfl (by decide) ?_
  exact h1
theorem p1_age {ro : Nat → Nat × (Nat → Int32)} {Q : mPo} {I : Nat → Nat → Int32} {L : Nat → Nat → Int64} (hF : mFF I L) (hR : mRO ro) (h1 : (((ro 0).2 1) < 0) → mWP mTb_ mFT ro (11, 163, 808, [some (.ref 1000), some (.ref 0), some (.ref 34), some (.int 0)], [], 62, 3336, (mSH, (mUp (mUp I 0 9 ((I 0 9) + 1)) 39 0 ((I 39 0) + 1)), L)) Q) (h2 : ¬ (((ro 0).2 1) < 0) → (((ro 0).2 1) ≤ 0) → mWP mTb_ mFT ro (11, 163, 808, [some (.ref 1000), some (.ref 0), some (.ref 34), some (.int 0)], [], 62, 3336, (mSH, (mUp (mUp (mUp (mUp (mUp (mUp (mUp (mFl (mFl (mFl (mFl I 12 154 1000000000) 13 154 1000000000) 20 154 0) 21 154 0) 0 10 ((I 0 10) + 1)) 34 20 0) 34 21 0) 34 22 0) 46 0 (-1)) 46 10 (-1)) 39 1 ((I 39 1) + 1)), L)) Q) (h3 : ¬ (((ro 0).2 1) < 0) → ¬ (((ro 0).2 1) ≤ 0) → mWP mTb_ mFT ro (11, 163, 808, [some (.ref 1000), some (.ref 0), some (.ref 34), some (.int 0)], [], 62, 3336, (mSH, (mUp (mUp I 0 9 ((I 0 9) + 1)) 39 0 ((I 39 0) + 1)), L)) Q) : mWP mTb_ mFT ro (11, 163, 607, [some (.ref 1000), some (.ref 0), some (.ref 34), some (.int 0)], [], 62, 3336, (mSH, I, L)) Q := by
  obtain ⟨f0_9, f0_10, f0_11, f1_2, f2_1, f4_1, f6_0, f6_1, f6_2, f6_3, f7_0, f7_1, f7_2, f7_3, f9_0, f9_1, f9_2, f25_0, f25_1, f26_1, f30_1, f32_1, f34_1, f34_3, f34_4, f34_11, f37_0, f37_1, f37_2, f37_3, f38_0, f38_1, f38_2, f39_0, f39_1, f39_2, f41_0, f41_1, f41_2, f41_3, f41_4, f41_5, g34_7, g34_8⟩ := hF
  obtain ⟨hro0, hro1, hro1_0, hro1_1, hro1_2, hro2, hro2_0, hro2_1, hro2_2, hro13⟩ := hR
  refine mB 5 (s2 := (11, 163, 612, [some (.ref 1000), some (.ref 0), some (.ref 34), some (.int 0)], [.int 1, .ref 1000, .ref 0], 62, 3336, (mSH, I, L))) rfl ?_
  refine mRq (s2 := (11, 163, 613, [some (.ref 1000), some (.ref 0), some (.ref 34), some (.int 0)], [.int ((ro 0).2 1), .ref 0], 62, 3336, (mSH, I, L))) rfl (by first | (simp only [f0_9, f0_10, f0_11, f1_2, f2_1, f4_1, f6_0, f6_1, f6_2, f6_3, f7_0, f7_1, f7_2, f7_3, f9_0, f9_1, f9_2, f25_0, f25_1, f26_1, f30_1, f32_1, f34_1, f34_3, f34_4, f34_11, f37_0, f37_1, f37_2, f37_3, f38_0, f38_1, f38_2, f39_0, f39_1, f39_2, f41_0, f41_1, f41_2, f41_3, f41_4, f41_5, g34_7, g34_8, hro0, hro1, hro1_0, hro1_1, hro1_2, hro2, hro2_0, hro2_1, hro2_2, hro13, mTn0, mTn1, mTn2, mTn10]; first | decide | rfl) | decide | rfl) ?_
  refine mCall (s2 := (10, 93, 0, [some (.ref 0), some (.int ((ro 0).2 1))], [], 0, 0, (mSH, I, L))) rfl ?_
  refine mB 1 (s2 := (10, 93, 1, [some (.ref 0), some (.int ((ro 0).2 1))], [.int ((ro 0).2 1)], 0, 0, (mSH, I, L))) rfl ?_
  refine mBr (s2 := (10, 93, 18, [some (.ref 0), some (.int ((ro 0).2 1))], [], 0, 0, (mSH, I, L))) (s3 := (10, 93, 4, [some (.ref 0), some (.int ((ro 0).2 1))], [], 0, 0, (mSH, I, L))) rfl (fun c0 => ?_) (fun c0 => ?_)
  · refine mB 2 (s2 := (10, 93, 21, [some (.ref 0), some (.int ((ro 0).2 1))], [.int (-2), .ref 0], 0, 0, (mSH, I, L))) rfl ?_
    refine mCall (s2 := (9, 103, 0, [some (.ref 0), some (.int (-2))], [], 0, 0, (mSH, I, L))) rfl ?_
    refine mB 2 (s2 := (9, 103, 3, [some (.ref 0), some (.int (-2))], [.int (-2), .int (-2)], 0, 0, (mSH, I, L))) rfl ?_
    refine mBT (s2 := (9, 103, 6, [some (.ref 0), some (.int (-2))], [], 0, 0, (mSH, I, L))) rfl (by decide) ?_
    refine mB 8 (s2 := (9, 103, 49, [some (.ref 0), some (.int (-2))], [.int (-2)], 0, 0, (mSH, (mUp I 0 9 ((I 0 9) + 1)), L))) rfl ?_
    refine mRt (r := (some (.int (-2)))) (h := (mSH, (mUp I 0 9 ((I 0 9) + 1)), L)) rfl (mRet_int rfl) ?_
    show mWP mTb_ mFT ro (10, 93, 24, [some (.ref 0), some (.int ((ro 0).2 1))], [.int (-2)], 0, 0, (mSH, (mUp I 0 9 ((I 0 9) + 1)), L)) _
    refine mRt (r := (some (.int (-2)))) (h := (mSH, (mUp I 0 9 ((I 0 9) + 1)), L)) rfl (mRet_int rfl) ?_
    show mWP mTb_ mFT ro (11, 163, 616, [some (.ref 1000), some (.ref 0), some (.ref 34), some (.int 0)], [.int (-2)], 62, 3336, (mSH, (mUp I 0 9 ((I 0 9) + 1)), L)) _
    refine mB 5 (s2 := (11, 163, 621, [some (.ref 1000), some (.ref 0), some (.ref 34), some (.int 0)], [.int 1, .ref 1000, .ref 34, .int (-2)], 62, 3336, (mSH, (mUp I 0 9 ((I 0 9) + 1)), L))) rfl ?_
    refine mRq (s2 := (11, 163, 622, [some (.ref 1000), some (.ref 0), some (.ref 34), some (.int 0)], [.int ((ro 0).2 1), .ref 34, .int (-2)], 62, 3336, (mSH, (mUp I 0 9 ((I 0 9) + 1)), L))) rfl (by first | (simp only [f0_9, f0_10, f0_11, f1_2, f2_1, f4_1, f6_0, f6_1, f6_2, f6_3, f7_0, f7_1, f7_2, f7_3, f9_0, f9_1, f9_2, f25_0, f25_1, f26_1, f30_1, f32_1, f34_1, f34_3, f34_4, f34_11, f37_0, f37_1, f37_2, f37_3, f38_0, f38_1, f38_2, f39_0, f39_1, f39_2, f41_0, f41_1, f41_2, f41_3, f41_4, f41_5, g34_7, g34_8, hro0, hro1, hro1_0, hro1_1, hro1_2, hro2, hro2_0, hro2_1, hro2_2, hro13, mTn0, mTn1, mTn2, mTn10]; first | decide | rfl) | decide | rfl) ?_
    refine mCall (s2 := (10, 143, 0, [some (.ref 34), some (.int ((ro 0).2 1)), none, none, none, none, none], [], 0, 0, (mSH, (mUp I 0 9 ((I 0 9) + 1)), L))) rfl ?_
    refine mB 3 (s2 := (10, 143, 3, [some (.ref 34), some (.int ((ro 0).2 1)), none, none, none, none, none], [.ref 34, .int 0, .int ((ro 0).2 1)], 0, 0, (mSH, (mUp I 0 9 ((I 0 9) + 1)), L))) rfl ?_
    refine mCall (s2 := (9, 142, 0, [some (.ref 34), none, none], [], 0, 0, (mSH, (mUp I 0 9 ((I 0 9) + 1)), L))) rfl ?_
    refine mB 7 (s2 := (9, 142, 9, [some (.ref 34), some (.int 0), some (.int 0)], [.int (I 34 3), .int 0], 0, 0, (mSH, (mUp I 0 9 ((I 0 9) + 1)), L))) rfl ?_
    refine mBT (s2 := (9, 142, 27, [some (.ref 34), some (.int 0), some (.int 0)], [], 0, 0, (mSH, (mUp I 0 9 ((I 0 9) + 1)), L))) rfl (by first | (simp only [f0_9, f0_10, f0_11, f1_2, f2_1, f4_1, f6_0, f6_1, f6_2, f6_3, f7_0, f7_1, f7_2, f7_3, f9_0, f9_1, f9_2, f25_0, f25_1, f26_1, f30_1, f32_1, f34_1, f34_3, f34_4, f34_11, f37_0, f37_1, f37_2, f37_3, f38_0, f38_1, f38_2, f39_0, f39_1, f39_2, f41_0, f41_1, f41_2, f41_3, f41_4, f41_5, g34_7, g34_8, hro0, hro1, hro1_0, hro1_1, hro1_2, hro2, hro2_0, hro2_1, hro2_2, hro13, mTn0, mTn1, mTn2, mTn10]; first | decide | rfl) | decide | rfl) ?_
    refine mB 1 (s2 := (9, 142, 28, [some (.ref 34), some (.int 0), some (.int 0)], [.int 0], 0, 0, (mSH, (mUp I 0 9 ((I 0 9) + 1)), L))) rfl ?_
    refine mRt (r := (some (.int 0))) (h := (mSH, (mUp I 0 9 ((I 0 9) + 1)), L)) rfl (mRet_int rfl) ?_
    show mWP mTb_ mFT ro (10, 143, 6, [some (.ref 34), some (.int ((ro 0).2 1)), none, none, none, none, none], [.int 0, .int 0, .int ((ro 0).2 1)], 0, 0, (mSH, (mUp I 0 9 ((I 0 9) + 1)), L)) _
    refine mCall (s2 := (9, 112, 0, [some (.int ((ro 0).2 1)), some (.int 0), some (.int 0)], [], 0, 0, (mSH, (mUp I 0 9 ((I 0 9) + 1)), L))) rfl ?_
    refine mB 2 (s2 := (9, 112, 2, [some (.int ((ro 0).2 1)), some (.int 0), some (.int 0)], [.int 0, .int ((ro 0).2 1)], 0, 0, (mSH, (mUp I 0 9 ((I 0 9) + 1)), L))) rfl ?_
    refine mBT (s2 := (9, 112, 14, [some (.int ((ro 0).2 1)), some (.int 0), some (.int 0)], [], 0, 0, (mSH, (mUp I 0 9 ((I 0 9) + 1)), L))) rfl (decide_eq_true (by
        have a0 := of_decide_eq_true c0
        simp only [f0_9, f0_10, f0_11, f1_2, f2_1, f4_1, f6_0, f6_1, f6_2, f6_3, f7_0, f7_1, f7_2, f7_3, f9_0, f9_1, f9_2, f25_0, f25_1, f26_1, f30_1, f32_1, f34_1, f34_3, f34_4, f34_11, f37_0, f37_1, f37_2, f37_3, f38_0, f38_1, f38_2, f39_0, f39_1, f39_2, f41_0, f41_1, f41_2, f41_3, f41_4, f41_5, g34_7, g34_8, hro0, hro1, hro1_0, hro1_1, hro1_2, hro2, hro2_0, hro2_1, hro2_2, hro13, mTn0, mTn1, mTn2, mTn10, Int32.lt_iff_toInt_lt, Int32.le_iff_toInt_le, ← Int32.toInt_inj, mLi0, mLi1, mLi2, mLi3, mLi4, mLi5, mLi6, mLi7, mLi8, mLi9, mLi16, mLi99, mLi120, mLi127, mLi1584, mLi999999, mLim] at a0 ⊢
        omega)) ?_
    refine mB 1 (s2 := (9, 112, 15, [some (.int ((ro 0).2 1)), some (.int 0), some (.int 0)], [.int 0], 0, 0, (mSH, (mUp I 0 9 ((I 0 9) + 1)), L))) rfl ?_
    refine mRt (r := (some (.int 0))) (h := (mSH, (mUp I 0 9 ((I 0 9) + 1)), L)) rfl rfl ?_
    show mWP mTb_ mFT ro (10, 143, 9, [some (.ref 34), some (.int ((ro 0).2 1)), none, none, none, none, none], [.int 0], 0, 0, (mSH, (mUp I 0 9 ((I 0 9) + 1)), L)) _
    refine mBT (s2 := (10, 143, 12, [some (.ref 34), some (.int ((ro 0).2 1)), none, none, none, none, none], [], 0, 0, (mSH, (mUp I 0 9 ((I 0 9) + 1)), L))) rfl (by decide) ?_
    refine mB 2 (s2 := (10, 143, 15, [some (.ref 34), some (.int ((ro 0).2 1)), none, none, none, none, none], [.int (-2), .ref 34], 0, 0, (mSH, (mUp I 0 9 ((I 0 9) + 1)), L))) rfl ?_
    refine mCall (s2 := (9, 113, 0, [some (.ref 34), some (.int (-2))], [], 0, 0, (mSH, (mUp I 0 9 ((I 0 9) + 1)), L))) rfl ?_
    refine mB 6 (s2 := (9, 113, 9, [some (.ref 34), some (.int (-2))], [.int 0, .ref 39, .int 0, .ref 39], 0, 0, (mSH, (mUp I 0 9 ((I 0 9) + 1)), L))) rfl ?_
    refine mRq (s2 := (9, 113, 10, [some (.ref 34), some (.int (-2))], [.int (I 39 0), .int 0, .ref 39], 0, 0, (mSH, (mUp I 0 9 ((I 0 9) + 1)), L))) rfl (by decide) ?_
    refine mB 2 (s2 := (9, 113, 12, [some (.ref 34), some (.int (-2))], [.int ((I 39 0) + 1), .int 0, .ref 39], 0, 0, (mSH, (mUp I 0 9 ((I 0 9) + 1)), L))) rfl ?_
    refine mRq (s2 := (9, 113, 13, [some (.ref 34), some (.int (-2))], [], 0, 0, (mSH, (mUp (mUp I 0 9 ((I 0 9) + 1)) 39 0 ((I 39 0) + 1)), L))) rfl (by decide) ?_
    refine mB 1 (s2 := (9, 113, 14, [some (.ref 34), some (.int (-2))], [.int (-2)], 0, 0, (mSH, (mUp (mUp I 0 9 ((I 0 9) + 1)) 39 0 ((I 39 0) + 1)), L))) rfl ?_
    refine mRt (r := (some (.int (-2)))) (h := (mSH, (mUp (mUp I 0 9 ((I 0 9) + 1)) 39 0 ((I 39 0) + 1)), L)) rfl (mRet_int rfl) ?_
    show mWP mTb_ mFT ro (10, 143, 18, [some (.ref 34), some (.int ((ro 0).2 1)), none, none, none, none, none], [.int (-2)], 0, 0, (mSH, (mUp (mUp I 0 9 ((I 0 9) + 1)) 39 0 ((I 39 0) + 1)), L)) _
    refine mRt (r := (some (.int (-2)))) (h := (mSH, (mUp (mUp I 0 9 ((I 0 9) + 1)) 39 0 ((I 39 0) + 1)), L)) rfl (mRet_int rfl) ?_
    show mWP mTb_ mFT ro (11, 163, 625, [some (.ref 1000), some (.ref 0), some (.ref 34), some (.int 0)], [.int (-2), .int (-2)], 62, 3336, (mSH, (mUp (mUp I 0 9 ((I 0 9) + 1)) 39 0 ((I 39 0) + 1)), L)) _
    refine mBT (s2 := (11, 163, 808, [some (.ref 1000), some (.ref 0), some (.ref 34), some (.int 0)], [], 62, 3336, (mSH, (mUp (mUp I 0 9 ((I 0 9) + 1)) 39 0 ((I 39 0) + 1)), L))) rfl (by decide) ?_
    exact h1 (of_decide_eq_true c0)
  · refine mB 4 (s2 := (10, 93, 12, [some (.ref 0), some (.int ((ro 0).2 1))], [.ref 4, .int ((ro 0).2 1)], 0, 0, (mSH, I, L))) rfl ?_
    refine mCall (s2 := (9, 48, 0, [some (.ref 4)], [], 0, 0, (mSH, I, L))) rfl ?_
    refine mB 3 (s2 := (9, 48, 5, [some (.ref 4)], [.int (I 4 1), .ref 4], 0, 0, (mSH, I, L))) rfl ?_
    refine mCall (s2 := (8, 47, 0, [some (.ref 4), some (.int (I 4 1)), none, none], [], 0, 0, (mSH, I, L))) rfl ?_
    refine mB 7 (s2 := (8, 47, 9, [some (.ref 4), some (.int (I 4 1)), some (.int 0), some (.int 0)], [.int (I 4 1), .int 0], 0, 0, (mSH, I, L))) rfl ?_
    refine mBT (s2 := (8, 47, 32, [some (.ref 4), some (.int (I 4 1)), some (.int 0), some (.int 0)], [], 0, 0, (mSH, I, L))) rfl (by first | (simp only [f0_9, f0_10, f0_11, f1_2, f2_1, f4_1, f6_0, f6_1, f6_2, f6_3, f7_0, f7_1, f7_2, f7_3, f9_0, f9_1, f9_2, f25_0, f25_1, f26_1, f30_1, f32_1, f34_1, f34_3, f34_4, f34_11, f37_0, f37_1, f37_2, f37_3, f38_0, f38_1, f38_2, f39_0, f39_1, f39_2, f41_0, f41_1, f41_2, f41_3, f41_4, f41_5, g34_7, g34_8, hro0, hro1, hro1_0, hro1_1, hro1_2, hro2, hro2_0, hro2_1, hro2_2, hro13, mTn0, mTn1, mTn2, mTn10]; first | decide | rfl) | decide | rfl) ?_
    refine mB 1 (s2 := (8, 47, 33, [some (.ref 4), some (.int (I 4 1)), some (.int 0), some (.int 0)], [.int 0], 0, 0, (mSH, I, L))) rfl ?_
    refine mRt (r := (some (.int 0))) (h := (mSH, I, L)) rfl (mRet_int rfl) ?_
    show mWP mTb_ mFT ro (9, 48, 8, [some (.ref 4)], [.int 0], 0, 0, (mSH, I, L)) _
    refine mRt (r := (some (.int 0))) (h := (mSH, I, L)) rfl (mRet_int rfl) ?_
    show mWP mTb_ mFT ro (10, 93, 15, [some (.ref 0), some (.int ((ro 0).2 1))], [.int 0, .int ((ro 0).2 1)], 0, 0, (mSH, I, L)) _
    refine mBr (s2 := (10, 93, 25, [some (.ref 0), some (.int ((ro 0).2 1))], [], 0, 0, (mSH, I, L))) (s3 := (10, 93, 18, [some (.ref 0), some (.int ((ro 0).2 1))], [], 0, 0, (mSH, I, L))) rfl (fun c1 => ?_) (fun c1 => ?_)
    · refine mB 2 (s2 := (10, 93, 27, [some (.ref 0), some (.int ((ro 0).2 1))], [.int 0, .ref 0], 0, 0, (mSH, I, L))) rfl ?_
      refine mCall (s2 := (9, 106, 0, [some (.ref 0), some (.int 0)], [], 0, 0, (mSH, I, L))) rfl ?_
      refine mB 7 (s2 := (9, 106, 13, [some (.ref 0), some (.int 0)], [.int 0, .ref 8, .ref 6, .ref 10], 0, 0, (mSH, I, L))) rfl ?_
      refine mCall (s2 := (8, 10, 0, [some (.ref 8), some (.int 0)], [], 0, 0, (mSH, I, L))) rfl ?_
      refine mB 2 (s2 := (8, 10, 2, [some (.ref 8), some (.int 0)], [.int 0, .ref 8], 0, 0, (mSH, I, L))) rfl ?_
      refine mCall (s2 := (7, 8, 0, [some (.ref 8), some (.int 0)], [], 0, 0, (mSH, I, L))) rfl ?_
      refine mB 1 (s2 := (7, 8, 1, [some (.ref 8), some (.int 0)], [.int 0], 0, 0, (mSH, I, L))) rfl ?_
      refine mBF (s3 := (7, 8, 4, [some (.ref 8), some (.int 0)], [], 0, 0, (mSH, I, L))) rfl (by decide) ?_
      refine mB 4 (s2 := (7, 8, 10, [some (.ref 8), some (.int 0)], [.int 3, .int 0], 0, 0, (mSH, I, L))) rfl ?_
      refine mBF (s3 := (7, 8, 13, [some (.ref 8), some (.int 0)], [], 0, 0, (mSH, I, L))) rfl (by decide) ?_
      refine mB 2 (s2 := (7, 8, 18, [some (.ref 8), some (.int 0)], [.int 1], 0, 0, (mSH, I, L))) rfl ?_
      refine mRt (r := (some (.int 1))) (h := (mSH, I, L)) rfl rfl ?_
      show mWP mTb_ mFT ro (8, 10, 5, [some (.ref 8), some (.int 0)], [.int 1], 0, 0, (mSH, I, L)) _
      refine mBF (s3 := (8, 10, 8, [some (.ref 8), some (.int 0)], [], 0, 0, (mSH, I, L))) rfl (by decide) ?_
      refine mB 3 (s2 := (8, 10, 13, [some (.ref 8), some (.int 0)], [.int 0, .ref 9], 0, 0, (mSH, I, L))) rfl ?_
      refine mRq (s2 := (8, 10, 14, [some (.ref 8), some (.int 0)], [.int (I 9 0)], 0, 0, (mSH, I, L))) rfl (by decide) ?_
      refine mB 1 (s2 := (8, 10, 18, [some (.ref 8), some (.int 0)], [.int (I 9 0)], 0, 0, (mSH, I, L))) rfl ?_
      refine mRt (r := (some (.int (I 9 0)))) (h := (mSH, I, L)) rfl (mRet_int rfl) ?_
      show mWP mTb_ mFT ro (9, 106, 16, [some (.ref 0), some (.int 0)], [.int (I 9 0), .ref 6, .ref 10], 0, 0, (mSH, I, L)) _
      refine mCall (s2 := (8, 52, 0, [some (.ref 10), some (.ref 6), some (.int (I 9 0)), none, none, none], [], 0, 0, (mSH, I, L))) rfl ?_
      refine mB 1 (s2 := (8, 52, 1, [some (.ref 10), some (.ref 6), some (.int (I 9 0)), none, none, none], [.ref 10], 0, 0, (mSH, I, L))) rfl ?_
      refine mCall (s2 := (7, 53, 0, [some (.ref 10)], [], 0, 0, (mSH, I, L))) rfl ?_
      refine mB 3 (s2 := (7, 53, 5, [some (.ref 10)], [.int 0, .ref 11], 0, 0, (mSH, I, L))) rfl ?_
      refine mRq (s2 := (7, 53, 6, [some (.ref 10)], [.ref 12], 0, 0, (mSH, I, L))) rfl (by decide) ?_
      refine mB 1 (s2 := (7, 53, 8, [some (.ref 10)], [.int 1000000000, .ref 12], 0, 0, (mSH, I, L))) rfl ?_
      refine mCall (s2 := (6, 162, 0, [some (.ref 12), some (.int 1000000000), none, none], [], 0, 0, (mSH, I, L))) rfl ?_
      refine w_fill_12 ?_
      show mWP mTb_ mFT ro (7, 53, 11, [some (.ref 10)], [], 0, 0, (mSH, (mFl I 12 154 1000000000), L)) _
      refine mB 3 (s2 := (7, 53, 16, [some (.ref 10)], [.int 1, .ref 11], 0, 0, (mSH, (mFl I 12 154 1000000000), L))) rfl ?_
      refine mRq (s2 := (7, 53, 17, [some (.ref 10)], [.ref 13], 0, 0, (mSH, (mFl I 12 154 1000000000), L))) rfl (by decide) ?_
      refine mB 1 (s2 := (7, 53, 19, [some (.ref 10)], [.int 1000000000, .ref 13], 0, 0, (mSH, (mFl I 12 154 1000000000), L))) rfl ?_
      refine mCall (s2 := (6, 162, 0, [some (.ref 13), some (.int 1000000000), none, none], [], 0, 0, (mSH, (mFl I 12 154 1000000000), L))) rfl ?_
      refine w_fill_13 ?_
      show mWP mTb_ mFT ro (7, 53, 22, [some (.ref 10)], [], 0, 0, (mSH, (mFl (mFl I 12 154 1000000000) 13 154 1000000000), L)) _
      refine mB 3 (s2 := (7, 53, 27, [some (.ref 10)], [.int 0, .ref 20], 0, 0, (mSH, (mFl (mFl I 12 154 1000000000) 13 154 1000000000), L))) rfl ?_
      refine mCall (s2 := (6, 162, 0, [some (.ref 20), some (.int 0), none, none], [], 0, 0, (mSH, (mFl (mFl I 12 154 1000000000) 13 154 1000000000), L))) rfl ?_
      refine w_fill_20 ?_
      show mWP mTb_ mFT ro (7, 53, 30, [some (.ref 10)], [], 0, 0, (mSH, (mFl (mFl (mFl I 12 154 1000000000) 13 154 1000000000) 20 154 0), L)) _
      refine mB 3 (s2 := (7, 53, 35, [some (.ref 10)], [.int 0, .ref 21], 0, 0, (mSH, (mFl (mFl (mFl I 12 154 1000000000) 13 154 1000000000) 20 154 0), L))) rfl ?_
      refine mCall (s2 := (6, 162, 0, [some (.ref 21), some (.int 0), none, none], [], 0, 0, (mSH, (mFl (mFl (mFl I 12 154 1000000000) 13 154 1000000000) 20 154 0), L))) rfl ?_
      refine w_fill_21 ?_
      show mWP mTb_ mFT ro (7, 53, 38, [some (.ref 10)], [], 0, 0, (mSH, (mFl (mFl (mFl (mFl I 12 154 1000000000) 13 154 1000000000) 20 154 0) 21 154 0), L)) _
      refine mRt (r := none) (h := (mSH, (mFl (mFl (mFl (mFl I 12 154 1000000000) 13 154 1000000000) 20 154 0) 21 154 0), L)) rfl rfl ?_
      show mWP mTb_ mFT ro (8, 52, 4, [some (.ref 10), some (.ref 6), some (.int (I 9 0)), none, none, none], [], 0, 0, (mSH, (mFl (mFl (mFl (mFl I 12 154 1000000000) 13 154 1000000000) 20 154 0) 21 154 0), L)) _
      refine mB 3 (s2 := (8, 52, 11, [some (.ref 10), some (.ref 6), some (.int (I 9 0)), none, none, none], [.ref 4], 0, 0, (mSH, (mFl (mFl (mFl (mFl I 12 154 1000000000) 13 154 1000000000) 20 154 0) 21 154 0), L))) rfl ?_
      refine mCall (s2 := (7, 39, 0, [some (.ref 4)], [], 0, 0, (mSH, (mFl (mFl (mFl (mFl I 12 154 1000000000) 13 154 1000000000) 20 154 0) 21 154 0), L))) rfl ?_
      refine mB 2 (s2 := (7, 39, 4, [some (.ref 4)], [.int (I 4 1)], 0, 0, (mSH, (mFl (mFl (mFl (mFl I 12 154 1000000000) 13 154 1000000000) 20 154 0) 21 154 0), L))) rfl ?_
      refine mRt (r := (some (.int (I 4 1)))) (h := (mSH, (mFl (mFl (mFl (mFl I 12 154 1000000000) 13 154 1000000000) 20 154 0) 21 154 0), L)) rfl (mRet_int rfl) ?_
      show mWP mTb_ mFT ro (8, 52, 14, [some (.ref 10), some (.ref 6), some (.int (I 9 0)), none, none, none], [.int (I 4 1)], 0, 0, (mSH, (mFl (mFl (mFl (mFl I 12 154 1000000000) 13 154 1000000000) 20 154 0) 21 154 0), L)) _
      refine mB 4 (s2 := (8, 52, 18, [some (.ref 10), some (.ref 6), some (.int (I 9 0)), some (.int ((I 4 1) - 1)), none, none], [.int ((I 4 1) - 1)], 0, 0, (mSH, (mFl (mFl (mFl (mFl I 12 154 1000000000) 13 154 1000000000) 20 154 0) 21 154 0), L))) rfl ?_
      refine mBF (s3 := (8, 52, 21, [some (.ref 10), some (.ref 6), some (.int (I 9 0)), some (.int ((I 4 1) - 1)), none, none], [], 0, 0, (mSH, (mFl (mFl (mFl (mFl I 12 154 1000000000) 13 154 1000000000) 20 154 0) 21 154 0), L))) rfl (by first | (simp only [f0_9, f0_10, f0_11, f1_2, f2_1, f4_1, f6_0, f6_1, f6_2, f6_3, f7_0, f7_1, f7_2, f7_3, f9_0, f9_1, f9_2, f25_0, f25_1, f26_1, f30_1, f32_1, f34_1, f34_3, f34_4, f34_11, f37_0, f37_1, f37_2, f37_3, f38_0, f38_1, f38_2, f39_0, f39_1, f39_2, f41_0, f41_1, f41_2, f41_3, f41_4, f41_5, g34_7, g34_8, hro0, hro1, hro1_0, hro1_1, hro1_2, hro2, hro2_0, hro2_1, hro2_2, hro13, mTn0, mTn1, mTn2, mTn10]; first | decide | rfl) | decide | rfl) ?_
      refine mRt (r := none) (h := (mSH, (mFl (mFl (mFl (mFl I 12 154 1000000000) 13 154 1000000000) 20 154 0) 21 154 0), L)) rfl rfl ?_
      show mWP mTb_ mFT ro (9, 106, 19, [some (.ref 0), some (.int 0)], [], 0, 0, (mSH, (mFl (mFl (mFl (mFl I 12 154 1000000000) 13 154 1000000000) 20 154 0) 21 154 0), L)) _
      refine mB 5 (s2 := (9, 106, 28, [some (.ref 0), some (.int 0)], [.ref 22, .int 0, .ref 10], 0, 0, (mSH, (mFl (mFl (mFl (mFl I 12 154 1000000000) 13 154 1000000000) 20 154 0) 21 154 0), L))) rfl ?_
      refine mCall (s2 := (8, 65, 0, [some (.ref 10), some (.int 0), some (.ref 22), none, none, none, none], [], 0, 0, (mSH, (mFl (mFl (mFl (mFl I 12 154 1000000000) 13 154 1000000000) 20 154 0) 21 154 0), L))) rfl ?_
      refine mB 1 (s2 := (8, 65, 1, [some (.ref 10), some (.int 0), some (.ref 22), none, none, none, none], [.int 0], 0, 0, (mSH, (mFl (mFl (mFl (mFl I 12 154 1000000000) 13 154 1000000000) 20 154 0) 21 154 0), L))) rfl ?_
      refine mBT (s2 := (8, 65, 4, [some (.ref 10), some (.int 0), some (.ref 22), none, none, none, none], [], 0, 0, (mSH, (mFl (mFl (mFl (mFl I 12 154 1000000000) 13 154 1000000000) 20 154 0) 21 154 0), L))) rfl (by decide) ?_
      refine mB 6 (s2 := (8, 65, 15, [some (.ref 10), some (.int 0), some (.ref 22), some (.int 0), none, none, none], [.int 0, .ref 11], 0, 0, (mSH, (mFl (mFl (mFl (mFl I 12 154 1000000000) 13 154 1000000000) 20 154 0) 21 154 0), L))) rfl ?_
      refine mRq (s2 := (8, 65, 16, [some (.ref 10), some (.int 0), some (.ref 22), some (.int 0), none, none, none], [.ref 12], 0, 0, (mSH, (mFl (mFl (mFl (mFl I 12 154 1000000000) 13 154 1000000000) 20 154 0) 21 154 0), L))) rfl (by decide) ?_
      refine mB 1 (s2 := (8, 65, 19, [some (.ref 10), some (.int 0), some (.ref 22), some (.int 0), none, none, none], [.int 153, .ref 12], 0, 0, (mSH, (mFl (mFl (mFl (mFl I 12 154 1000000000) 13 154 1000000000) 20 154 0) 21 154 0), L))) rfl ?_
      refine mRq (s2 := (8, 65, 20, [some (.ref 10), some (.int 0), some (.ref 22), some (.int 0), none, none, none], [.int 1000000000], 0, 0, (mSH, (mFl (mFl (mFl (mFl I 12 154 1000000000) 13 154 1000000000) 20 154 0) 21 154 0), L))) rfl (by decide) ?_
      refine mB 1 (s2 := (8, 65, 22, [some (.ref 10), some (.int 0), some (.ref 22), some (.int 0), none, none, none], [.int 1000000000, .int 1000000000], 0, 0, (mSH, (mFl (mFl (mFl (mFl I 12 154 1000000000) 13 154 1000000000) 20 154 0) 21 154 0), L))) rfl ?_
      refine mBT (s2 := (8, 65, 25, [some (.ref 10), some (.int 0), some (.ref 22), some (.int 0), none, none, none], [], 0, 0, (mSH, (mFl (mFl (mFl (mFl I 12 154 1000000000) 13 154 1000000000) 20 154 0) 21 154 0), L))) rfl (by decide) ?_
      refine mB 1 (s2 := (8, 65, 26, [some (.ref 10), some (.int 0), some (.ref 22), some (.int 0), none, none, none], [.int 0], 0, 0, (mSH, (mFl (mFl (mFl (mFl I 12 154 1000000000) 13 154 1000000000) 20 154 0) 21 154 0), L))) rfl ?_
      refine mRt (r := (some (.int 0))) (h := (mSH, (mFl (mFl (mFl (mFl I 12 154 1000000000) 13 154 1000000000) 20 154 0) 21 154 0), L)) rfl rfl ?_
      show mWP mTb_ mFT ro (9, 106, 31, [some (.ref 0), some (.int 0)], [.int 0], 0, 0, (mSH, (mFl (mFl (mFl (mFl I 12 154 1000000000) 13 154 1000000000) 20 154 0) 21 154 0), L)) _
      refine mRt (r := (some (.int 0))) (h := (mSH, (mFl (mFl (mFl (mFl I 12 154 1000000000) 13 154 1000000000) 20 154 0) 21 154 0), L)) rfl rfl ?_
      show mWP mTb_ mFT ro (10, 93, 30, [some (.ref 0), some (.int ((ro 0).2 1))], [.int 0], 0, 0, (mSH, (mFl (mFl (mFl (mFl I 12 154 1000000000) 13 154 1000000000) 20 154 0) 21 154 0), L)) _
      refine mBT (s2 := (10, 93, 33, [some (.ref 0), some (.int ((ro 0).2 1))], [], 0, 0, (mSH, (mFl (mFl (mFl (mFl I 12 154 1000000000) 13 154 1000000000) 20 154 0) 21 154 0), L))) rfl (by decide) ?_
      refine mB 2 (s2 := (10, 93, 36, [some (.ref 0), some (.int ((ro 0).2 1))], [.int (-3), .ref 0], 0, 0, (mSH, (mFl (mFl (mFl (mFl I 12 154 1000000000) 13 154 1000000000) 20 154 0) 21 154 0), L))) rfl ?_
      refine mCall (s2 := (9, 103, 0, [some (.ref 0), some (.int (-3))], [], 0, 0, (mSH, (mFl (mFl (mFl (mFl I 12 154 1000000000) 13 154 1000000000) 20 154 0) 21 154 0), L))) rfl ?_
      refine mB 2 (s2 := (9, 103, 3, [some (.ref 0), some (.int (-3))], [.int (-2), .int (-3)], 0, 0, (mSH, (mFl (mFl (mFl (mFl I 12 154 1000000000) 13 154 1000000000) 20 154 0) 21 154 0), L))) rfl ?_
      refine mBF (s3 := (9, 103, 19, [some (.ref 0), some (.int (-3))], [], 0, 0, (mSH, (mFl (mFl (mFl (mFl I 12 154 1000000000) 13 154 1000000000) 20 154 0) 21 154 0), L))) rfl (by decide) ?_
      refine mB 2 (s2 := (9, 103, 22, [some (.ref 0), some (.int (-3))], [.int (-3), .int (-3)], 0, 0, (mSH, (mFl (mFl (mFl (mFl I 12 154 1000000000) 13 154 1000000000) 20 154 0) 21 154 0), L))) rfl ?_
      refine mBT (s2 := (9, 103, 25, [some (.ref 0), some (.int (-3))], [], 0, 0, (mSH, (mFl (mFl (mFl (mFl I 12 154 1000000000) 13 154 1000000000) 20 154 0) 21 154 0), L))) rfl (by decide) ?_
      refine mB 8 (s2 := (9, 103, 49, [some (.ref 0), some (.int (-3))], [.int (-3)], 0, 0, (mSH, (mUp (mFl (mFl (mFl (mFl I 12 154 1000000000) 13 154 1000000000) 20 154 0) 21 154 0) 0 10 ((I 0 10) + 1)), L))) rfl ?_
      refine mRt (r := (some (.int (-3)))) (h := (mSH, (mUp (mFl (mFl (mFl (mFl I 12 154 1000000000) 13 154 1000000000) 20 154 0) 21 154 0) 0 10 ((I 0 10) + 1)), L)) rfl (mRet_int rfl) ?_
      show mWP mTb_ mFT ro (10, 93, 39, [some (.ref 0), some (.int ((ro 0).2 1))], [.int (-3)], 0, 0, (mSH, (mUp (mFl (mFl (mFl (mFl I 12 154 1000000000) 13 154 1000000000) 20 154 0) 21 154 0) 0 10 ((I 0 10) + 1)), L)) _
      refine mRt (r := (some (.int (-3)))) (h := (mSH, (mUp (mFl (mFl (mFl (mFl I 12 154 1000000000) 13 154 1000000000) 20 154 0) 21 154 0) 0 10 ((I 0 10) + 1)), L)) rfl (mRet_int rfl) ?_
      show mWP mTb_ mFT ro (11, 163, 616, [some (.ref 1000), some (.ref 0), some (.ref 34), some (.int 0)], [.int (-3)], 62, 3336, (mSH, (mUp (mFl (mFl (mFl (mFl I 12 154 1000000000) 13 154 1000000000) 20 154 0) 21 154 0) 0 10 ((I 0 10) + 1)), L)) _
      refine mB 5 (s2 := (11, 163, 621, [some (.ref 1000), some (.ref 0), some (.ref 34), some (.int 0)], [.int 1, .ref 1000, .ref 34, .int (-3)], 62, 3336, (mSH, (mUp (mFl (mFl (mFl (mFl I 12 154 1000000000) 13 154 1000000000) 20 154 0) 21 154 0) 0 10 ((I 0 10) + 1)), L))) rfl ?_
      refine mRq (s2 := (11, 163, 622, [some (.ref 1000), some (.ref 0), some (.ref 34), some (.int 0)], [.int ((ro 0).2 1), .ref 34, .int (-3)], 62, 3336, (mSH, (mUp (mFl (mFl (mFl (mFl I 12 154 1000000000) 13 154 1000000000) 20 154 0) 21 154 0) 0 10 ((I 0 10) + 1)), L))) rfl (by first | (simp only [f0_9, f0_10, f0_11, f1_2, f2_1, f4_1, f6_0, f6_1, f6_2, f6_3, f7_0, f7_1, f7_2, f7_3, f9_0, f9_1, f9_2, f25_0, f25_1, f26_1, f30_1, f32_1, f34_1, f34_3, f34_4, f34_11, f37_0, f37_1, f37_2, f37_3, f38_0, f38_1, f38_2, f39_0, f39_1, f39_2, f41_0, f41_1, f41_2, f41_3, f41_4, f41_5, g34_7, g34_8, hro0, hro1, hro1_0, hro1_1, hro1_2, hro2, hro2_0, hro2_1, hro2_2, hro13, mTn0, mTn1, mTn2, mTn10]; first | decide | rfl) | decide | rfl) ?_
      refine mCall (s2 := (10, 143, 0, [some (.ref 34), some (.int ((ro 0).2 1)), none, none, none, none, none], [], 0, 0, (mSH, (mUp (mFl (mFl (mFl (mFl I 12 154 1000000000) 13 154 1000000000) 20 154 0) 21 154 0) 0 10 ((I 0 10) + 1)), L))) rfl ?_
      refine mB 3 (s2 := (10, 143, 3, [some (.ref 34), some (.int ((ro 0).2 1)), none, none, none, none, none], [.ref 34, .int 0, .int ((ro 0).2 1)], 0, 0, (mSH, (mUp (mFl (mFl (mFl (mFl I 12 154 1000000000) 13 154 1000000000) 20 154 0) 21 154 0) 0 10 ((I 0 10) + 1)), L))) rfl ?_
      refine mCall (s2 := (9, 142, 0, [some (.ref 34), none, none], [], 0, 0, (mSH, (mUp (mFl (mFl (mFl (mFl I 12 154 1000000000) 13 154 1000000000) 20 154 0) 21 154 0) 0 10 ((I 0 10) + 1)), L))) rfl ?_
      refine mB 7 (s2 := (9, 142, 9, [some (.ref 34), some (.int 0), some (.int 0)], [.int (I 34 3), .int 0], 0, 0, (mSH, (mUp (mFl (mFl (mFl (mFl I 12 154 1000000000) 13 154 1000000000) 20 154 0) 21 154 0) 0 10 ((I 0 10) + 1)), L))) rfl ?_
      refine mBT (s2 := (9, 142, 27, [some (.ref 34), some (.int 0), some (.int 0)], [], 0, 0, (mSH, (mUp (mFl (mFl (mFl (mFl I 12 154 1000000000) 13 154 1000000000) 20 154 0) 21 154 0) 0 10 ((I 0 10) + 1)), L))) rfl (by first | (simp only [f0_9, f0_10, f0_11, f1_2, f2_1, f4_1, f6_0, f6_1, f6_2, f6_3, f7_0, f7_1, f7_2, f7_3, f9_0, f9_1, f9_2, f25_0, f25_1, f26_1, f30_1, f32_1, f34_1, f34_3, f34_4, f34_11, f37_0, f37_1, f37_2, f37_3, f38_0, f38_1, f38_2, f39_0, f39_1, f39_2, f41_0, f41_1, f41_2, f41_3, f41_4, f41_5, g34_7, g34_8, hro0, hro1, hro1_0, hro1_1, hro1_2, hro2, hro2_0, hro2_1, hro2_2, hro13, mTn0, mTn1, mTn2, mTn10]; first | decide | rfl) | decide | rfl) ?_
      refine mB 1 (s2 := (9, 142, 28, [some (.ref 34), some (.int 0), some (.int 0)], [.int 0], 0, 0, (mSH, (mUp (mFl (mFl (mFl (mFl I 12 154 1000000000) 13 154 1000000000) 20 154 0) 21 154 0) 0 10 ((I 0 10) + 1)), L))) rfl ?_
      refine mRt (r := (some (.int 0))) (h := (mSH, (mUp (mFl (mFl (mFl (mFl I 12 154 1000000000) 13 154 1000000000) 20 154 0) 21 154 0) 0 10 ((I 0 10) + 1)), L)) rfl (mRet_int rfl) ?_
      show mWP mTb_ mFT ro (10, 143, 6, [some (.ref 34), some (.int ((ro 0).2 1)), none, none, none, none, none], [.int 0, .int 0, .int ((ro 0).2 1)], 0, 0, (mSH, (mUp (mFl (mFl (mFl (mFl I 12 154 1000000000) 13 154 1000000000) 20 154 0) 21 154 0) 0 10 ((I 0 10) + 1)), L)) _
      refine mCall (s2 := (9, 112, 0, [some (.int ((ro 0).2 1)), some (.int 0), some (.int 0)], [], 0, 0, (mSH, (mUp (mFl (mFl (mFl (mFl I 12 154 1000000000) 13 154 1000000000) 20 154 0) 21 154 0) 0 10 ((I 0 10) + 1)), L))) rfl ?_
      refine mB 2 (s2 := (9, 112, 2, [some (.int ((ro 0).2 1)), some (.int 0), some (.int 0)], [.int 0, .int ((ro 0).2 1)], 0, 0, (mSH, (mUp (mFl (mFl (mFl (mFl I 12 154 1000000000) 13 154 1000000000) 20 154 0) 21 154 0) 0 10 ((I 0 10) + 1)), L))) rfl ?_
      refine mBF (s3 := (9, 112, 5, [some (.int ((ro 0).2 1)), some (.int 0), some (.int 0)], [], 0, 0, (mSH, (mUp (mFl (mFl (mFl (mFl I 12 154 1000000000) 13 154 1000000000) 20 154 0) 21 154 0) 0 10 ((I 0 10) + 1)), L))) rfl (decide_eq_false (by
        have a0 := of_decide_eq_false c0
        have a1 := of_decide_eq_true c1
        simp only [f0_9, f0_10, f0_11, f1_2, f2_1, f4_1, f6_0, f6_1, f6_2, f6_3, f7_0, f7_1, f7_2, f7_3, f9_0, f9_1, f9_2, f25_0, f25_1, f26_1, f30_1, f32_1, f34_1, f34_3, f34_4, f34_11, f37_0, f37_1, f37_2, f37_3, f38_0, f38_1, f38_2, f39_0, f39_1, f39_2, f41_0, f41_1, f41_2, f41_3, f41_4, f41_5, g34_7, g34_8, hro0, hro1, hro1_0, hro1_1, hro1_2, hro2, hro2_0, hro2_1, hro2_2, hro13, mTn0, mTn1, mTn2, mTn10, Int32.lt_iff_toInt_lt, Int32.le_iff_toInt_le, ← Int32.toInt_inj, mLi0, mLi1, mLi2, mLi3, mLi4, mLi5, mLi6, mLi7, mLi8, mLi9, mLi16, mLi99, mLi120, mLi127, mLi1584, mLi999999, mLim] at a0 a1 ⊢
        omega)) ?_
      refine mB 2 (s2 := (9, 112, 7, [some (.int ((ro 0).2 1)), some (.int 0), some (.int 0)], [.int 0, .int ((ro 0).2 1)], 0, 0, (mSH, (mUp (mFl (mFl (mFl (mFl I 12 154 1000000000) 13 154 1000000000) 20 154 0) 21 154 0) 0 10 ((I 0 10) + 1)), L))) rfl ?_
      refine mBF (s3 := (9, 112, 10, [some (.int ((ro 0).2 1)), some (.int 0), some (.int 0)], [], 0, 0, (mSH, (mUp (mFl (mFl (mFl (mFl I 12 154 1000000000) 13 154 1000000000) 20 154 0) 21 154 0) 0 10 ((I 0 10) + 1)), L))) rfl (decide_eq_false (by
        have a0 := of_decide_eq_false c0
        have a1 := of_decide_eq_true c1
        simp only [f0_9, f0_10, f0_11, f1_2, f2_1, f4_1, f6_0, f6_1, f6_2, f6_3, f7_0, f7_1, f7_2, f7_3, f9_0, f9_1, f9_2, f25_0, f25_1, f26_1, f30_1, f32_1, f34_1, f34_3, f34_4, f34_11, f37_0, f37_1, f37_2, f37_3, f38_0, f38_1, f38_2, f39_0, f39_1, f39_2, f41_0, f41_1, f41_2, f41_3, f41_4, f41_5, g34_7, g34_8, hro0, hro1, hro1_0, hro1_1, hro1_2, hro2, hro2_0, hro2_1, hro2_2, hro13, mTn0, mTn1, mTn2, mTn10, Int32.lt_iff_toInt_lt, Int32.le_iff_toInt_le, ← Int32.toInt_inj, mLi0, mLi1, mLi2, mLi3, mLi4, mLi5, mLi6, mLi7, mLi8, mLi9, mLi16, mLi99, mLi120, mLi127, mLi1584, mLi999999, mLim] at a0 a1 ⊢
        omega)) ?_
      refine mB 2 (s2 := (9, 112, 15, [some (.int ((ro 0).2 1)), some (.int 0), some (.int 0)], [.int 1], 0, 0, (mSH, (mUp (mFl (mFl (mFl (mFl I 12 154 1000000000) 13 154 1000000000) 20 154 0) 21 154 0) 0 10 ((I 0 10) + 1)), L))) rfl ?_
      refine mRt (r := (some (.int 1))) (h := (mSH, (mUp (mFl (mFl (mFl (mFl I 12 154 1000000000) 13 154 1000000000) 20 154 0) 21 154 0) 0 10 ((I 0 10) + 1)), L)) rfl rfl ?_
      show mWP mTb_ mFT ro (10, 143, 9, [some (.ref 34), some (.int ((ro 0).2 1)), none, none, none, none, none], [.int 1], 0, 0, (mSH, (mUp (mFl (mFl (mFl (mFl I 12 154 1000000000) 13 154 1000000000) 20 154 0) 21 154 0) 0 10 ((I 0 10) + 1)), L)) _
      refine mBF (s3 := (10, 143, 19, [some (.ref 34), some (.int ((ro 0).2 1)), none, none, none, none, none], [], 0, 0, (mSH, (mUp (mFl (mFl (mFl (mFl I 12 154 1000000000) 13 154 1000000000) 20 154 0) 21 154 0) 0 10 ((I 0 10) + 1)), L))) rfl (by decide) ?_
      refine mB 1 (s2 := (10, 143, 20, [some (.ref 34), some (.int ((ro 0).2 1)), none, none, none, none, none], [.ref 34], 0, 0, (mSH, (mUp (mFl (mFl (mFl (mFl I 12 154 1000000000) 13 154 1000000000) 20 154 0) 21 154 0) 0 10 ((I 0 10) + 1)), L))) rfl ?_
      refine mCall (s2 := (9, 132, 0, [some (.ref 34)], [], 0, 0, (mSH, (mUp (mFl (mFl (mFl (mFl I 12 154 1000000000) 13 154 1000000000) 20 154 0) 21 154 0) 0 10 ((I 0 10) + 1)), L))) rfl ?_
      refine mB 4 (s2 := (9, 132, 6, [some (.ref 34)], [.int 0, .ref 38, .ref 34], 0, 0, (mSH, (mUp (mFl (mFl (mFl (mFl I 12 154 1000000000) 13 154 1000000000) 20 154 0) 21 154 0) 0 10 ((I 0 10) + 1)), L))) rfl ?_
      refine mRq (s2 := (9, 132, 7, [some (.ref 34)], [.int (I 38 0), .ref 34], 0, 0, (mSH, (mUp (mFl (mFl (mFl (mFl I 12 154 1000000000) 13 154 1000000000) 20 154 0) 21 154 0) 0 10 ((I 0 10) + 1)), L))) rfl (by decide) ?_
      refine mB 1 (s2 := (9, 132, 8, [some (.ref 34)], [.int 0, .int (I 38 0), .ref 34], 0, 0, (mSH, (mUp (mFl (mFl (mFl (mFl I 12 154 1000000000) 13 154 1000000000) 20 154 0) 21 154 0) 0 10 ((I 0 10) + 1)), L))) rfl ?_
      refine mCall (s2 := (8, 131, 0, [some (.ref 34), some (.int (I 38 0)), some (.int 0), none], [], 0, 0, (mSH, (mUp (mFl (mFl (mFl (mFl I 12 154 1000000000) 13 154 1000000000) 20 154 0) 21 154 0) 0 10 ((I 0 10) + 1)), L))) rfl ?_
      refine mB 1 (s2 := (8, 131, 1, [some (.ref 34), some (.int (I 38 0)), some (.int 0), none], [.ref 34], 0, 0, (mSH, (mUp (mFl (mFl (mFl (mFl I 12 154 1000000000) 13 154 1000000000) 20 154 0) 21 154 0) 0 10 ((I 0 10) + 1)), L))) rfl ?_
      refine mCall (s2 := (7, 130, 0, [some (.ref 34)], [], 0, 0, (mSH, (mUp (mFl (mFl (mFl (mFl I 12 154 1000000000) 13 154 1000000000) 20 154 0) 21 154 0) 0 10 ((I 0 10) + 1)), L))) rfl ?_
      refine mB 13 (s2 := (7, 130, 21, [some (.ref 34)], [.int (-1), .int 0, .ref 46], 0, 0, (mSH, (mUp (mUp (mUp (mUp (mFl (mFl (mFl (mFl I 12 154 1000000000) 13 154 1000000000) 20 154 0) 21 154 0) 0 10 ((I 0 10) + 1)) 34 20 0) 34 21 0) 34 22 0), L))) rfl ?_
      refine mRq (s2 := (7, 130, 22, [some (.ref 34)], [], 0, 0, (mSH, (mUp (mUp (mUp (mUp (mUp (mFl (mFl (mFl (mFl I 12 154 1000000000) 13 154 1000000000) 20 154 0) 21 154 0) 0 10 ((I 0 10) + 1)) 34 20 0) 34 21 0) 34 22 0) 46 0 (-1)), L))) rfl (by decide) ?_
      refine mB 4 (s2 := (7, 130, 29, [some (.ref 34)], [.int (-1), .int 10, .ref 46], 0, 0, (mSH, (mUp (mUp (mUp (mUp (mUp (mFl (mFl (mFl (mFl I 12 154 1000000000) 13 154 1000000000) 20 154 0) 21 154 0) 0 10 ((I 0 10) + 1)) 34 20 0) 34 21 0) 34 22 0) 46 0 (-1)), L))) rfl ?_
      refine mRq (s2 := (7, 130, 30, [some (.ref 34)], [], 0, 0, (mSH, (mUp (mUp (mUp (mUp (mUp (mUp (mFl (mFl (mFl (mFl I 12 154 1000000000) 13 154 1000000000) 20 154 0) 21 154 0) 0 10 ((I 0 10) + 1)) 34 20 0) 34 21 0) 34 22 0) 46 0 (-1)) 46 10 (-1)), L))) rfl (by decide) ?_
      refine mRt (r := none) (h := (mSH, (mUp (mUp (mUp (mUp (mUp (mUp (mFl (mFl (mFl (mFl I 12 154 1000000000) 13 154 1000000000) 20 154 0) 21 154 0) 0 10 ((I 0 10) + 1)) 34 20 0) 34 21 0) 34 22 0) 46 0 (-1)) 46 10 (-1)), L)) rfl rfl ?_
      show mWP mTb_ mFT ro (8, 131, 4, [some (.ref 34), some (.int (I 38 0)), some (.int 0), none], [], 0, 0, (mSH, (mUp (mUp (mUp (mUp (mUp (mUp (mFl (mFl (mFl (mFl I 12 154 1000000000) 13 154 1000000000) 20 154 0) 21 154 0) 0 10 ((I 0 10) + 1)) 34 20 0) 34 21 0) 34 22 0) 46 0 (-1)) 46 10 (-1)), L)) _
      refine mB 5 (s2 := (8, 131, 11, [some (.ref 34), some (.int (I 38 0)), some (.int 0), some (.int 0)], [.int (I 34 1), .int 0], 0, 0, (mSH, (mUp (mUp (mUp (mUp (mUp (mUp (mFl (mFl (mFl (mFl I 12 154 1000000000) 13 154 1000000000) 20 154 0) 21 154 0) 0 10 ((I 0 10) + 1)) 34 20 0) 34 21 0) 34 22 0) 46 0 (-1)) 46 10 (-1)), L))) rfl ?_
      refine mBT (s2 := (8, 131, 34, [some (.ref 34), some (.int (I 38 0)), some (.int 0), some (.int 0)], [], 0, 0, (mSH, (mUp (mUp (mUp (mUp (mUp (mUp (mFl (mFl (mFl (mFl I 12 154 1000000000) 13 154 1000000000) 20 154 0) 21 154 0) 0 10 ((I 0 10) + 1)) 34 20 0) 34 21 0) 34 22 0) 46 0 (-1)) 46 10 (-1)), L))) rfl (by first | (simp only [f0_9, f0_10, f0_11, f1_2, f2_1, f4_1, f6_0, f6_1, f6_2, f6_3, f7_0, f7_1, f7_2, f7_3, f9_0, f9_1, f9_2, f25_0, f25_1, f26_1, f30_1, f32_1, f34_1, f34_3, f34_4, f34_11, f37_0, f37_1, f37_2, f37_3, f38_0, f38_1, f38_2, f39_0, f39_1, f39_2, f41_0, f41_1, f41_2, f41_3, f41_4, f41_5, g34_7, g34_8, hro0, hro1, hro1_0, hro1_1, hro1_2, hro2, hro2_0, hro2_1, hro2_2, hro13, mTn0, mTn1, mTn2, mTn10]; first | decide | rfl) | decide | rfl) ?_
      refine mB 2 (s2 := (8, 131, 38, [some (.ref 34), some (.int (I 38 0)), some (.int 0), some (.int 0)], [.int 0], 0, 0, (mSH, (mUp (mUp (mUp (mUp (mUp (mUp (mFl (mFl (mFl (mFl I 12 154 1000000000) 13 154 1000000000) 20 154 0) 21 154 0) 0 10 ((I 0 10) + 1)) 34 20 0) 34 21 0) 34 22 0) 46 0 (-1)) 46 10 (-1)), L))) rfl ?_
      refine mBT (s2 := (8, 131, 45, [some (.ref 34), some (.int (I 38 0)), some (.int 0), some (.int 0)], [], 0, 0, (mSH, (mUp (mUp (mUp (mUp (mUp (mUp (mFl (mFl (mFl (mFl I 12 154 1000000000) 13 154 1000000000) 20 154 0) 21 154 0) 0 10 ((I 0 10) + 1)) 34 20 0) 34 21 0) 34 22 0) 46 0 (-1)) 46 10 (-1)), L))) rfl (by decide) ?_
      refine mB 1 (s2 := (8, 131, 46, [some (.ref 34), some (.int (I 38 0)), some (.int 0), some (.int 0)], [.int 0], 0, 0, (mSH, (mUp (mUp (mUp (mUp (mUp (mUp (mFl (mFl (mFl (mFl I 12 154 1000000000) 13 154 1000000000) 20 154 0) 21 154 0) 0 10 ((I 0 10) + 1)) 34 20 0) 34 21 0) 34 22 0) 46 0 (-1)) 46 10 (-1)), L))) rfl ?_
      refine mRt (r := (some (.int 0))) (h := (mSH, (mUp (mUp (mUp (mUp (mUp (mUp (mFl (mFl (mFl (mFl I 12 154 1000000000) 13 154 1000000000) 20 154 0) 21 154 0) 0 10 ((I 0 10) + 1)) 34 20 0) 34 21 0) 34 22 0) 46 0 (-1)) 46 10 (-1)), L)) rfl rfl ?_
      show mWP mTb_ mFT ro (9, 132, 11, [some (.ref 34)], [.int 0], 0, 0, (mSH, (mUp (mUp (mUp (mUp (mUp (mUp (mFl (mFl (mFl (mFl I 12 154 1000000000) 13 154 1000000000) 20 154 0) 21 154 0) 0 10 ((I 0 10) + 1)) 34 20 0) 34 21 0) 34 22 0) 46 0 (-1)) 46 10 (-1)), L)) _
      refine mRt (r := (some (.int 0))) (h := (mSH, (mUp (mUp (mUp (mUp (mUp (mUp (mFl (mFl (mFl (mFl I 12 154 1000000000) 13 154 1000000000) 20 154 0) 21 154 0) 0 10 ((I 0 10) + 1)) 34 20 0) 34 21 0) 34 22 0) 46 0 (-1)) 46 10 (-1)), L)) rfl rfl ?_
      show mWP mTb_ mFT ro (10, 143, 23, [some (.ref 34), some (.int ((ro 0).2 1)), none, none, none, none, none], [.int 0], 0, 0, (mSH, (mUp (mUp (mUp (mUp (mUp (mUp (mFl (mFl (mFl (mFl I 12 154 1000000000) 13 154 1000000000) 20 154 0) 21 154 0) 0 10 ((I 0 10) + 1)) 34 20 0) 34 21 0) 34 22 0) 46 0 (-1)) 46 10 (-1)), L)) _
      refine mBT (s2 := (10, 143, 26, [some (.ref 34), some (.int ((ro 0).2 1)), none, none, none, none, none], [], 0, 0, (mSH, (mUp (mUp (mUp (mUp (mUp (mUp (mFl (mFl (mFl (mFl I 12 154 1000000000) 13 154 1000000000) 20 154 0) 21 154 0) 0 10 ((I 0 10) + 1)) 34 20 0) 34 21 0) 34 22 0) 46 0 (-1)) 46 10 (-1)), L))) rfl (by decide) ?_
      refine mB 2 (s2 := (10, 143, 29, [some (.ref 34), some (.int ((ro 0).2 1)), none, none, none, none, none], [.int (-3), .ref 34], 0, 0, (mSH, (mUp (mUp (mUp (mUp (mUp (mUp (mFl (mFl (mFl (mFl I 12 154 1000000000) 13 154 1000000000) 20 154 0) 21 154 0) 0 10 ((I 0 10) + 1)) 34 20 0) 34 21 0) 34 22 0) 46 0 (-1)) 46 10 (-1)), L))) rfl ?_
      refine mCall (s2 := (9, 113, 0, [some (.ref 34), some (.int (-3))], [], 0, 0, (mSH, (mUp (mUp (mUp (mUp (mUp (mUp (mFl (mFl (mFl (mFl I 12 154 1000000000) 13 154 1000000000) 20 154 0) 21 154 0) 0 10 ((I 0 10) + 1)) 34 20 0) 34 21 0) 34 22 0) 46 0 (-1)) 46 10 (-1)), L))) rfl ?_
      refine mB 6 (s2 := (9, 113, 9, [some (.ref 34), some (.int (-3))], [.int 1, .ref 39, .int 1, .ref 39], 0, 0, (mSH, (mUp (mUp (mUp (mUp (mUp (mUp (mFl (mFl (mFl (mFl I 12 154 1000000000) 13 154 1000000000) 20 154 0) 21 154 0) 0 10 ((I 0 10) + 1)) 34 20 0) 34 21 0) 34 22 0) 46 0 (-1)) 46 10 (-1)), L))) rfl ?_
      refine mRq (s2 := (9, 113, 10, [some (.ref 34), some (.int (-3))], [.int (I 39 1), .int 1, .ref 39], 0, 0, (mSH, (mUp (mUp (mUp (mUp (mUp (mUp (mFl (mFl (mFl (mFl I 12 154 1000000000) 13 154 1000000000) 20 154 0) 21 154 0) 0 10 ((I 0 10) + 1)) 34 20 0) 34 21 0) 34 22 0) 46 0 (-1)) 46 10 (-1)), L))) rfl (by decide) ?_
      refine mB 2 (s2 := (9, 113, 12, [some (.ref 34), some (.int (-3))], [.int ((I 39 1) + 1), .int 1, .ref 39], 0, 0, (mSH, (mUp (mUp (mUp (mUp (mUp (mUp (mFl (mFl (mFl (mFl I 12 154 1000000000) 13 154 1000000000) 20 154 0) 21 154 0) 0 10 ((I 0 10) + 1)) 34 20 0) 34 21 0) 34 22 0) 46 0 (-1)) 46 10 (-1)), L))) rfl ?_
      refine mRq (s2 := (9, 113, 13, [some (.ref 34), some (.int (-3))], [], 0, 0, (mSH, (mUp (mUp (mUp (mUp (mUp (mUp (mUp (mFl (mFl (mFl (mFl I 12 154 1000000000) 13 154 1000000000) 20 154 0) 21 154 0) 0 10 ((I 0 10) + 1)) 34 20 0) 34 21 0) 34 22 0) 46 0 (-1)) 46 10 (-1)) 39 1 ((I 39 1) + 1)), L))) rfl (by decide) ?_
      refine mB 1 (s2 := (9, 113, 14, [some (.ref 34), some (.int (-3))], [.int (-3)], 0, 0, (mSH, (mUp (mUp (mUp (mUp (mUp (mUp (mUp (mFl (mFl (mFl (mFl I 12 154 1000000000) 13 154 1000000000) 20 154 0) 21 154 0) 0 10 ((I 0 10) + 1)) 34 20 0) 34 21 0) 34 22 0) 46 0 (-1)) 46 10 (-1)) 39 1 ((I 39 1) + 1)), L))) rfl ?_
      refine mRt (r := (some (.int (-3)))) (h := (mSH, (mUp (mUp (mUp (mUp (mUp (mUp (mUp (mFl (mFl (mFl (mFl I 12 154 1000000000) 13 154 1000000000) 20 154 0) 21 154 0) 0 10 ((I 0 10) + 1)) 34 20 0) 34 21 0) 34 22 0) 46 0 (-1)) 46 10 (-1)) 39 1 ((I 39 1) + 1)), L)) rfl (mRet_int rfl) ?_
      show mWP mTb_ mFT ro (10, 143, 32, [some (.ref 34), some (.int ((ro 0).2 1)), none, none, none, none, none], [.int (-3)], 0, 0, (mSH, (mUp (mUp (mUp (mUp (mUp (mUp (mUp (mFl (mFl (mFl (mFl I 12 154 1000000000) 13 154 1000000000) 20 154 0) 21 154 0) 0 10 ((I 0 10) + 1)) 34 20 0) 34 21 0) 34 22 0) 46 0 (-1)) 46 10 (-1)) 39 1 ((I 39 1) + 1)), L)) _
      refine mRt (r := (some (.int (-3)))) (h := (mSH, (mUp (mUp (mUp (mUp (mUp (mUp (mUp (mFl (mFl (mFl (mFl I 12 154 1000000000) 13 154 1000000000) 20 154 0) 21 154 0) 0 10 ((I 0 10) + 1)) 34 20 0) 34 21 0) 34 22 0) 46 0 (-1)) 46 10 (-1)) 39 1 ((I 39 1) + 1)), L)) rfl (mRet_int rfl) ?_
      show mWP mTb_ mFT ro (11, 163, 625, [some (.ref 1000), some (.ref 0), some (.ref 34), some (.int 0)], [.int (-3), .int (-3)], 62, 3336, (mSH, (mUp (mUp (mUp (mUp (mUp (mUp (mUp (mFl (mFl (mFl (mFl I 12 154 1000000000) 13 154 1000000000) 20 154 0) 21 154 0) 0 10 ((I 0 10) + 1)) 34 20 0) 34 21 0) 34 22 0) 46 0 (-1)) 46 10 (-1)) 39 1 ((I 39 1) + 1)), L)) _
      refine mBT (s2 := (11, 163, 808, [some (.ref 1000), some (.ref 0), some (.ref 34), some (.int 0)], [], 62, 3336, (mSH, (mUp (mUp (mUp (mUp (mUp (mUp (mUp (mFl (mFl (mFl (mFl I 12 154 1000000000) 13 154 1000000000) 20 154 0) 21 154 0) 0 10 ((I 0 10) + 1)) 34 20 0) 34 21 0) 34 22 0) 46 0 (-1)) 46 10 (-1)) 39 1 ((I 39 1) + 1)), L))) rfl (by decide) ?_
      exact h2 (of_decide_eq_false c0) (of_decide_eq_true c1)
    · refine mB 2 (s2 := (10, 93, 21, [some (.ref 0), some (.int ((ro 0).2 1))], [.int (-2), .ref 0], 0, 0, (mSH, I, L))) rfl ?_
      refine mCall (s2 := (9, 103, 0, [some (.ref 0), some (.int (-2))], [], 0, 0, (mSH, I, L))) rfl ?_
      refine mB 2 (s2 := (9, 103, 3, [some (.ref 0), some (.int (-2))], [.int (-2), .int (-2)], 0, 0, (mSH, I, L))) rfl ?_
      refine mBT (s2 := (9, 103, 6, [some (.ref 0), some (.int (-2))], [], 0, 0, (mSH, I, L))) rfl (by decide) ?_
      refine mB 8 (s2 := (9, 103, 49, [some (.ref 0), some (.int (-2))], [.int (-2)], 0, 0, (mSH, (mUp I 0 9 ((I 0 9) + 1)), L))) rfl ?_
      refine mRt (r := (some (.int (-2)))) (h := (mSH, (mUp I 0 9 ((I 0 9) + 1)), L)) rfl (mRet_int rfl) ?_
      show mWP mTb_ mFT ro (10, 93, 24, [some (.ref 0), some (.int ((ro 0).2 1))], [.int (-2)], 0, 0, (mSH, (mUp I 0 9 ((I 0 9) + 1)), L)) _
      refine mRt (r := (some (.int (-2)))) (h := (mSH, (mUp I 0 9 ((I 0 9) + 1)), L)) rfl (mRet_int rfl) ?_
      show mWP mTb_ mFT ro (11, 163, 616, [some (.ref 1000), some (.ref 0), some (.ref 34), some (.int 0)], [.int (-2)], 62, 3336, (mSH, (mUp I 0 9 ((I 0 9) + 1)), L)) _
      refine mB 5 (s2 := (11, 163, 621, [some (.ref 1000), some (.ref 0), some (.ref 34), some (.int 0)], [.int 1, .ref 1000, .ref 34, .int (-2)], 62, 3336, (mSH, (mUp I 0 9 ((I 0 9) + 1)), L))) rfl ?_
      refine mRq (s2 := (11, 163, 622, [some (.ref 1000), some (.ref 0), some (.ref 34), some (.int 0)], [.int ((ro 0).2 1), .ref 34, .int (-2)], 62, 3336, (mSH, (mUp I 0 9 ((I 0 9) + 1)), L))) rfl (by first | (simp only [f0_9, f0_10, f0_11, f1_2, f2_1, f4_1, f6_0, f6_1, f6_2, f6_3, f7_0, f7_1, f7_2, f7_3, f9_0, f9_1, f9_2, f25_0, f25_1, f26_1, f30_1, f32_1, f34_1, f34_3, f34_4, f34_11, f37_0, f37_1, f37_2, f37_3, f38_0, f38_1, f38_2, f39_0, f39_1, f39_2, f41_0, f41_1, f41_2, f41_3, f41_4, f41_5, g34_7, g34_8, hro0, hro1, hro1_0, hro1_1, hro1_2, hro2, hro2_0, hro2_1, hro2_2, hro13, mTn0, mTn1, mTn2, mTn10]; first | decide | rfl) | decide | rfl) ?_
      refine mCall (s2 := (10, 143, 0, [some (.ref 34), some (.int ((ro 0).2 1)), none, none, none, none, none], [], 0, 0, (mSH, (mUp I 0 9 ((I 0 9) + 1)), L))) rfl ?_
      refine mB 3 (s2 := (10, 143, 3, [some (.ref 34), some (.int ((ro 0).2 1)), none, none, none, none, none], [.ref 34, .int 0, .int ((ro 0).2 1)], 0, 0, (mSH, (mUp I 0 9 ((I 0 9) + 1)), L))) rfl ?_
      refine mCall (s2 := (9, 142, 0, [some (.ref 34), none, none], [], 0, 0, (mSH, (mUp I 0 9 ((I 0 9) + 1)), L))) rfl ?_
      refine mB 7 (s2 := (9, 142, 9, [some (.ref 34), some (.int 0), some (.int 0)], [.int (I 34 3), .int 0], 0, 0, (mSH, (mUp I 0 9 ((I 0 9) + 1)), L))) rfl ?_
      refine mBT (s2 := (9, 142, 27, [some (.ref 34), some (.int 0), some (.int 0)], [], 0, 0, (mSH, (mUp I 0 9 ((I 0 9) + 1)), L))) rfl (by first | (simp only [f0_9, f0_10, f0_11, f1_2, f2_1, f4_1, f6_0, f6_1, f6_2, f6_3, f7_0, f7_1, f7_2, f7_3, f9_0, f9_1, f9_2, f25_0, f25_1, f26_1, f30_1, f32_1, f34_1, f34_3, f34_4, f34_11, f37_0, f37_1, f37_2, f37_3, f38_0, f38_1, f38_2, f39_0, f39_1, f39_2, f41_0, f41_1, f41_2, f41_3, f41_4, f41_5, g34_7, g34_8, hro0, hro1, hro1_0, hro1_1, hro1_2, hro2, hro2_0, hro2_1, hro2_2, hro13, mTn0, mTn1, mTn2, mTn10]; first | decide | rfl) | decide | rfl) ?_
      refine mB 1 (s2 := (9, 142, 28, [some (.ref 34), some (.int 0), some (.int 0)], [.int 0], 0, 0, (mSH, (mUp I 0 9 ((I 0 9) + 1)), L))) rfl ?_
      refine mRt (r := (some (.int 0))) (h := (mSH, (mUp I 0 9 ((I 0 9) + 1)), L)) rfl (mRet_int rfl) ?_
      show mWP mTb_ mFT ro (10, 143, 6, [some (.ref 34), some (.int ((ro 0).2 1)), none, none, none, none, none], [.int 0, .int 0, .int ((ro 0).2 1)], 0, 0, (mSH, (mUp I 0 9 ((I 0 9) + 1)), L)) _
      refine mCall (s2 := (9, 112, 0, [some (.int ((ro 0).2 1)), some (.int 0), some (.int 0)], [], 0, 0, (mSH, (mUp I 0 9 ((I 0 9) + 1)), L))) rfl ?_
      refine mB 2 (s2 := (9, 112, 2, [some (.int ((ro 0).2 1)), some (.int 0), some (.int 0)], [.int 0, .int ((ro 0).2 1)], 0, 0, (mSH, (mUp I 0 9 ((I 0 9) + 1)), L))) rfl ?_
      refine mBF (s3 := (9, 112, 5, [some (.int ((ro 0).2 1)), some (.int 0), some (.int 0)], [], 0, 0, (mSH, (mUp I 0 9 ((I 0 9) + 1)), L))) rfl (decide_eq_false (by
        have a0 := of_decide_eq_false c0
        have a1 := of_decide_eq_false c1
        simp only [f0_9, f0_10, f0_11, f1_2, f2_1, f4_1, f6_0, f6_1, f6_2, f6_3, f7_0, f7_1, f7_2, f7_3, f9_0, f9_1, f9_2, f25_0, f25_1, f26_1, f30_1, f32_1, f34_1, f34_3, f34_4, f34_11, f37_0, f37_1, f37_2, f37_3, f38_0, f38_1, f38_2, f39_0, f39_1, f39_2, f41_0, f41_1, f41_2, f41_3, f41_4, f41_5, g34_7, g34_8, hro0, hro1, hro1_0, hro1_1, hro1_2, hro2, hro2_0, hro2_1, hro2_2, hro13, mTn0, mTn1, mTn2, mTn10, Int32.lt_iff_toInt_lt, Int32.le_iff_toInt_le, ← Int32.toInt_inj, mLi0, mLi1, mLi2, mLi3, mLi4, mLi5, mLi6, mLi7, mLi8, mLi9, mLi16, mLi99, mLi120, mLi127, mLi1584, mLi999999, mLim] at a0 a1 ⊢
        omega)) ?_
      refine mB 2 (s2 := (9, 112, 7, [some (.int ((ro 0).2 1)), some (.int 0), some (.int 0)], [.int 0, .int ((ro 0).2 1)], 0, 0, (mSH, (mUp I 0 9 ((I 0 9) + 1)), L))) rfl ?_
      refine mBT (s2 := (9, 112, 14, [some (.int ((ro 0).2 1)), some (.int 0), some (.int 0)], [], 0, 0, (mSH, (mUp I 0 9 ((I 0 9) + 1)), L))) rfl (decide_eq_true (by
        have a0 := of_decide_eq_false c0
        have a1 := of_decide_eq_false c1
        simp only [f0_9, f0_10, f0_11, f1_2, f2_1, f4_1, f6_0, f6_1, f6_2, f6_3, f7_0, f7_1, f7_2, f7_3, f9_0, f9_1, f9_2, f25_0, f25_1, f26_1, f30_1, f32_1, f34_1, f34_3, f34_4, f34_11, f37_0, f37_1, f37_2, f37_3, f38_0, f38_1, f38_2, f39_0, f39_1, f39_2, f41_0, f41_1, f41_2, f41_3, f41_4, f41_5, g34_7, g34_8, hro0, hro1, hro1_0, hro1_1, hro1_2, hro2, hro2_0, hro2_1, hro2_2, hro13, mTn0, mTn1, mTn2, mTn10, Int32.lt_iff_toInt_lt, Int32.le_iff_toInt_le, ← Int32.toInt_inj, mLi0, mLi1, mLi2, mLi3, mLi4, mLi5, mLi6, mLi7, mLi8, mLi9, mLi16, mLi99, mLi120, mLi127, mLi1584, mLi999999, mLim] at a0 a1 ⊢
        omega)) ?_
      refine mB 1 (s2 := (9, 112, 15, [some (.int ((ro 0).2 1)), some (.int 0), some (.int 0)], [.int 0], 0, 0, (mSH, (mUp I 0 9 ((I 0 9) + 1)), L))) rfl ?_
      refine mRt (r := (some (.int 0))) (h := (mSH, (mUp I 0 9 ((I 0 9) + 1)), L)) rfl rfl ?_
      show mWP mTb_ mFT ro (10, 143, 9, [some (.ref 34), some (.int ((ro 0).2 1)), none, none, none, none, none], [.int 0], 0, 0, (mSH, (mUp I 0 9 ((I 0 9) + 1)), L)) _
      refine mBT (s2 := (10, 143, 12, [some (.ref 34), some (.int ((ro 0).2 1)), none, none, none, none, none], [], 0, 0, (mSH, (mUp I 0 9 ((I 0 9) + 1)), L))) rfl (by decide) ?_
      refine mB 2 (s2 := (10, 143, 15, [some (.ref 34), some (.int ((ro 0).2 1)), none, none, none, none, none], [.int (-2), .ref 34], 0, 0, (mSH, (mUp I 0 9 ((I 0 9) + 1)), L))) rfl ?_
      refine mCall (s2 := (9, 113, 0, [some (.ref 34), some (.int (-2))], [], 0, 0, (mSH, (mUp I 0 9 ((I 0 9) + 1)), L))) rfl ?_
      refine mB 6 (s2 := (9, 113, 9, [some (.ref 34), some (.int (-2))], [.int 0, .ref 39, .int 0, .ref 39], 0, 0, (mSH, (mUp I 0 9 ((I 0 9) + 1)), L))) rfl ?_
      refine mRq (s2 := (9, 113, 10, [some (.ref 34), some (.int (-2))], [.int (I 39 0), .int 0, .ref 39], 0, 0, (mSH, (mUp I 0 9 ((I 0 9) + 1)), L))) rfl (by decide) ?_
      refine mB 2 (s2 := (9, 113, 12, [some (.ref 34), some (.int (-2))], [.int ((I 39 0) + 1), .int 0, .ref 39], 0, 0, (mSH, (mUp I 0 9 ((I 0 9) + 1)), L))) rfl ?_
      refine mRq (s2 := (9, 113, 13, [some (.ref 34), some (.int (-2))], [], 0, 0, (mSH, (mUp (mUp I 0 9 ((I 0 9) + 1)) 39 0 ((I 39 0) + 1)), L))) rfl (by decide) ?_
      refine mB 1 (s2 := (9, 113, 14, [some (.ref 34), some (.int (-2))], [.int (-2)], 0, 0, (mSH, (mUp (mUp I 0 9 ((I 0 9) + 1)) 39 0 ((I 39 0) + 1)), L))) rfl ?_
      refine mRt (r := (some (.int (-2)))) (h := (mSH, (mUp (mUp I 0 9 ((I 0 9) + 1)) 39 0 ((I 39 0) + 1)), L)) rfl (mRet_int rfl) ?_
      show mWP mTb_ mFT ro (10, 143, 18, [some (.ref 34), some (.int ((ro 0).2 1)), none, none, none, none, none], [.int (-2)], 0, 0, (mSH, (mUp (mUp I 0 9 ((I 0 9) + 1)) 39 0 ((I 39 0) + 1)), L)) _
      refine mRt (r := (some (.int (-2)))) (h := (mSH, (mUp (mUp I 0 9 ((I 0 9) + 1)) 39 0 ((I 39 0) + 1)), L)) rfl (mRet_int rfl) ?_
      show mWP mTb_ mFT ro (11, 163, 625, [some (.ref 1000), some (.ref 0), some (.ref 34), some (.int 0)], [.int (-2), .int (-2)], 62, 3336, (mSH, (mUp (mUp I 0 9 ((I 0 9) + 1)) 39 0 ((I 39 0) + 1)), L)) _
      refine mBT (s2 := (11, 163, 808, [some (.ref 1000), some (.ref 0), some (.ref 34), some (.int 0)], [], 62, 3336, (mSH, (mUp (mUp I 0 9 ((I 0 9) + 1)) 39 0 ((I 39 0) + 1)), L))) rfl (by decide) ?_
      exact h3 (of_decide_eq_false c0) (of_decide_eq_false c1)
theorem p1_depth {ro : Nat → Nat × (Nat → Int32)} {Q : mPo} {I : Nat → Nat → Int32} {L : Nat → Nat → Int64} (hF : mFF I L) (hR : mRO ro) (h1 : (((ro 0).2 1) < 0) → mWP mTb_ mFT ro (11, 163, 808, [some (.ref 1000), some (.ref 0), some (.ref 34), some (.int 0)], [], 62, 3336, (mSH, (mUp (mUp I 0 9 ((I 0 9) + 1)) 39 0 ((I 39 0) + 1)), L)) Q) (h2 : ¬ (((ro 0).2 1) < 0) → (((ro 0).2 1) ≤ 1584) → mWP mTb_ mFT ro (11, 163, 808, [some (.ref 1000), some (.ref 0), some (.ref 34), some (.int 0)], [], 62, 3336, (mSH, (mUp (mUp (mUp (mUp (mUp (mUp (mUp (mFl (mFl (mFl (mFl I 12 154 1000000000) 13 154 1000000000) 20 154 0) 21 154 0) 0 10 ((I 0 10) + 1)) 34 20 0) 34 21 0) 34 22 0) 46 0 (-1)) 46 10 (-1)) 39 1 ((I 39 1) + 1)), L)) Q) (h3 : ¬ (((ro 0).2 1) < 0) → ¬ (((ro 0).2 1) ≤ 1584) → mWP mTb_ mFT ro (11, 163, 808, [some (.ref 1000), some (.ref 0), some (.ref 34), some (.int 0)], [], 62, 3336, (mSH, (mUp (mUp I 0 9 ((I 0 9) + 1)) 39 0 ((I 39 0) + 1)), L)) Q) : mWP mTb_ mFT ro (11, 163, 630, [some (.ref 1000), some (.ref 0), some (.ref 34), some (.int 0)], [], 62, 3336, (mSH, I, L)) Q := by
  obtain ⟨f0_9, f0_10, f0_11, f1_2, f2_1, f4_1, f6_0, f6_1, f6_2, f6_3, f7_0, f7_1, f7_2, f7_3, f9_0, f9_1, f9_2, f25_0, f25_1, f26_1, f30_1, f32_1, f34_1, f34_3, f34_4, f34_11, f37_0, f37_1, f37_2, f37_3, f38_0, f38_1, f38_2, f39_0, f39_1, f39_2, f41_0, f41_1, f41_2, f41_3, f41_4, f41_5, g34_7, g34_8⟩ := hF
  obtain ⟨hro0, hro1, hro1_0, hro1_1, hro1_2, hro2, hro2_0, hro2_1, hro2_2, hro13⟩ := hR
  refine mB 5 (s2 := (11, 163, 635, [some (.ref 1000), some (.ref 0), some (.ref 34), some (.int 0)], [.int 1, .ref 1000, .ref 0], 62, 3336, (mSH, I, L))) rfl ?_
  refine mRq (s2 := (11, 163, 636, [some (.ref 1000), some (.ref 0), some (.ref 34), some (.int 0)], [.int ((ro 0).2 1), .ref 0], 62, 3336, (mSH, I, L))) rfl (by first | (simp only [f0_9, f0_10, f0_11, f1_2, f2_1, f4_1, f6_0, f6_1, f6_2, f6_3, f7_0, f7_1, f7_2, f7_3, f9_0, f9_1, f9_2, f25_0, f25_1, f26_1, f30_1, f32_1, f34_1, f34_3, f34_4, f34_11, f37_0, f37_1, f37_2, f37_3, f38_0, f38_1, f38_2, f39_0, f39_1, f39_2, f41_0, f41_1, f41_2, f41_3, f41_4, f41_5, g34_7, g34_8, hro0, hro1, hro1_0, hro1_1, hro1_2, hro2, hro2_0, hro2_1, hro2_2, hro13, mTn0, mTn1, mTn2, mTn10]; first | decide | rfl) | decide | rfl) ?_
  refine mCall (s2 := (10, 94, 0, [some (.ref 0), some (.int ((ro 0).2 1))], [], 0, 0, (mSH, I, L))) rfl ?_
  refine mB 1 (s2 := (10, 94, 1, [some (.ref 0), some (.int ((ro 0).2 1))], [.int ((ro 0).2 1)], 0, 0, (mSH, I, L))) rfl ?_
  refine mBr (s2 := (10, 94, 11, [some (.ref 0), some (.int ((ro 0).2 1))], [], 0, 0, (mSH, I, L))) (s3 := (10, 94, 4, [some (.ref 0), some (.int ((ro 0).2 1))], [], 0, 0, (mSH, I, L))) rfl (fun c0 => ?_) (fun c0 => ?_)
  · refine mB 2 (s2 := (10, 94, 14, [some (.ref 0), some (.int ((ro 0).2 1))], [.int (-2), .ref 0], 0, 0, (mSH, I, L))) rfl ?_
    refine mCall (s2 := (9, 103, 0, [some (.ref 0), some (.int (-2))], [], 0, 0, (mSH, I, L))) rfl ?_
    refine mB 2 (s2 := (9, 103, 3, [some (.ref 0), some (.int (-2))], [.int (-2), .int (-2)], 0, 0, (mSH, I, L))) rfl ?_
    refine mBT (s2 := (9, 103, 6, [some (.ref 0), some (.int (-2))], [], 0, 0, (mSH, I, L))) rfl (by decide) ?_
    refine mB 8 (s2 := (9, 103, 49, [some (.ref 0), some (.int (-2))], [.int (-2)], 0, 0, (mSH, (mUp I 0 9 ((I 0 9) + 1)), L))) rfl ?_
    refine mRt (r := (some (.int (-2)))) (h := (mSH, (mUp I 0 9 ((I 0 9) + 1)), L)) rfl (mRet_int rfl) ?_
    show mWP mTb_ mFT ro (10, 94, 17, [some (.ref 0), some (.int ((ro 0).2 1))], [.int (-2)], 0, 0, (mSH, (mUp I 0 9 ((I 0 9) + 1)), L)) _
    refine mRt (r := (some (.int (-2)))) (h := (mSH, (mUp I 0 9 ((I 0 9) + 1)), L)) rfl (mRet_int rfl) ?_
    show mWP mTb_ mFT ro (11, 163, 639, [some (.ref 1000), some (.ref 0), some (.ref 34), some (.int 0)], [.int (-2)], 62, 3336, (mSH, (mUp I 0 9 ((I 0 9) + 1)), L)) _
    refine mB 5 (s2 := (11, 163, 644, [some (.ref 1000), some (.ref 0), some (.ref 34), some (.int 0)], [.int 1, .ref 1000, .ref 34, .int (-2)], 62, 3336, (mSH, (mUp I 0 9 ((I 0 9) + 1)), L))) rfl ?_
    refine mRq (s2 := (11, 163, 645, [some (.ref 1000), some (.ref 0), some (.ref 34), some (.int 0)], [.int ((ro 0).2 1), .ref 34, .int (-2)], 62, 3336, (mSH, (mUp I 0 9 ((I 0 9) + 1)), L))) rfl (by first | (simp only [f0_9, f0_10, f0_11, f1_2, f2_1, f4_1, f6_0, f6_1, f6_2, f6_3, f7_0, f7_1, f7_2, f7_3, f9_0, f9_1, f9_2, f25_0, f25_1, f26_1, f30_1, f32_1, f34_1, f34_3, f34_4, f34_11, f37_0, f37_1, f37_2, f37_3, f38_0, f38_1, f38_2, f39_0, f39_1, f39_2, f41_0, f41_1, f41_2, f41_3, f41_4, f41_5, g34_7, g34_8, hro0, hro1, hro1_0, hro1_1, hro1_2, hro2, hro2_0, hro2_1, hro2_2, hro13, mTn0, mTn1, mTn2, mTn10]; first | decide | rfl) | decide | rfl) ?_
    refine mCall (s2 := (10, 144, 0, [some (.ref 34), some (.int ((ro 0).2 1)), none, none, none, none, none], [], 0, 0, (mSH, (mUp I 0 9 ((I 0 9) + 1)), L))) rfl ?_
    refine mB 3 (s2 := (10, 144, 5, [some (.ref 34), some (.int ((ro 0).2 1)), none, none, none, none, none], [.int 1584, .int 0, .int ((ro 0).2 1)], 0, 0, (mSH, (mUp I 0 9 ((I 0 9) + 1)), L))) rfl ?_
    refine mCall (s2 := (9, 112, 0, [some (.int ((ro 0).2 1)), some (.int 0), some (.int 1584)], [], 0, 0, (mSH, (mUp I 0 9 ((I 0 9) + 1)), L))) rfl ?_
    refine mB 2 (s2 := (9, 112, 2, [some (.int ((ro 0).2 1)), some (.int 0), some (.int 1584)], [.int 0, .int ((ro 0).2 1)], 0, 0, (mSH, (mUp I 0 9 ((I 0 9) + 1)), L))) rfl ?_
    refine mBT (s2 := (9, 112, 14, [some (.int ((ro 0).2 1)), some (.int 0), some (.int 1584)], [], 0, 0, (mSH, (mUp I 0 9 ((I 0 9) + 1)), L))) rfl (decide_eq_true (by
        have a0 := of_decide_eq_true c0
        simp only [f0_9, f0_10, f0_11, f1_2, f2_1, f4_1, f6_0, f6_1, f6_2, f6_3, f7_0, f7_1, f7_2, f7_3, f9_0, f9_1, f9_2, f25_0, f25_1, f26_1, f30_1, f32_1, f34_1, f34_3, f34_4, f34_11, f37_0, f37_1, f37_2, f37_3, f38_0, f38_1, f38_2, f39_0, f39_1, f39_2, f41_0, f41_1, f41_2, f41_3, f41_4, f41_5, g34_7, g34_8, hro0, hro1, hro1_0, hro1_1, hro1_2, hro2, hro2_0, hro2_1, hro2_2, hro13, mTn0, mTn1, mTn2, mTn10, Int32.lt_iff_toInt_lt, Int32.le_iff_toInt_le, ← Int32.toInt_inj, mLi0, mLi1, mLi2, mLi3, mLi4, mLi5, mLi6, mLi7, mLi8, mLi9, mLi16, mLi99, mLi120, mLi127, mLi1584, mLi999999, mLim] at a0 ⊢
        omega)) ?_
    refine mB 1 (s2 := (9, 112, 15, [some (.int ((ro 0).2 1)), some (.int 0), some (.int 1584)], [.int 0], 0, 0, (mSH, (mUp I 0 9 ((I 0 9) + 1)), L))) rfl ?_
    refine mRt (r := (some (.int 0))) (h := (mSH, (mUp I 0 9 ((I 0 9) + 1)), L)) rfl rfl ?_
    show mWP mTb_ mFT ro (10, 144, 8, [some (.ref 34), some (.int ((ro 0).2 1)), none, none, none, none, none], [.int 0], 0, 0, (mSH, (mUp I 0 9 ((I 0 9) + 1)), L)) _
    refine mBT (s2 := (10, 144, 11, [some (.ref 34), some (.int ((ro 0).2 1)), none, none, none, none, none], [], 0, 0, (mSH, (mUp I 0 9 ((I 0 9) + 1)), L))) rfl (by decide) ?_
    refine mB 2 (s2 := (10, 144, 14, [some (.ref 34), some (.int ((ro 0).2 1)), none, none, none, none, none], [.int (-2), .ref 34], 0, 0, (mSH, (mUp I 0 9 ((I 0 9) + 1)), L))) rfl ?_
    refine mCall (s2 := (9, 113, 0, [some (.ref 34), some (.int (-2))], [], 0, 0, (mSH, (mUp I 0 9 ((I 0 9) + 1)), L))) rfl ?_
    refine mB 6 (s2 := (9, 113, 9, [some (.ref 34), some (.int (-2))], [.int 0, .ref 39, .int 0, .ref 39], 0, 0, (mSH, (mUp I 0 9 ((I 0 9) + 1)), L))) rfl ?_
    refine mRq (s2 := (9, 113, 10, [some (.ref 34), some (.int (-2))], [.int (I 39 0), .int 0, .ref 39], 0, 0, (mSH, (mUp I 0 9 ((I 0 9) + 1)), L))) rfl (by decide) ?_
    refine mB 2 (s2 := (9, 113, 12, [some (.ref 34), some (.int (-2))], [.int ((I 39 0) + 1), .int 0, .ref 39], 0, 0, (mSH, (mUp I 0 9 ((I 0 9) + 1)), L))) rfl ?_
    refine mRq (s2 := (9, 113, 13, [some (.ref 34), some (.int (-2))], [], 0, 0, (mSH, (mUp (mUp I 0 9 ((I 0 9) + 1)) 39 0 ((I 39 0) + 1)), L))) rfl (by decide) ?_
    refine mB 1 (s2 := (9, 113, 14, [some (.ref 34), some (.int (-2))], [.int (-2)], 0, 0, (mSH, (mUp (mUp I 0 9 ((I 0 9) + 1)) 39 0 ((I 39 0) + 1)), L))) rfl ?_
    refine mRt (r := (some (.int (-2)))) (h := (mSH, (mUp (mUp I 0 9 ((I 0 9) + 1)) 39 0 ((I 39 0) + 1)), L)) rfl (mRet_int rfl) ?_
    show mWP mTb_ mFT ro (10, 144, 17, [some (.ref 34), some (.int ((ro 0).2 1)), none, none, none, none, none], [.int (-2)], 0, 0, (mSH, (mUp (mUp I 0 9 ((I 0 9) + 1)) 39 0 ((I 39 0) + 1)), L)) _
    refine mRt (r := (some (.int (-2)))) (h := (mSH, (mUp (mUp I 0 9 ((I 0 9) + 1)) 39 0 ((I 39 0) + 1)), L)) rfl (mRet_int rfl) ?_
    show mWP mTb_ mFT ro (11, 163, 648, [some (.ref 1000), some (.ref 0), some (.ref 34), some (.int 0)], [.int (-2), .int (-2)], 62, 3336, (mSH, (mUp (mUp I 0 9 ((I 0 9) + 1)) 39 0 ((I 39 0) + 1)), L)) _
    refine mBT (s2 := (11, 163, 808, [some (.ref 1000), some (.ref 0), some (.ref 34), some (.int 0)], [], 62, 3336, (mSH, (mUp (mUp I 0 9 ((I 0 9) + 1)) 39 0 ((I 39 0) + 1)), L))) rfl (by decide) ?_
    exact h1 (of_decide_eq_true c0)
  · refine mB 2 (s2 := (10, 94, 8, [some (.ref 0), some (.int ((ro 0).2 1))], [.int 1584, .int ((ro 0).2 1)], 0, 0, (mSH, I, L))) rfl ?_
    refine mBr (s2 := (10, 94, 18, [some (.ref 0), some (.int ((ro 0).2 1))], [], 0, 0, (mSH, I, L))) (s3 := (10, 94, 11, [some (.ref 0), some (.int ((ro 0).2 1))], [], 0, 0, (mSH, I, L))) rfl (fun c1 => ?_) (fun c1 => ?_)
    · refine mB 2 (s2 := (10, 94, 20, [some (.ref 0), some (.int ((ro 0).2 1))], [.int 0, .ref 0], 0, 0, (mSH, I, L))) rfl ?_
      refine mCall (s2 := (9, 106, 0, [some (.ref 0), some (.int 0)], [], 0, 0, (mSH, I, L))) rfl ?_
      refine mB 7 (s2 := (9, 106, 13, [some (.ref 0), some (.int 0)], [.int 0, .ref 8, .ref 6, .ref 10], 0, 0, (mSH, I, L))) rfl ?_
      refine mCall (s2 := (8, 10, 0, [some (.ref 8), some (.int 0)], [], 0, 0, (mSH, I, L))) rfl ?_
      refine mB 2 (s2 := (8, 10, 2, [some (.ref 8), some (.int 0)], [.int 0, .ref 8], 0, 0, (mSH, I, L))) rfl ?_
      refine mCall (s2 := (7, 8, 0, [some (.ref 8), some (.int 0)], [], 0, 0, (mSH, I, L))) rfl ?_
      refine mB 1 (s2 := (7, 8, 1, [some (.ref 8), some (.int 0)], [.int 0], 0, 0, (mSH, I, L))) rfl ?_
      refine mBF (s3 := (7, 8, 4, [some (.ref 8), some (.int 0)], [], 0, 0, (mSH, I, L))) rfl (by decide) ?_
      refine mB 4 (s2 := (7, 8, 10, [some (.ref 8), some (.int 0)], [.int 3, .int 0], 0, 0, (mSH, I, L))) rfl ?_
      refine mBF (s3 := (7, 8, 13, [some (.ref 8), some (.int 0)], [], 0, 0, (mSH, I, L))) rfl (by decide) ?_
      refine mB 2 (s2 := (7, 8, 18, [some (.ref 8), some (.int 0)], [.int 1], 0, 0, (mSH, I, L))) rfl ?_
      refine mRt (r := (some (.int 1))) (h := (mSH, I, L)) rfl rfl ?_
      show mWP mTb_ mFT ro (8, 10, 5, [some (.ref 8), some (.int 0)], [.int 1], 0, 0, (mSH, I, L)) _
      refine mBF (s3 := (8, 10, 8, [some (.ref 8), some (.int 0)], [], 0, 0, (mSH, I, L))) rfl (by decide) ?_
      refine mB 3 (s2 := (8, 10, 13, [some (.ref 8), some (.int 0)], [.int 0, .ref 9], 0, 0, (mSH, I, L))) rfl ?_
      refine mRq (s2 := (8, 10, 14, [some (.ref 8), some (.int 0)], [.int (I 9 0)], 0, 0, (mSH, I, L))) rfl (by decide) ?_
      refine mB 1 (s2 := (8, 10, 18, [some (.ref 8), some (.int 0)], [.int (I 9 0)], 0, 0, (mSH, I, L))) rfl ?_
      refine mRt (r := (some (.int (I 9 0)))) (h := (mSH, I, L)) rfl (mRet_int rfl) ?_
      show mWP mTb_ mFT ro (9, 106, 16, [some (.ref 0), some (.int 0)], [.int (I 9 0), .ref 6, .ref 10], 0, 0, (mSH, I, L)) _
      refine mCall (s2 := (8, 52, 0, [some (.ref 10), some (.ref 6), some (.int (I 9 0)), none, none, none], [], 0, 0, (mSH, I, L))) rfl ?_
      refine mB 1 (s2 := (8, 52, 1, [some (.ref 10), some (.ref 6), some (.int (I 9 0)), none, none, none], [.ref 10], 0, 0, (mSH, I, L))) rfl ?_
      refine mCall (s2 := (7, 53, 0, [some (.ref 10)], [], 0, 0, (mSH, I, L))) rfl ?_
      refine mB 3 (s2 := (7, 53, 5, [some (.ref 10)], [.int 0, .ref 11], 0, 0, (mSH, I, L))) rfl ?_
      refine mRq (s2 := (7, 53, 6, [some (.ref 10)], [.ref 12], 0, 0, (mSH, I, L))) rfl (by decide) ?_
      refine mB 1 (s2 := (7, 53, 8, [some (.ref 10)], [.int 1000000000, .ref 12], 0, 0, (mSH, I, L))) rfl ?_
      refine mCall (s2 := (6, 162, 0, [some (.ref 12), some (.int 1000000000), none, none], [], 0, 0, (mSH, I, L))) rfl ?_
      refine w_fill_12 ?_
      show mWP mTb_ mFT ro (7, 53, 11, [some (.ref 10)], [], 0, 0, (mSH, (mFl I 12 154 1000000000), L)) _
      refine mB 3 (s2 := (7, 53, 16, [some (.ref 10)], [.int 1, .ref 11], 0, 0, (mSH, (mFl I 12 154 1000000000), L))) rfl ?_
      refine mRq (s2 := (7, 53, 17, [some (.ref 10)], [.ref 13], 0, 0, (mSH, (mFl I 12 154 1000000000), L))) rfl (by decide) ?_
      refine mB 1 (s2 := (7, 53, 19, [some (.ref 10)], [.int 1000000000, .ref 13], 0, 0, (mSH, (mFl I 12 154 1000000000), L))) rfl ?_
      refine mCall (s2 := (6, 162, 0, [some (.ref 13), some (.int 1000000000), none, none], [], 0, 0, (mSH, (mFl I 12 154 1000000000), L))) rfl ?_
      refine w_fill_13 ?_
      show mWP mTb_ mFT ro (7, 53, 22, [some (.ref 10)], [], 0, 0, (mSH, (mFl (mFl I 12 154 1000000000) 13 154 1000000000), L)) _
      refine mB 3 (s2 := (7, 53, 27, [some (.ref 10)], [.int 0, .ref 20], 0, 0, (mSH, (mFl (mFl I 12 154 1000000000) 13 154 1000000000), L))) rfl ?_
      refine mCall (s2 := (6, 162, 0, [some (.ref 20), some (.int 0), none, none], [], 0, 0, (mSH, (mFl (mFl I 12 154 1000000000) 13 154 1000000000), L))) rfl ?_
      refine w_fill_20 ?_
      show mWP mTb_ mFT ro (7, 53, 30, [some (.ref 10)], [], 0, 0, (mSH, (mFl (mFl (mFl I 12 154 1000000000) 13 154 1000000000) 20 154 0), L)) _
      refine mB 3 (s2 := (7, 53, 35, [some (.ref 10)], [.int 0, .ref 21], 0, 0, (mSH, (mFl (mFl (mFl I 12 154 1000000000) 13 154 1000000000) 20 154 0), L))) rfl ?_
      refine mCall (s2 := (6, 162, 0, [some (.ref 21), some (.int 0), none, none], [], 0, 0, (mSH, (mFl (mFl (mFl I 12 154 1000000000) 13 154 1000000000) 20 154 0), L))) rfl ?_
      refine w_fill_21 ?_
      show mWP mTb_ mFT ro (7, 53, 38, [some (.ref 10)], [], 0, 0, (mSH, (mFl (mFl (mFl (mFl I 12 154 1000000000) 13 154 1000000000) 20 154 0) 21 154 0), L)) _
      refine mRt (r := none) (h := (mSH, (mFl (mFl (mFl (mFl I 12 154 1000000000) 13 154 1000000000) 20 154 0) 21 154 0), L)) rfl rfl ?_
      show mWP mTb_ mFT ro (8, 52, 4, [some (.ref 10), some (.ref 6), some (.int (I 9 0)), none, none, none], [], 0, 0, (mSH, (mFl (mFl (mFl (mFl I 12 154 1000000000) 13 154 1000000000) 20 154 0) 21 154 0), L)) _
      refine mB 3 (s2 := (8, 52, 11, [some (.ref 10), some (.ref 6), some (.int (I 9 0)), none, none, none], [.ref 4], 0, 0, (mSH, (mFl (mFl (mFl (mFl I 12 154 1000000000) 13 154 1000000000) 20 154 0) 21 154 0), L))) rfl ?_
      refine mCall (s2 := (7, 39, 0, [some (.ref 4)], [], 0, 0, (mSH, (mFl (mFl (mFl (mFl I 12 154 1000000000) 13 154 1000000000) 20 154 0) 21 154 0), L))) rfl ?_
      refine mB 2 (s2 := (7, 39, 4, [some (.ref 4)], [.int (I 4 1)], 0, 0, (mSH, (mFl (mFl (mFl (mFl I 12 154 1000000000) 13 154 1000000000) 20 154 0) 21 154 0), L))) rfl ?_
      refine mRt (r := (some (.int (I 4 1)))) (h := (mSH, (mFl (mFl (mFl (mFl I 12 154 1000000000) 13 154 1000000000) 20 154 0) 21 154 0), L)) rfl (mRet_int rfl) ?_
      show mWP mTb_ mFT ro (8, 52, 14, [some (.ref 10), some (.ref 6), some (.int (I 9 0)), none, none, none], [.int (I 4 1)], 0, 0, (mSH, (mFl (mFl (mFl (mFl I 12 154 1000000000) 13 154 1000000000) 20 154 0) 21 154 0), L)) _
      refine mB 4 (s2 := (8, 52, 18, [some (.ref 10), some (.ref 6), some (.int (I 9 0)), some (.int ((I 4 1) - 1)), none, none], [.int ((I 4 1) - 1)], 0, 0, (mSH, (mFl (mFl (mFl (mFl I 12 154 1000000000) 13 154 1000000000) 20 154 0) 21 154 0), L))) rfl ?_
      refine mBF (s3 := (8, 52, 21, [some (.ref 10), some (.ref 6), some (.int (I 9 0)), some (.int ((I 4 1) - 1)), none, none], [], 0, 0, (mSH, (mFl (mFl (mFl (mFl I 12 154 1000000000) 13 154 1000000000) 20 154 0) 21 154 0), L))) rfl (by first | (simp only [f0_9, f0_10, f0_11, f1_2, f2_1, f4_1, f6_0, f6_1, f6_2, f6_3, f7_0, f7_1, f7_2, f7_3, f9_0, f9_1, f9_2, f25_0, f25_1, f26_1, f30_1, f32_1, f34_1, f34_3, f34_4, f34_11, f37_0, f37_1, f37_2, f37_3, f38_0, f38_1, f38_2, f39_0, f39_1, f39_2, f41_0, f41_1, f41_2, f41_3, f41_4, f41_5, g34_7, g34_8, hro0, hro1, hro1_0, hro1_1, hro1_2, hro2, hro2_0, hro2_1, hro2_2, hro13, mTn0, mTn1, mTn2, mTn10]; first | decide | rfl) | decide | rfl) ?_
      refine mRt (r := none) (h := (mSH, (mFl (mFl (mFl (mFl I 12 154 1000000000) 13 154 1000000000) 20 154 0) 21 154 0), L)) rfl rfl ?_
      show mWP mTb_ mFT ro (9, 106, 19, [some (.ref 0), some (.int 0)], [], 0, 0, (mSH, (mFl (mFl (mFl (mFl I 12 154 1000000000) 13 154 1000000000) 20 154 0) 21 154 0), L)) _
      refine mB 5 (s2 := (9, 106, 28, [some (.ref 0), some (.int 0)], [.ref 22, .int 0, .ref 10], 0, 0, (mSH, (mFl (mFl (mFl (mFl I 12 154 1000000000) 13 154 1000000000) 20 154 0) 21 154 0), L))) rfl ?_
      refine mCall (s2 := (8, 65, 0, [some (.ref 10), some (.int 0), some (.ref 22), none, none, none, none], [], 0, 0, (mSH, (mFl (mFl (mFl (mFl I 12 154 1000000000) 13 154 1000000000) 20 154 0) 21 154 0), L))) rfl ?_
      refine mB 1 (s2 := (8, 65, 1, [some (.ref 10), some (.int 0), some (.ref 22), none, none, none, none], [.int 0], 0, 0, (mSH, (mFl (mFl (mFl (mFl I 12 154 1000000000) 13 154 1000000000) 20 154 0) 21 154 0), L))) rfl ?_
      refine mBT (s2 := (8, 65, 4, [some (.ref 10), some (.int 0), some (.ref 22), none, none, none, none], [], 0, 0, (mSH, (mFl (mFl (mFl (mFl I 12 154 1000000000) 13 154 1000000000) 20 154 0) 21 154 0), L))) rfl (by decide) ?_
      refine mB 6 (s2 := (8, 65, 15, [some (.ref 10), some (.int 0), some (.ref 22), some (.int 0), none, none, none], [.int 0, .ref 11], 0, 0, (mSH, (mFl (mFl (mFl (mFl I 12 154 1000000000) 13 154 1000000000) 20 154 0) 21 154 0), L))) rfl ?_
      refine mRq (s2 := (8, 65, 16, [some (.ref 10), some (.int 0), some (.ref 22), some (.int 0), none, none, none], [.ref 12], 0, 0, (mSH, (mFl (mFl (mFl (mFl I 12 154 1000000000) 13 154 1000000000) 20 154 0) 21 154 0), L))) rfl (by decide) ?_
      refine mB 1 (s2 := (8, 65, 19, [some (.ref 10), some (.int 0), some (.ref 22), some (.int 0), none, none, none], [.int 153, .ref 12], 0, 0, (mSH, (mFl (mFl (mFl (mFl I 12 154 1000000000) 13 154 1000000000) 20 154 0) 21 154 0), L))) rfl ?_
      refine mRq (s2 := (8, 65, 20, [some (.ref 10), some (.int 0), some (.ref 22), some (.int 0), none, none, none], [.int 1000000000], 0, 0, (mSH, (mFl (mFl (mFl (mFl I 12 154 1000000000) 13 154 1000000000) 20 154 0) 21 154 0), L))) rfl (by decide) ?_
      refine mB 1 (s2 := (8, 65, 22, [some (.ref 10), some (.int 0), some (.ref 22), some (.int 0), none, none, none], [.int 1000000000, .int 1000000000], 0, 0, (mSH, (mFl (mFl (mFl (mFl I 12 154 1000000000) 13 154 1000000000) 20 154 0) 21 154 0), L))) rfl ?_
      refine mBT (s2 := (8, 65, 25, [some (.ref 10), some (.int 0), some (.ref 22), some (.int 0), none, none, none], [], 0, 0, (mSH, (mFl (mFl (mFl (mFl I 12 154 1000000000) 13 154 1000000000) 20 154 0) 21 154 0), L))) rfl (by decide) ?_
      refine mB 1 (s2 := (8, 65, 26, [some (.ref 10), some (.int 0), some (.ref 22), some (.int 0), none, none, none], [.int 0], 0, 0, (mSH, (mFl (mFl (mFl (mFl I 12 154 1000000000) 13 154 1000000000) 20 154 0) 21 154 0), L))) rfl ?_
      refine mRt (r := (some (.int 0))) (h := (mSH, (mFl (mFl (mFl (mFl I 12 154 1000000000) 13 154 1000000000) 20 154 0) 21 154 0), L)) rfl rfl ?_
      show mWP mTb_ mFT ro (9, 106, 31, [some (.ref 0), some (.int 0)], [.int 0], 0, 0, (mSH, (mFl (mFl (mFl (mFl I 12 154 1000000000) 13 154 1000000000) 20 154 0) 21 154 0), L)) _
      refine mRt (r := (some (.int 0))) (h := (mSH, (mFl (mFl (mFl (mFl I 12 154 1000000000) 13 154 1000000000) 20 154 0) 21 154 0), L)) rfl rfl ?_
      show mWP mTb_ mFT ro (10, 94, 23, [some (.ref 0), some (.int ((ro 0).2 1))], [.int 0], 0, 0, (mSH, (mFl (mFl (mFl (mFl I 12 154 1000000000) 13 154 1000000000) 20 154 0) 21 154 0), L)) _
      refine mBT (s2 := (10, 94, 26, [some (.ref 0), some (.int ((ro 0).2 1))], [], 0, 0, (mSH, (mFl (mFl (mFl (mFl I 12 154 1000000000) 13 154 1000000000) 20 154 0) 21 154 0), L))) rfl (by decide) ?_
      refine mB 2 (s2 := (10, 94, 29, [some (.ref 0), some (.int ((ro 0).2 1))], [.int (-3), .ref 0], 0, 0, (mSH, (mFl (mFl (mFl (mFl I 12 154 1000000000) 13 154 1000000000) 20 154 0) 21 154 0), L))) rfl ?_
      refine mCall (s2 := (9, 103, 0, [some (.ref 0), some (.int (-3))], [], 0, 0, (mSH, (mFl (mFl (mFl (mFl I 12 154 1000000000) 13 154 1000000000) 20 154 0) 21 154 0), L))) rfl ?_
      refine mB 2 (s2 := (9, 103, 3, [some (.ref 0), some (.int (-3))], [.int (-2), .int (-3)], 0, 0, (mSH, (mFl (mFl (mFl (mFl I 12 154 1000000000) 13 154 1000000000) 20 154 0) 21 154 0), L))) rfl ?_
      refine mBF (s3 := (9, 103, 19, [some (.ref 0), some (.int (-3))], [], 0, 0, (mSH, (mFl (mFl (mFl (mFl I 12 154 1000000000) 13 154 1000000000) 20 154 0) 21 154 0), L))) rfl (by decide) ?_
      refine mB 2 (s2 := (9, 103, 22, [some (.ref 0), some (.int (-3))], [.int (-3), .int (-3)], 0, 0, (mSH, (mFl (mFl (mFl (mFl I 12 154 1000000000) 13 154 1000000000) 20 154 0) 21 154 0), L))) rfl ?_
      refine mBT (s2 := (9, 103, 25, [some (.ref 0), some (.int (-3))], [], 0, 0, (mSH, (mFl (mFl (mFl (mFl I 12 154 1000000000) 13 154 1000000000) 20 154 0) 21 154 0), L))) rfl (by decide) ?_
      refine mB 8 (s2 := (9, 103, 49, [some (.ref 0), some (.int (-3))], [.int (-3)], 0, 0, (mSH, (mUp (mFl (mFl (mFl (mFl I 12 154 1000000000) 13 154 1000000000) 20 154 0) 21 154 0) 0 10 ((I 0 10) + 1)), L))) rfl ?_
      refine mRt (r := (some (.int (-3)))) (h := (mSH, (mUp (mFl (mFl (mFl (mFl I 12 154 1000000000) 13 154 1000000000) 20 154 0) 21 154 0) 0 10 ((I 0 10) + 1)), L)) rfl (mRet_int rfl) ?_
      show mWP mTb_ mFT ro (10, 94, 32, [some (.ref 0), some (.int ((ro 0).2 1))], [.int (-3)], 0, 0, (mSH, (mUp (mFl (mFl (mFl (mFl I 12 154 1000000000) 13 154 1000000000) 20 154 0) 21 154 0) 0 10 ((I 0 10) + 1)), L)) _
      refine mRt (r := (some (.int (-3)))) (h := (mSH, (mUp (mFl (mFl (mFl (mFl I 12 154 1000000000) 13 154 1000000000) 20 154 0) 21 154 0) 0 10 ((I 0 10) + 1)), L)) rfl (mRet_int rfl) ?_
      show mWP mTb_ mFT ro (11, 163, 639, [some (.ref 1000), some (.ref 0), some (.ref 34), some (.int 0)], [.int (-3)], 62, 3336, (mSH, (mUp (mFl (mFl (mFl (mFl I 12 154 1000000000) 13 154 1000000000) 20 154 0) 21 154 0) 0 10 ((I 0 10) + 1)), L)) _
      refine mB 5 (s2 := (11, 163, 644, [some (.ref 1000), some (.ref 0), some (.ref 34), some (.int 0)], [.int 1, .ref 1000, .ref 34, .int (-3)], 62, 3336, (mSH, (mUp (mFl (mFl (mFl (mFl I 12 154 1000000000) 13 154 1000000000) 20 154 0) 21 154 0) 0 10 ((I 0 10) + 1)), L))) rfl ?_
      refine mRq (s2 := (11, 163, 645, [some (.ref 1000), some (.ref 0), some (.ref 34), some (.int 0)], [.int ((ro 0).2 1), .ref 34, .int (-3)], 62, 3336, (mSH, (mUp (mFl (mFl (mFl (mFl I 12 154 1000000000) 13 154 1000000000) 20 154 0) 21 154 0) 0 10 ((I 0 10) + 1)), L))) rfl (by first | (simp only [f0_9, f0_10, f0_11, f1_2, f2_1, f4_1, f6_0, f6_1, f6_2, f6_3, f7_0, f7_1, f7_2, f7_3, f9_0, f9_1, f9_2, f25_0, f25_1, f26_1, f30_1, f32_1, f34_1, f34_3, f34_4, f34_11, f37_0, f37_1, f37_2, f37_3, f38_0, f38_1, f38_2, f39_0, f39_1, f39_2, f41_0, f41_1, f41_2, f41_3, f41_4, f41_5, g34_7, g34_8, hro0, hro1, hro1_0, hro1_1, hro1_2, hro2, hro2_0, hro2_1, hro2_2, hro13, mTn0, mTn1, mTn2, mTn10]; first | decide | rfl) | decide | rfl) ?_
      refine mCall (s2 := (10, 144, 0, [some (.ref 34), some (.int ((ro 0).2 1)), none, none, none, none, none], [], 0, 0, (mSH, (mUp (mFl (mFl (mFl (mFl I 12 154 1000000000) 13 154 1000000000) 20 154 0) 21 154 0) 0 10 ((I 0 10) + 1)), L))) rfl ?_
      refine mB 3 (s2 := (10, 144, 5, [some (.ref 34), some (.int ((ro 0).2 1)), none, none, none, none, none], [.int 1584, .int 0, .int ((ro 0).2 1)], 0, 0, (mSH, (mUp (mFl (mFl (mFl (mFl I 12 154 1000000000) 13 154 1000000000) 20 154 0) 21 154 0) 0 10 ((I 0 10) + 1)), L))) rfl ?_
      refine mCall (s2 := (9, 112, 0, [some (.int ((ro 0).2 1)), some (.int 0), some (.int 1584)], [], 0, 0, (mSH, (mUp (mFl (mFl (mFl (mFl I 12 154 1000000000) 13 154 1000000000) 20 154 0) 21 154 0) 0 10 ((I 0 10) + 1)), L))) rfl ?_
      refine mB 2 (s2 := (9, 112, 2, [some (.int ((ro 0).2 1)), some (.int 0), some (.int 1584)], [.int 0, .int ((ro 0).2 1)], 0, 0, (mSH, (mUp (mFl (mFl (mFl (mFl I 12 154 1000000000) 13 154 1000000000) 20 154 0) 21 154 0) 0 10 ((I 0 10) + 1)), L))) rfl ?_
      refine mBF (s3 := (9, 112, 5, [some (.int ((ro 0).2 1)), some (.int 0), some (.int 1584)], [], 0, 0, (mSH, (mUp (mFl (mFl (mFl (mFl I 12 154 1000000000) 13 154 1000000000) 20 154 0) 21 154 0) 0 10 ((I 0 10) + 1)), L))) rfl (decide_eq_false (by
        have a0 := of_decide_eq_false c0
        have a1 := of_decide_eq_true c1
        simp only [f0_9, f0_10, f0_11, f1_2, f2_1, f4_1, f6_0, f6_1, f6_2, f6_3, f7_0, f7_1, f7_2, f7_3, f9_0, f9_1, f9_2, f25_0, f25_1, f26_1, f30_1, f32_1, f34_1, f34_3, f34_4, f34_11, f37_0, f37_1, f37_2, f37_3, f38_0, f38_1, f38_2, f39_0, f39_1, f39_2, f41_0, f41_1, f41_2, f41_3, f41_4, f41_5, g34_7, g34_8, hro0, hro1, hro1_0, hro1_1, hro1_2, hro2, hro2_0, hro2_1, hro2_2, hro13, mTn0, mTn1, mTn2, mTn10, Int32.lt_iff_toInt_lt, Int32.le_iff_toInt_le, ← Int32.toInt_inj, mLi0, mLi1, mLi2, mLi3, mLi4, mLi5, mLi6, mLi7, mLi8, mLi9, mLi16, mLi99, mLi120, mLi127, mLi1584, mLi999999, mLim] at a0 a1 ⊢
        omega)) ?_
      refine mB 2 (s2 := (9, 112, 7, [some (.int ((ro 0).2 1)), some (.int 0), some (.int 1584)], [.int 1584, .int ((ro 0).2 1)], 0, 0, (mSH, (mUp (mFl (mFl (mFl (mFl I 12 154 1000000000) 13 154 1000000000) 20 154 0) 21 154 0) 0 10 ((I 0 10) + 1)), L))) rfl ?_
      refine mBF (s3 := (9, 112, 10, [some (.int ((ro 0).2 1)), some (.int 0), some (.int 1584)], [], 0, 0, (mSH, (mUp (mFl (mFl (mFl (mFl I 12 154 1000000000) 13 154 1000000000) 20 154 0) 21 154 0) 0 10 ((I 0 10) + 1)), L))) rfl (decide_eq_false (by
        have a0 := of_decide_eq_false c0
        have a1 := of_decide_eq_true c1
        simp only [f0_9, f0_10, f0_11, f1_2, f2_1, f4_1, f6_0, f6_1, f6_2, f6_3, f7_0, f7_1, f7_2, f7_3, f9_0, f9_1, f9_2, f25_0, f25_1, f26_1, f30_1, f32_1, f34_1, f34_3, f34_4, f34_11, f37_0, f37_1, f37_2, f37_3, f38_0, f38_1, f38_2, f39_0, f39_1, f39_2, f41_0, f41_1, f41_2, f41_3, f41_4, f41_5, g34_7, g34_8, hro0, hro1, hro1_0, hro1_1, hro1_2, hro2, hro2_0, hro2_1, hro2_2, hro13, mTn0, mTn1, mTn2, mTn10, Int32.lt_iff_toInt_lt, Int32.le_iff_toInt_le, ← Int32.toInt_inj, mLi0, mLi1, mLi2, mLi3, mLi4, mLi5, mLi6, mLi7, mLi8, mLi9, mLi16, mLi99, mLi120, mLi127, mLi1584, mLi999999, mLim] at a0 a1 ⊢
        omega)) ?_
      refine mB 2 (s2 := (9, 112, 15, [some (.int ((ro 0).2 1)), some (.int 0), some (.int 1584)], [.int 1], 0, 0, (mSH, (mUp (mFl (mFl (mFl (mFl I 12 154 1000000000) 13 154 1000000000) 20 154 0) 21 154 0) 0 10 ((I 0 10) + 1)), L))) rfl ?_
      refine mRt (r := (some (.int 1))) (h := (mSH, (mUp (mFl (mFl (mFl (mFl I 12 154 1000000000) 13 154 1000000000) 20 154 0) 21 154 0) 0 10 ((I 0 10) + 1)), L)) rfl rfl ?_
      show mWP mTb_ mFT ro (10, 144, 8, [some (.ref 34), some (.int ((ro 0).2 1)), none, none, none, none, none], [.int 1], 0, 0, (mSH, (mUp (mFl (mFl (mFl (mFl I 12 154 1000000000) 13 154 1000000000) 20 154 0) 21 154 0) 0 10 ((I 0 10) + 1)), L)) _
      refine mBF (s3 := (10, 144, 18, [some (.ref 34), some (.int ((ro 0).2 1)), none, none, none, none, none], [], 0, 0, (mSH, (mUp (mFl (mFl (mFl (mFl I 12 154 1000000000) 13 154 1000000000) 20 154 0) 21 154 0) 0 10 ((I 0 10) + 1)), L))) rfl (by decide) ?_
      refine mB 1 (s2 := (10, 144, 19, [some (.ref 34), some (.int ((ro 0).2 1)), none, none, none, none, none], [.ref 34], 0, 0, (mSH, (mUp (mFl (mFl (mFl (mFl I 12 154 1000000000) 13 154 1000000000) 20 154 0) 21 154 0) 0 10 ((I 0 10) + 1)), L))) rfl ?_
      refine mCall (s2 := (9, 132, 0, [some (.ref 34)], [], 0, 0, (mSH, (mUp (mFl (mFl (mFl (mFl I 12 154 1000000000) 13 154 1000000000) 20 154 0) 21 154 0) 0 10 ((I 0 10) + 1)), L))) rfl ?_
      refine mB 4 (s2 := (9, 132, 6, [some (.ref 34)], [.int 0, .ref 38, .ref 34], 0, 0, (mSH, (mUp (mFl (mFl (mFl (mFl I 12 154 1000000000) 13 154 1000000000) 20 154 0) 21 154 0) 0 10 ((I 0 10) + 1)), L))) rfl ?_
      refine mRq (s2 := (9, 132, 7, [some (.ref 34)], [.int (I 38 0), .ref 34], 0, 0, (mSH, (mUp (mFl (mFl (mFl (mFl I 12 154 1000000000) 13 154 1000000000) 20 154 0) 21 154 0) 0 10 ((I 0 10) + 1)), L))) rfl (by decide) ?_
      refine mB 1 (s2 := (9, 132, 8, [some (.ref 34)], [.int 0, .int (I 38 0), .ref 34], 0, 0, (mSH, (mUp (mFl (mFl (mFl (mFl I 12 154 1000000000) 13 154 1000000000) 20 154 0) 21 154 0) 0 10 ((I 0 10) + 1)), L))) rfl ?_
      refine mCall (s2 := (8, 131, 0, [some (.ref 34), some (.int (I 38 0)), some (.int 0), none], [], 0, 0, (mSH, (mUp (mFl (mFl (mFl (mFl I 12 154 1000000000) 13 154 1000000000) 20 154 0) 21 154 0) 0 10 ((I 0 10) + 1)), L))) rfl ?_
      refine mB 1 (s2 := (8, 131, 1, [some (.ref 34), some (.int (I 38 0)), some (.int 0), none], [.ref 34], 0, 0, (mSH, (mUp (mFl (mFl (mFl (mFl I 12 154 1000000000) 13 154 1000000000) 20 154 0) 21 154 0) 0 10 ((I 0 10) + 1)), L))) rfl ?_
      refine mCall (s2 := (7, 130, 0, [some (.ref 34)], [], 0, 0, (mSH, (mUp (mFl (mFl (mFl (mFl I 12 154 1000000000) 13 154 1000000000) 20 154 0) 21 154 0) 0 10 ((I 0 10) + 1)), L))) rfl ?_
      refine mB 13 (s2 := (7, 130, 21, [some (.ref 34)], [.int (-1), .int 0, .ref 46], 0, 0, (mSH, (mUp (mUp (mUp (mUp (mFl (mFl (mFl (mFl I 12 154 1000000000) 13 154 1000000000) 20 154 0) 21 154 0) 0 10 ((I 0 10) + 1)) 34 20 0) 34 21 0) 34 22 0), L))) rfl ?_
      refine mRq (s2 := (7, 130, 22, [some (.ref 34)], [], 0, 0, (mSH, (mUp (mUp (mUp (mUp (mUp (mFl (mFl (mFl (mFl I 12 154 1000000000) 13 154 1000000000) 20 154 0) 21 154 0) 0 10 ((I 0 10) + 1)) 34 20 0) 34 21 0) 34 22 0) 46 0 (-1)), L))) rfl (by decide) ?_
      refine mB 4 (s2 := (7, 130, 29, [some (.ref 34)], [.int (-1), .int 10, .ref 46], 0, 0, (mSH, (mUp (mUp (mUp (mUp (mUp (mFl (mFl (mFl (mFl I 12 154 1000000000) 13 154 1000000000) 20 154 0) 21 154 0) 0 10 ((I 0 10) + 1)) 34 20 0) 34 21 0) 34 22 0) 46 0 (-1)), L))) rfl ?_
      refine mRq (s2 := (7, 130, 30, [some (.ref 34)], [], 0, 0, (mSH, (mUp (mUp (mUp (mUp (mUp (mUp (mFl (mFl (mFl (mFl I 12 154 1000000000) 13 154 1000000000) 20 154 0) 21 154 0) 0 10 ((I 0 10) + 1)) 34 20 0) 34 21 0) 34 22 0) 46 0 (-1)) 46 10 (-1)), L))) rfl (by decide) ?_
      refine mRt (r := none) (h := (mSH, (mUp (mUp (mUp (mUp (mUp (mUp (mFl (mFl (mFl (mFl I 12 154 1000000000) 13 154 1000000000) 20 154 0) 21 154 0) 0 10 ((I 0 10) + 1)) 34 20 0) 34 21 0) 34 22 0) 46 0 (-1)) 46 10 (-1)), L)) rfl rfl ?_
      show mWP mTb_ mFT ro (8, 131, 4, [some (.ref 34), some (.int (I 38 0)), some (.int 0), none], [], 0, 0, (mSH, (mUp (mUp (mUp (mUp (mUp (mUp (mFl (mFl (mFl (mFl I 12 154 1000000000) 13 154 1000000000) 20 154 0) 21 154 0) 0 10 ((I 0 10) + 1)) 34 20 0) 34 21 0) 34 22 0) 46 0 (-1)) 46 10 (-1)), L)) _
      refine mB 5 (s2 := (8, 131, 11, [some (.ref 34), some (.int (I 38 0)), some (.int 0), some (.int 0)], [.int (I 34 1), .int 0], 0, 0, (mSH, (mUp (mUp (mUp (mUp (mUp (mUp (mFl (mFl (mFl (mFl I 12 154 1000000000) 13 154 1000000000) 20 154 0) 21 154 0) 0 10 ((I 0 10) + 1)) 34 20 0) 34 21 0) 34 22 0) 46 0 (-1)) 46 10 (-1)), L))) rfl ?_
      refine mBT (s2 := (8, 131, 34, [some (.ref 34), some (.int (I 38 0)), some (.int 0), some (.int 0)], [], 0, 0, (mSH, (mUp (mUp (mUp (mUp (mUp (mUp (mFl (mFl (mFl (mFl I 12 154 1000000000) 13 154 1000000000) 20 154 0) 21 154 0) 0 10 ((I 0 10) + 1)) 34 20 0) 34 21 0) 34 22 0) 46 0 (-1)) 46 10 (-1)), L))) rfl (by first | (simp only [f0_9, f0_10, f0_11, f1_2, f2_1, f4_1, f6_0, f6_1, f6_2, f6_3, f7_0, f7_1, f7_2, f7_3, f9_0, f9_1, f9_2, f25_0, f25_1, f26_1, f30_1, f32_1, f34_1, f34_3, f34_4, f34_11, f37_0, f37_1, f37_2, f37_3, f38_0, f38_1, f38_2, f39_0, f39_1, f39_2, f41_0, f41_1, f41_2, f41_3, f41_4, f41_5, g34_7, g34_8, hro0, hro1, hro1_0, hro1_1, hro1_2, hro2, hro2_0, hro2_1, hro2_2, hro13, mTn0, mTn1, mTn2, mTn10]; first | decide | rfl) | decide | rfl) ?_
      refine mB 2 (s2 := (8, 131, 38, [some (.ref 34), some (.int (I 38 0)), some (.int 0), some (.int 0)], [.int 0], 0, 0, (mSH, (mUp (mUp (mUp (mUp (mUp (mUp (mFl (mFl (mFl (mFl I 12 154 1000000000) 13 154 1000000000) 20 154 0) 21 154 0) 0 10 ((I 0 10) + 1)) 34 20 0) 34 21 0) 34 22 0) 46 0 (-1)) 46 10 (-1)), L))) rfl ?_
      refine mBT (s2 := (8, 131, 45, [some (.ref 34), some (.int (I 38 0)), some (.int 0), some (.int 0)], [], 0, 0, (mSH, (mUp (mUp (mUp (mUp (mUp (mUp (mFl (mFl (mFl (mFl I 12 154 1000000000) 13 154 1000000000) 20 154 0) 21 154 0) 0 10 ((I 0 10) + 1)) 34 20 0) 34 21 0) 34 22 0) 46 0 (-1)) 46 10 (-1)), L))) rfl (by decide) ?_
      refine mB 1 (s2 := (8, 131, 46, [some (.ref 34), some (.int (I 38 0)), some (.int 0), some (.int 0)], [.int 0], 0, 0, (mSH, (mUp (mUp (mUp (mUp (mUp (mUp (mFl (mFl (mFl (mFl I 12 154 1000000000) 13 154 1000000000) 20 154 0) 21 154 0) 0 10 ((I 0 10) + 1)) 34 20 0) 34 21 0) 34 22 0) 46 0 (-1)) 46 10 (-1)), L))) rfl ?_
      refine mRt (r := (some (.int 0))) (h := (mSH, (mUp (mUp (mUp (mUp (mUp (mUp (mFl (mFl (mFl (mFl I 12 154 1000000000) 13 154 1000000000) 20 154 0) 21 154 0) 0 10 ((I 0 10) + 1)) 34 20 0) 34 21 0) 34 22 0) 46 0 (-1)) 46 10 (-1)), L)) rfl rfl ?_
      show mWP mTb_ mFT ro (9, 132, 11, [some (.ref 34)], [.int 0], 0, 0, (mSH, (mUp (mUp (mUp (mUp (mUp (mUp (mFl (mFl (mFl (mFl I 12 154 1000000000) 13 154 1000000000) 20 154 0) 21 154 0) 0 10 ((I 0 10) + 1)) 34 20 0) 34 21 0) 34 22 0) 46 0 (-1)) 46 10 (-1)), L)) _
      refine mRt (r := (some (.int 0))) (h := (mSH, (mUp (mUp (mUp (mUp (mUp (mUp (mFl (mFl (mFl (mFl I 12 154 1000000000) 13 154 1000000000) 20 154 0) 21 154 0) 0 10 ((I 0 10) + 1)) 34 20 0) 34 21 0) 34 22 0) 46 0 (-1)) 46 10 (-1)), L)) rfl rfl ?_
      show mWP mTb_ mFT ro (10, 144, 22, [some (.ref 34), some (.int ((ro 0).2 1)), none, none, none, none, none], [.int 0], 0, 0, (mSH, (mUp (mUp (mUp (mUp (mUp (mUp (mFl (mFl (mFl (mFl I 12 154 1000000000) 13 154 1000000000) 20 154 0) 21 154 0) 0 10 ((I 0 10) + 1)) 34 20 0) 34 21 0) 34 22 0) 46 0 (-1)) 46 10 (-1)), L)) _
      refine mBT (s2 := (10, 144, 25, [some (.ref 34), some (.int ((ro 0).2 1)), none, none, none, none, none], [], 0, 0, (mSH, (mUp (mUp (mUp (mUp (mUp (mUp (mFl (mFl (mFl (mFl I 12 154 1000000000) 13 154 1000000000) 20 154 0) 21 154 0) 0 10 ((I 0 10) + 1)) 34 20 0) 34 21 0) 34 22 0) 46 0 (-1)) 46 10 (-1)), L))) rfl (by decide) ?_
      refine mB 2 (s2 := (10, 144, 28, [some (.ref 34), some (.int ((ro 0).2 1)), none, none, none, none, none], [.int (-3), .ref 34], 0, 0, (mSH, (mUp (mUp (mUp (mUp (mUp (mUp (mFl (mFl (mFl (mFl I 12 154 1000000000) 13 154 1000000000) 20 154 0) 21 154 0) 0 10 ((I 0 10) + 1)) 34 20 0) 34 21 0) 34 22 0) 46 0 (-1)) 46 10 (-1)), L))) rfl ?_
      refine mCall (s2 := (9, 113, 0, [some (.ref 34), some (.int (-3))], [], 0, 0, (mSH, (mUp (mUp (mUp (mUp (mUp (mUp (mFl (mFl (mFl (mFl I 12 154 1000000000) 13 154 1000000000) 20 154 0) 21 154 0) 0 10 ((I 0 10) + 1)) 34 20 0) 34 21 0) 34 22 0) 46 0 (-1)) 46 10 (-1)), L))) rfl ?_
      refine mB 6 (s2 := (9, 113, 9, [some (.ref 34), some (.int (-3))], [.int 1, .ref 39, .int 1, .ref 39], 0, 0, (mSH, (mUp (mUp (mUp (mUp (mUp (mUp (mFl (mFl (mFl (mFl I 12 154 1000000000) 13 154 1000000000) 20 154 0) 21 154 0) 0 10 ((I 0 10) + 1)) 34 20 0) 34 21 0) 34 22 0) 46 0 (-1)) 46 10 (-1)), L))) rfl ?_
      refine mRq (s2 := (9, 113, 10, [some (.ref 34), some (.int (-3))], [.int (I 39 1), .int 1, .ref 39], 0, 0, (mSH, (mUp (mUp (mUp (mUp (mUp (mUp (mFl (mFl (mFl (mFl I 12 154 1000000000) 13 154 1000000000) 20 154 0) 21 154 0) 0 10 ((I 0 10) + 1)) 34 20 0) 34 21 0) 34 22 0) 46 0 (-1)) 46 10 (-1)), L))) rfl (by decide) ?_
      refine mB 2 (s2 := (9, 113, 12, [some (.ref 34), some (.int (-3))], [.int ((I 39 1) + 1), .int 1, .ref 39], 0, 0, (mSH, (mUp (mUp (mUp (mUp (mUp (mUp (mFl (mFl (mFl (mFl I 12 154 1000000000) 13 154 1000000000) 20 154 0) 21 154 0) 0 10 ((I 0 10) + 1)) 34 20 0) 34 21 0) 34 22 0) 46 0 (-1)) 46 10 (-1)), L))) rfl ?_
      refine mRq (s2 := (9, 113, 13, [some (.ref 34), some (.int (-3))], [], 0, 0, (mSH, (mUp (mUp (mUp (mUp (mUp (mUp (mUp (mFl (mFl (mFl (mFl I 12 154 1000000000) 13 154 1000000000) 20 154 0) 21 154 0) 0 10 ((I 0 10) + 1)) 34 20 0) 34 21 0) 34 22 0) 46 0 (-1)) 46 10 (-1)) 39 1 ((I 39 1) + 1)), L))) rfl (by decide) ?_
      refine mB 1 (s2 := (9, 113, 14, [some (.ref 34), some (.int (-3))], [.int (-3)], 0, 0, (mSH, (mUp (mUp (mUp (mUp (mUp (mUp (mUp (mFl (mFl (mFl (mFl I 12 154 1000000000) 13 154 1000000000) 20 154 0) 21 154 0) 0 10 ((I 0 10) + 1)) 34 20 0) 34 21 0) 34 22 0) 46 0 (-1)) 46 10 (-1)) 39 1 ((I 39 1) + 1)), L))) rfl ?_
      refine mRt (r := (some (.int (-3)))) (h := (mSH, (mUp (mUp (mUp (mUp (mUp (mUp (mUp (mFl (mFl (mFl (mFl I 12 154 1000000000) 13 154 1000000000) 20 154 0) 21 154 0) 0 10 ((I 0 10) + 1)) 34 20 0) 34 21 0) 34 22 0) 46 0 (-1)) 46 10 (-1)) 39 1 ((I 39 1) + 1)), L)) rfl (mRet_int rfl) ?_
      show mWP mTb_ mFT ro (10, 144, 31, [some (.ref 34), some (.int ((ro 0).2 1)), none, none, none, none, none], [.int (-3)], 0, 0, (mSH, (mUp (mUp (mUp (mUp (mUp (mUp (mUp (mFl (mFl (mFl (mFl I 12 154 1000000000) 13 154 1000000000) 20 154 0) 21 154 0) 0 10 ((I 0 10) + 1)) 34 20 0) 34 21 0) 34 22 0) 46 0 (-1)) 46 10 (-1)) 39 1 ((I 39 1) + 1)), L)) _
      refine mRt (r := (some (.int (-3)))) (h := (mSH, (mUp (mUp (mUp (mUp (mUp (mUp (mUp (mFl (mFl (mFl (mFl I 12 154 1000000000) 13 154 1000000000) 20 154 0) 21 154 0) 0 10 ((I 0 10) + 1)) 34 20 0) 34 21 0) 34 22 0) 46 0 (-1)) 46 10 (-1)) 39 1 ((I 39 1) + 1)), L)) rfl (mRet_int rfl) ?_
      show mWP mTb_ mFT ro (11, 163, 648, [some (.ref 1000), some (.ref 0), some (.ref 34), some (.int 0)], [.int (-3), .int (-3)], 62, 3336, (mSH, (mUp (mUp (mUp (mUp (mUp (mUp (mUp (mFl (mFl (mFl (mFl I 12 154 1000000000) 13 154 1000000000) 20 154 0) 21 154 0) 0 10 ((I 0 10) + 1)) 34 20 0) 34 21 0) 34 22 0) 46 0 (-1)) 46 10 (-1)) 39 1 ((I 39 1) + 1)), L)) _
      refine mBT (s2 := (11, 163, 808, [some (.ref 1000), some (.ref 0), some (.ref 34), some (.int 0)], [], 62, 3336, (mSH, (mUp (mUp (mUp (mUp (mUp (mUp (mUp (mFl (mFl (mFl (mFl I 12 154 1000000000) 13 154 1000000000) 20 154 0) 21 154 0) 0 10 ((I 0 10) + 1)) 34 20 0) 34 21 0) 34 22 0) 46 0 (-1)) 46 10 (-1)) 39 1 ((I 39 1) + 1)), L))) rfl (by decide) ?_
      exact h2 (of_decide_eq_false c0) (of_decide_eq_true c1)
    · refine mB 2 (s2 := (10, 94, 14, [some (.ref 0), some (.int ((ro 0).2 1))], [.int (-2), .ref 0], 0, 0, (mSH, I, L))) rfl ?_
      refine mCall (s2 := (9, 103, 0, [some (.ref 0), some (.int (-2))], [], 0, 0, (mSH, I, L))) rfl ?_
      refine mB 2 (s2 := (9, 103, 3, [some (.ref 0), some (.int (-2))], [.int (-2), .int (-2)], 0, 0, (mSH, I, L))) rfl ?_
      refine mBT (s2 := (9, 103, 6, [some (.ref 0), some (.int (-2))], [], 0, 0, (mSH, I, L))) rfl (by decide) ?_
      refine mB 8 (s2 := (9, 103, 49, [some (.ref 0), some (.int (-2))], [.int (-2)], 0, 0, (mSH, (mUp I 0 9 ((I 0 9) + 1)), L))) rfl ?_
      refine mRt (r := (some (.int (-2)))) (h := (mSH, (mUp I 0 9 ((I 0 9) + 1)), L)) rfl (mRet_int rfl) ?_
      show mWP mTb_ mFT ro (10, 94, 17, [some (.ref 0), some (.int ((ro 0).2 1))], [.int (-2)], 0, 0, (mSH, (mUp I 0 9 ((I 0 9) + 1)), L)) _
      refine mRt (r := (some (.int (-2)))) (h := (mSH, (mUp I 0 9 ((I 0 9) + 1)), L)) rfl (mRet_int rfl) ?_
      show mWP mTb_ mFT ro (11, 163, 639, [some (.ref 1000), some (.ref 0), some (.ref 34), some (.int 0)], [.int (-2)], 62, 3336, (mSH, (mUp I 0 9 ((I 0 9) + 1)), L)) _
      refine mB 5 (s2 := (11, 163, 644, [some (.ref 1000), some (.ref 0), some (.ref 34), some (.int 0)], [.int 1, .ref 1000, .ref 34, .int (-2)], 62, 3336, (mSH, (mUp I 0 9 ((I 0 9) + 1)), L))) rfl ?_
      refine mRq (s2 := (11, 163, 645, [some (.ref 1000), some (.ref 0), some (.ref 34), some (.int 0)], [.int ((ro 0).2 1), .ref 34, .int (-2)], 62, 3336, (mSH, (mUp I 0 9 ((I 0 9) + 1)), L))) rfl (by first | (simp only [f0_9, f0_10, f0_11, f1_2, f2_1, f4_1, f6_0, f6_1, f6_2, f6_3, f7_0, f7_1, f7_2, f7_3, f9_0, f9_1, f9_2, f25_0, f25_1, f26_1, f30_1, f32_1, f34_1, f34_3, f34_4, f34_11, f37_0, f37_1, f37_2, f37_3, f38_0, f38_1, f38_2, f39_0, f39_1, f39_2, f41_0, f41_1, f41_2, f41_3, f41_4, f41_5, g34_7, g34_8, hro0, hro1, hro1_0, hro1_1, hro1_2, hro2, hro2_0, hro2_1, hro2_2, hro13, mTn0, mTn1, mTn2, mTn10]; first | decide | rfl) | decide | rfl) ?_
      refine mCall (s2 := (10, 144, 0, [some (.ref 34), some (.int ((ro 0).2 1)), none, none, none, none, none], [], 0, 0, (mSH, (mUp I 0 9 ((I 0 9) + 1)), L))) rfl ?_
      refine mB 3 (s2 := (10, 144, 5, [some (.ref 34), some (.int ((ro 0).2 1)), none, none, none, none, none], [.int 1584, .int 0, .int ((ro 0).2 1)], 0, 0, (mSH, (mUp I 0 9 ((I 0 9) + 1)), L))) rfl ?_
      refine mCall (s2 := (9, 112, 0, [some (.int ((ro 0).2 1)), some (.int 0), some (.int 1584)], [], 0, 0, (mSH, (mUp I 0 9 ((I 0 9) + 1)), L))) rfl ?_
      refine mB 2 (s2 := (9, 112, 2, [some (.int ((ro 0).2 1)), some (.int 0), some (.int 1584)], [.int 0, .int ((ro 0).2 1)], 0, 0, (mSH, (mUp I 0 9 ((I 0 9) + 1)), L))) rfl ?_
      refine mBF (s3 := (9, 112, 5, [some (.int ((ro 0).2 1)), some (.int 0), some (.int 1584)], [], 0, 0, (mSH, (mUp I 0 9 ((I 0 9) + 1)), L))) rfl (decide_eq_false (by
        have a0 := of_decide_eq_false c0
        have a1 := of_decide_eq_false c1
        simp only [f0_9, f0_10, f0_11, f1_2, f2_1, f4_1, f6_0, f6_1, f6_2, f6_3, f7_0, f7_1, f7_2, f7_3, f9_0, f9_1, f9_2, f25_0, f25_1, f26_1, f30_1, f32_1, f34_1, f34_3, f34_4, f34_11, f37_0, f37_1, f37_2, f37_3, f38_0, f38_1, f38_2, f39_0, f39_1, f39_2, f41_0, f41_1, f41_2, f41_3, f41_4, f41_5, g34_7, g34_8, hro0, hro1, hro1_0, hro1_1, hro1_2, hro2, hro2_0, hro2_1, hro2_2, hro13, mTn0, mTn1, mTn2, mTn10, Int32.lt_iff_toInt_lt, Int32.le_iff_toInt_le, ← Int32.toInt_inj, mLi0, mLi1, mLi2, mLi3, mLi4, mLi5, mLi6, mLi7, mLi8, mLi9, mLi16, mLi99, mLi120, mLi127, mLi1584, mLi999999, mLim] at a0 a1 ⊢
        omega)) ?_
      refine mB 2 (s2 := (9, 112, 7, [some (.int ((ro 0).2 1)), some (.int 0), some (.int 1584)], [.int 1584, .int ((ro 0).2 1)], 0, 0, (mSH, (mUp I 0 9 ((I 0 9) + 1)), L))) rfl ?_
      refine mBT (s2 := (9, 112, 14, [some (.int ((ro 0).2 1)), some (.int 0), some (.int 1584)], [], 0, 0, (mSH, (mUp I 0 9 ((I 0 9) + 1)), L))) rfl (decide_eq_true (by
        have a0 := of_decide_eq_false c0
        have a1 := of_decide_eq_false c1
        simp only [f0_9, f0_10, f0_11, f1_2, f2_1, f4_1, f6_0, f6_1, f6_2, f6_3, f7_0, f7_1, f7_2, f7_3, f9_0, f9_1, f9_2, f25_0, f25_1, f26_1, f30_1, f32_1, f34_1, f34_3, f34_4, f34_11, f37_0, f37_1, f37_2, f37_3, f38_0, f38_1, f38_2, f39_0, f39_1, f39_2, f41_0, f41_1, f41_2, f41_3, f41_4, f41_5, g34_7, g34_8, hro0, hro1, hro1_0, hro1_1, hro1_2, hro2, hro2_0, hro2_1, hro2_2, hro13, mTn0, mTn1, mTn2, mTn10, Int32.lt_iff_toInt_lt, Int32.le_iff_toInt_le, ← Int32.toInt_inj, mLi0, mLi1, mLi2, mLi3, mLi4, mLi5, mLi6, mLi7, mLi8, mLi9, mLi16, mLi99, mLi120, mLi127, mLi1584, mLi999999, mLim] at a0 a1 ⊢
        omega)) ?_
      refine mB 1 (s2 := (9, 112, 15, [some (.int ((ro 0).2 1)), some (.int 0), some (.int 1584)], [.int 0], 0, 0, (mSH, (mUp I 0 9 ((I 0 9) + 1)), L))) rfl ?_
      refine mRt (r := (some (.int 0))) (h := (mSH, (mUp I 0 9 ((I 0 9) + 1)), L)) rfl rfl ?_
      show mWP mTb_ mFT ro (10, 144, 8, [some (.ref 34), some (.int ((ro 0).2 1)), none, none, none, none, none], [.int 0], 0, 0, (mSH, (mUp I 0 9 ((I 0 9) + 1)), L)) _
      refine mBT (s2 := (10, 144, 11, [some (.ref 34), some (.int ((ro 0).2 1)), none, none, none, none, none], [], 0, 0, (mSH, (mUp I 0 9 ((I 0 9) + 1)), L))) rfl (by decide) ?_
      refine mB 2 (s2 := (10, 144, 14, [some (.ref 34), some (.int ((ro 0).2 1)), none, none, none, none, none], [.int (-2), .ref 34], 0, 0, (mSH, (mUp I 0 9 ((I 0 9) + 1)), L))) rfl ?_
      refine mCall (s2 := (9, 113, 0, [some (.ref 34), some (.int (-2))], [], 0, 0, (mSH, (mUp I 0 9 ((I 0 9) + 1)), L))) rfl ?_
      refine mB 6 (s2 := (9, 113, 9, [some (.ref 34), some (.int (-2))], [.int 0, .ref 39, .int 0, .ref 39], 0, 0, (mSH, (mUp I 0 9 ((I 0 9) + 1)), L))) rfl ?_
      refine mRq (s2 := (9, 113, 10, [some (.ref 34), some (.int (-2))], [.int (I 39 0), .int 0, .ref 39], 0, 0, (mSH, (mUp I 0 9 ((I 0 9) + 1)), L))) rfl (by decide) ?_
      refine mB 2 (s2 := (9, 113, 12, [some (.ref 34), some (.int (-2))], [.int ((I 39 0) + 1), .int 0, .ref 39], 0, 0, (mSH, (mUp I 0 9 ((I 0 9) + 1)), L))) rfl ?_
      refine mRq (s2 := (9, 113, 13, [some (.ref 34), some (.int (-2))], [], 0, 0, (mSH, (mUp (mUp I 0 9 ((I 0 9) + 1)) 39 0 ((I 39 0) + 1)), L))) rfl (by decide) ?_
      refine mB 1 (s2 := (9, 113, 14, [some (.ref 34), some (.int (-2))], [.int (-2)], 0, 0, (mSH, (mUp (mUp I 0 9 ((I 0 9) + 1)) 39 0 ((I 39 0) + 1)), L))) rfl ?_
      refine mRt (r := (some (.int (-2)))) (h := (mSH, (mUp (mUp I 0 9 ((I 0 9) + 1)) 39 0 ((I 39 0) + 1)), L)) rfl (mRet_int rfl) ?_
      show mWP mTb_ mFT ro (10, 144, 17, [some (.ref 34), some (.int ((ro 0).2 1)), none, none, none, none, none], [.int (-2)], 0, 0, (mSH, (mUp (mUp I 0 9 ((I 0 9) + 1)) 39 0 ((I 39 0) + 1)), L)) _
      refine mRt (r := (some (.int (-2)))) (h := (mSH, (mUp (mUp I 0 9 ((I 0 9) + 1)) 39 0 ((I 39 0) + 1)), L)) rfl (mRet_int rfl) ?_
      show mWP mTb_ mFT ro (11, 163, 648, [some (.ref 1000), some (.ref 0), some (.ref 34), some (.int 0)], [.int (-2), .int (-2)], 62, 3336, (mSH, (mUp (mUp I 0 9 ((I 0 9) + 1)) 39 0 ((I 39 0) + 1)), L)) _
      refine mBT (s2 := (11, 163, 808, [some (.ref 1000), some (.ref 0), some (.ref 34), some (.int 0)], [], 62, 3336, (mSH, (mUp (mUp I 0 9 ((I 0 9) + 1)) 39 0 ((I 39 0) + 1)), L))) rfl (by decide) ?_
      exact h3 (of_decide_eq_false c0) (of_decide_eq_false c1)
theorem p1_rate {ro : Nat → Nat × (Nat → Int32)} {Q : mPo} {I : Nat → Nat → Int32} {L : Nat → Nat → Int64} (hF : mFF I L) (hR : mRO ro) (h1 : (((ro 0).2 1) < 0) → mWP mTb_ mFT ro (11, 163, 808, [some (.ref 1000), some (.ref 0), some (.ref 34), some (.int 0)], [], 62, 3336, (mSH, (mUp (mUp I 0 9 ((I 0 9) + 1)) 39 0 ((I 39 0) + 1)), L)) Q) (h2 : ¬ (((ro 0).2 1) < 0) → mWP mTb_ mFT ro (11, 163, 808, [some (.ref 1000), some (.ref 0), some (.ref 34), some (.int 0)], [], 62, 3336, (mSH, (mUp (mUp I 0 9 ((I 0 9) + 1)) 39 0 ((I 39 0) + 1)), L)) Q) : mWP mTb_ mFT ro (11, 163, 653, [some (.ref 1000), some (.ref 0), some (.ref 34), some (.int 0)], [], 62, 3336, (mSH, I, L)) Q := by
  obtain ⟨f0_9, f0_10, f0_11, f1_2, f2_1, f4_1, f6_0, f6_1, f6_2, f6_3, f7_0, f7_1, f7_2, f7_3, f9_0, f9_1, f9_2, f25_0, f25_1, f26_1, f30_1, f32_1, f34_1, f34_3, f34_4, f34_11, f37_0, f37_1, f37_2, f37_3, f38_0, f38_1, f38_2, f39_0, f39_1, f39_2, f41_0, f41_1, f41_2, f41_3, f41_4, f41_5, g34_7, g34_8⟩ := hF
  obtain ⟨hro0, hro1, hro1_0, hro1_1, hro1_2, hro2, hro2_0, hro2_1, hro2_2, hro13⟩ := hR
  refine mB 5 (s2 := (11, 163, 658, [some (.ref 1000), some (.ref 0), some (.ref 34), some (.int 0)], [.int 1, .ref 1000, .ref 0], 62, 3336, (mSH, I, L))) rfl ?_
  refine mRq (s2 := (11, 163, 659, [some (.ref 1000), some (.ref 0), some (.ref 34), some (.int 0)], [.int ((ro 0).2 1), .ref 0], 62, 3336, (mSH, I, L))) rfl (by first | (simp only [f0_9, f0_10, f0_11, f1_2, f2_1, f4_1, f6_0, f6_1, f6_2, f6_3, f7_0, f7_1, f7_2, f7_3, f9_0, f9_1, f9_2, f25_0, f25_1, f26_1, f30_1, f32_1, f34_1, f34_3, f34_4, f34_11, f37_0, f37_1, f37_2, f37_3, f38_0, f38_1, f38_2, f39_0, f39_1, f39_2, f41_0, f41_1, f41_2, f41_3, f41_4, f41_5, g34_7, g34_8, hro0, hro1, hro1_0, hro1_1, hro1_2, hro2, hro2_0, hro2_1, hro2_2, hro13, mTn0, mTn1, mTn2, mTn10]; first | decide | rfl) | decide | rfl) ?_
  refine mCall (s2 := (10, 95, 0, [some (.ref 0), some (.int ((ro 0).2 1))], [], 0, 0, (mSH, I, L))) rfl ?_
  refine mB 4 (s2 := (10, 95, 8, [some (.ref 0), some (.int ((ro 0).2 1))], [.int ((ro 0).2 1), .ref 4], 0, 0, (mSH, I, L))) rfl ?_
  refine mCall (s2 := (9, 41, 0, [some (.ref 4), some (.int ((ro 0).2 1))], [], 0, 0, (mSH, I, L))) rfl ?_
  refine mB 1 (s2 := (9, 41, 1, [some (.ref 4), some (.int ((ro 0).2 1))], [.int ((ro 0).2 1)], 0, 0, (mSH, I, L))) rfl ?_
  refine mBr (s2 := (9, 41, 16, [some (.ref 4), some (.int ((ro 0).2 1))], [], 0, 0, (mSH, I, L))) (s3 := (9, 41, 4, [some (.ref 4), some (.int ((ro 0).2 1))], [], 0, 0, (mSH, I, L))) rfl (fun c0 => ?_) (fun c0 => ?_)
  · refine mB 1 (s2 := (9, 41, 17, [some (.ref 4), some (.int ((ro 0).2 1))], [.int 0], 0, 0, (mSH, I, L))) rfl ?_
    refine mRt (r := (some (.int 0))) (h := (mSH, I, L)) rfl rfl ?_
    show mWP mTb_ mFT ro (10, 95, 11, [some (.ref 0), some (.int ((ro 0).2 1))], [.int 0], 0, 0, (mSH, I, L)) _
    refine mBT (s2 := (10, 95, 14, [some (.ref 0), some (.int ((ro 0).2 1))], [], 0, 0, (mSH, I, L))) rfl (by decide) ?_
    refine mB 2 (s2 := (10, 95, 17, [some (.ref 0), some (.int ((ro 0).2 1))], [.int (-2), .ref 0], 0, 0, (mSH, I, L))) rfl ?_
    refine mCall (s2 := (9, 103, 0, [some (.ref 0), some (.int (-2))], [], 0, 0, (mSH, I, L))) rfl ?_
    refine mB 2 (s2 := (9, 103, 3, [some (.ref 0), some (.int (-2))], [.int (-2), .int (-2)], 0, 0, (mSH, I, L))) rfl ?_
    refine mBT (s2 := (9, 103, 6, [some (.ref 0), some (.int (-2))], [], 0, 0, (mSH, I, L))) rfl (by decide) ?_
    refine mB 8 (s2 := (9, 103, 49, [some (.ref 0), some (.int (-2))], [.int (-2)], 0, 0, (mSH, (mUp I 0 9 ((I 0 9) + 1)), L))) rfl ?_
    refine mRt (r := (some (.int (-2)))) (h := (mSH, (mUp I 0 9 ((I 0 9) + 1)), L)) rfl (mRet_int rfl) ?_
    show mWP mTb_ mFT ro (10, 95, 20, [some (.ref 0), some (.int ((ro 0).2 1))], [.int (-2)], 0, 0, (mSH, (mUp I 0 9 ((I 0 9) + 1)), L)) _
    refine mRt (r := (some (.int (-2)))) (h := (mSH, (mUp I 0 9 ((I 0 9) + 1)), L)) rfl (mRet_int rfl) ?_
    show mWP mTb_ mFT ro (11, 163, 662, [some (.ref 1000), some (.ref 0), some (.ref 34), some (.int 0)], [.int (-2)], 62, 3336, (mSH, (mUp I 0 9 ((I 0 9) + 1)), L)) _
    refine mB 5 (s2 := (11, 163, 667, [some (.ref 1000), some (.ref 0), some (.ref 34), some (.int 0)], [.int 1, .ref 1000, .ref 34, .int (-2)], 62, 3336, (mSH, (mUp I 0 9 ((I 0 9) + 1)), L))) rfl ?_
    refine mRq (s2 := (11, 163, 668, [some (.ref 1000), some (.ref 0), some (.ref 34), some (.int 0)], [.int ((ro 0).2 1), .ref 34, .int (-2)], 62, 3336, (mSH, (mUp I 0 9 ((I 0 9) + 1)), L))) rfl (by first | (simp only [f0_9, f0_10, f0_11, f1_2, f2_1, f4_1, f6_0, f6_1, f6_2, f6_3, f7_0, f7_1, f7_2, f7_3, f9_0, f9_1, f9_2, f25_0, f25_1, f26_1, f30_1, f32_1, f34_1, f34_3, f34_4, f34_11, f37_0, f37_1, f37_2, f37_3, f38_0, f38_1, f38_2, f39_0, f39_1, f39_2, f41_0, f41_1, f41_2, f41_3, f41_4, f41_5, g34_7, g34_8, hro0, hro1, hro1_0, hro1_1, hro1_2, hro2, hro2_0, hro2_1, hro2_2, hro13, mTn0, mTn1, mTn2, mTn10]; first | decide | rfl) | decide | rfl) ?_
    refine mCall (s2 := (10, 146, 0, [some (.ref 34), some (.int ((ro 0).2 1))], [], 0, 0, (mSH, (mUp I 0 9 ((I 0 9) + 1)), L))) rfl ?_
    refine mB 2 (s2 := (10, 146, 2, [some (.ref 34), some (.int ((ro 0).2 1))], [.int ((ro 0).2 1), .ref 34], 0, 0, (mSH, (mUp I 0 9 ((I 0 9) + 1)), L))) rfl ?_
    refine mCall (s2 := (9, 115, 0, [some (.ref 34), some (.int ((ro 0).2 1))], [], 0, 0, (mSH, (mUp I 0 9 ((I 0 9) + 1)), L))) rfl ?_
    refine mB 6 (s2 := (9, 115, 8, [some (.ref 34), some (.int ((ro 0).2 1))], [.int ((I 34 3) - 1), .int 0, .int ((ro 0).2 1)], 0, 0, (mSH, (mUp I 0 9 ((I 0 9) + 1)), L))) rfl ?_
    refine mCall (s2 := (8, 112, 0, [some (.int ((ro 0).2 1)), some (.int 0), some (.int ((I 34 3) - 1))], [], 0, 0, (mSH, (mUp I 0 9 ((I 0 9) + 1)), L))) rfl ?_
    refine mB 2 (s2 := (8, 112, 2, [some (.int ((ro 0).2 1)), some (.int 0), some (.int ((I 34 3) - 1))], [.int 0, .int ((ro 0).2 1)], 0, 0, (mSH, (mUp I 0 9 ((I 0 9) + 1)), L))) rfl ?_
    refine mBT (s2 := (8, 112, 14, [some (.int ((ro 0).2 1)), some (.int 0), some (.int ((I 34 3) - 1))], [], 0, 0, (mSH, (mUp I 0 9 ((I 0 9) + 1)), L))) rfl (decide_eq_true (by
        have a0 := of_decide_eq_true c0
        simp only [f0_9, f0_10, f0_11, f1_2, f2_1, f4_1, f6_0, f6_1, f6_2, f6_3, f7_0, f7_1, f7_2, f7_3, f9_0, f9_1, f9_2, f25_0, f25_1, f26_1, f30_1, f32_1, f34_1, f34_3, f34_4, f34_11, f37_0, f37_1, f37_2, f37_3, f38_0, f38_1, f38_2, f39_0, f39_1, f39_2, f41_0, f41_1, f41_2, f41_3, f41_4, f41_5, g34_7, g34_8, hro0, hro1, hro1_0, hro1_1, hro1_2, hro2, hro2_0, hro2_1, hro2_2, hro13, mTn0, mTn1, mTn2, mTn10, Int32.lt_iff_toInt_lt, Int32.le_iff_toInt_le, ← Int32.toInt_inj, mLi0, mLi1, mLi2, mLi3, mLi4, mLi5, mLi6, mLi7, mLi8, mLi9, mLi16, mLi99, mLi120, mLi127, mLi1584, mLi999999, mLim] at a0 ⊢
        omega)) ?_
    refine mB 1 (s2 := (8, 112, 15, [some (.int ((ro 0).2 1)), some (.int 0), some (.int ((I 34 3) - 1))], [.int 0], 0, 0, (mSH, (mUp I 0 9 ((I 0 9) + 1)), L))) rfl ?_
    refine mRt (r := (some (.int 0))) (h := (mSH, (mUp I 0 9 ((I 0 9) + 1)), L)) rfl rfl ?_
    show mWP mTb_ mFT ro (9, 115, 11, [some (.ref 34), some (.int ((ro 0).2 1))], [.int 0], 0, 0, (mSH, (mUp I 0 9 ((I 0 9) + 1)), L)) _
    refine mRt (r := (some (.int 0))) (h := (mSH, (mUp I 0 9 ((I 0 9) + 1)), L)) rfl rfl ?_
    show mWP mTb_ mFT ro (10, 146, 5, [some (.ref 34), some (.int ((ro 0).2 1))], [.int 0], 0, 0, (mSH, (mUp I 0 9 ((I 0 9) + 1)), L)) _
    refine mBT (s2 := (10, 146, 8, [some (.ref 34), some (.int ((ro 0).2 1))], [], 0, 0, (mSH, (mUp I 0 9 ((I 0 9) + 1)), L))) rfl (by decide) ?_
    refine mB 2 (s2 := (10, 146, 11, [some (.ref 34), some (.int ((ro 0).2 1))], [.int (-2), .ref 34], 0, 0, (mSH, (mUp I 0 9 ((I 0 9) + 1)), L))) rfl ?_
    refine mCall (s2 := (9, 113, 0, [some (.ref 34), some (.int (-2))], [], 0, 0, (mSH, (mUp I 0 9 ((I 0 9) + 1)), L))) rfl ?_
    refine mB 6 (s2 := (9, 113, 9, [some (.ref 34), some (.int (-2))], [.int 0, .ref 39, .int 0, .ref 39], 0, 0, (mSH, (mUp I 0 9 ((I 0 9) + 1)), L))) rfl ?_
    refine mRq (s2 := (9, 113, 10, [some (.ref 34), some (.int (-2))], [.int (I 39 0), .int 0, .ref 39], 0, 0, (mSH, (mUp I 0 9 ((I 0 9) + 1)), L))) rfl (by decide) ?_
    refine mB 2 (s2 := (9, 113, 12, [some (.ref 34), some (.int (-2))], [.int ((I 39 0) + 1), .int 0, .ref 39], 0, 0, (mSH, (mUp I 0 9 ((I 0 9) + 1)), L))) rfl ?_
    refine mRq (s2 := (9, 113, 13, [some (.ref 34), some (.int (-2))], [], 0, 0, (mSH, (mUp (mUp I 0 9 ((I 0 9) + 1)) 39 0 ((I 39 0) + 1)), L))) rfl (by decide) ?_
    refine mB 1 (s2 := (9, 113, 14, [some (.ref 34), some (.int (-2))], [.int (-2)], 0, 0, (mSH, (mUp (mUp I 0 9 ((I 0 9) + 1)) 39 0 ((I 39 0) + 1)), L))) rfl ?_
    refine mRt (r := (some (.int (-2)))) (h := (mSH, (mUp (mUp I 0 9 ((I 0 9) + 1)) 39 0 ((I 39 0) + 1)), L)) rfl (mRet_int rfl) ?_
    show mWP mTb_ mFT ro (10, 146, 14, [some (.ref 34), some (.int ((ro 0).2 1))], [.int (-2)], 0, 0, (mSH, (mUp (mUp I 0 9 ((I 0 9) + 1)) 39 0 ((I 39 0) + 1)), L)) _
    refine mRt (r := (some (.int (-2)))) (h := (mSH, (mUp (mUp I 0 9 ((I 0 9) + 1)) 39 0 ((I 39 0) + 1)), L)) rfl (mRet_int rfl) ?_
    show mWP mTb_ mFT ro (11, 163, 671, [some (.ref 1000), some (.ref 0), some (.ref 34), some (.int 0)], [.int (-2), .int (-2)], 62, 3336, (mSH, (mUp (mUp I 0 9 ((I 0 9) + 1)) 39 0 ((I 39 0) + 1)), L)) _
    refine mBT (s2 := (11, 163, 808, [some (.ref 1000), some (.ref 0), some (.ref 34), some (.int 0)], [], 62, 3336, (mSH, (mUp (mUp I 0 9 ((I 0 9) + 1)) 39 0 ((I 39 0) + 1)), L))) rfl (by decide) ?_
    exact h1 (of_decide_eq_true c0)
  · refine mB 3 (s2 := (9, 41, 9, [some (.ref 4), some (.int ((ro 0).2 1))], [.int (I 4 1), .int ((ro 0).2 1)], 0, 0, (mSH, I, L))) rfl ?_
    refine mBT (s2 := (9, 41, 16, [some (.ref 4), some (.int ((ro 0).2 1))], [], 0, 0, (mSH, I, L))) rfl (decide_eq_true (by
        have a0 := of_decide_eq_false c0
        simp only [f0_9, f0_10, f0_11, f1_2, f2_1, f4_1, f6_0, f6_1, f6_2, f6_3, f7_0, f7_1, f7_2, f7_3, f9_0, f9_1, f9_2, f25_0, f25_1, f26_1, f30_1, f32_1, f34_1, f34_3, f34_4, f34_11, f37_0, f37_1, f37_2, f37_3, f38_0, f38_1, f38_2, f39_0, f39_1, f39_2, f41_0, f41_1, f41_2, f41_3, f41_4, f41_5, g34_7, g34_8, hro0, hro1, hro1_0, hro1_1, hro1_2, hro2, hro2_0, hro2_1, hro2_2, hro13, mTn0, mTn1, mTn2, mTn10, Int32.lt_iff_toInt_lt, Int32.le_iff_toInt_le, ← Int32.toInt_inj, mLi0, mLi1, mLi2, mLi3, mLi4, mLi5, mLi6, mLi7, mLi8, mLi9, mLi16, mLi99, mLi120, mLi127, mLi1584, mLi999999, mLim] at a0 ⊢
        omega)) ?_
    refine mB 1 (s2 := (9, 41, 17, [some (.ref 4), some (.int ((ro 0).2 1))], [.int 0], 0, 0, (mSH, I, L))) rfl ?_
    refine mRt (r := (some (.int 0))) (h := (mSH, I, L)) rfl rfl ?_
    show mWP mTb_ mFT ro (10, 95, 11, [some (.ref 0), some (.int ((ro 0).2 1))], [.int 0], 0, 0, (mSH, I, L)) _
    refine mBT (s2 := (10, 95, 14, [some (.ref 0), some (.int ((ro 0).2 1))], [], 0, 0, (mSH, I, L))) rfl (by decide) ?_
    refine mB 2 (s2 := (10, 95, 17, [some (.ref 0), some (.int ((ro 0).2 1))], [.int (-2), .ref 0], 0, 0, (mSH, I, L))) rfl ?_
    refine mCall (s2 := (9, 103, 0, [some (.ref 0), some (.int (-2))], [], 0, 0, (mSH, I, L))) rfl ?_
    refine mB 2 (s2 := (9, 103, 3, [some (.ref 0), some (.int (-2))], [.int (-2), .int (-2)], 0, 0, (mSH, I, L))) rfl ?_
    refine mBT (s2 := (9, 103, 6, [some (.ref 0), some (.int (-2))], [], 0, 0, (mSH, I, L))) rfl (by decide) ?_
    refine mB 8 (s2 := (9, 103, 49, [some (.ref 0), some (.int (-2))], [.int (-2)], 0, 0, (mSH, (mUp I 0 9 ((I 0 9) + 1)), L))) rfl ?_
    refine mRt (r := (some (.int (-2)))) (h := (mSH, (mUp I 0 9 ((I 0 9) + 1)), L)) rfl (mRet_int rfl) ?_
    show mWP mTb_ mFT ro (10, 95, 20, [some (.ref 0), some (.int ((ro 0).2 1))], [.int (-2)], 0, 0, (mSH, (mUp I 0 9 ((I 0 9) + 1)), L)) _
    refine mRt (r := (some (.int (-2)))) (h := (mSH, (mUp I 0 9 ((I 0 9) + 1)), L)) rfl (mRet_int rfl) ?_
    show mWP mTb_ mFT ro (11, 163, 662, [some (.ref 1000), some (.ref 0), some (.ref 34), some (.int 0)], [.int (-2)], 62, 3336, (mSH, (mUp I 0 9 ((I 0 9) + 1)), L)) _
    refine mB 5 (s2 := (11, 163, 667, [some (.ref 1000), some (.ref 0), some (.ref 34), some (.int 0)], [.int 1, .ref 1000, .ref 34, .int (-2)], 62, 3336, (mSH, (mUp I 0 9 ((I 0 9) + 1)), L))) rfl ?_
    refine mRq (s2 := (11, 163, 668, [some (.ref 1000), some (.ref 0), some (.ref 34), some (.int 0)], [.int ((ro 0).2 1), .ref 34, .int (-2)], 62, 3336, (mSH, (mUp I 0 9 ((I 0 9) + 1)), L))) rfl (by first | (simp only [f0_9, f0_10, f0_11, f1_2, f2_1, f4_1, f6_0, f6_1, f6_2, f6_3, f7_0, f7_1, f7_2, f7_3, f9_0, f9_1, f9_2, f25_0, f25_1, f26_1, f30_1, f32_1, f34_1, f34_3, f34_4, f34_11, f37_0, f37_1, f37_2, f37_3, f38_0, f38_1, f38_2, f39_0, f39_1, f39_2, f41_0, f41_1, f41_2, f41_3, f41_4, f41_5, g34_7, g34_8, hro0, hro1, hro1_0, hro1_1, hro1_2, hro2, hro2_0, hro2_1, hro2_2, hro13, mTn0, mTn1, mTn2, mTn10]; first | decide | rfl) | decide | rfl) ?_
    refine mCall (s2 := (10, 146, 0, [some (.ref 34), some (.int ((ro 0).2 1))], [], 0, 0, (mSH, (mUp I 0 9 ((I 0 9) + 1)), L))) rfl ?_
    refine mB 2 (s2 := (10, 146, 2, [some (.ref 34), some (.int ((ro 0).2 1))], [.int ((ro 0).2 1), .ref 34], 0, 0, (mSH, (mUp I 0 9 ((I 0 9) + 1)), L))) rfl ?_
    refine mCall (s2 := (9, 115, 0, [some (.ref 34), some (.int ((ro 0).2 1))], [], 0, 0, (mSH, (mUp I 0 9 ((I 0 9) + 1)), L))) rfl ?_
    refine mB 6 (s2 := (9, 115, 8, [some (.ref 34), some (.int ((ro 0).2 1))], [.int ((I 34 3) - 1), .int 0, .int ((ro 0).2 1)], 0, 0, (mSH, (mUp I 0 9 ((I 0 9) + 1)), L))) rfl ?_
    refine mCall (s2 := (8, 112, 0, [some (.int ((ro 0).2 1)), some (.int 0), some (.int ((I 34 3) - 1))], [], 0, 0, (mSH, (mUp I 0 9 ((I 0 9) + 1)), L))) rfl ?_
    refine mB 2 (s2 := (8, 112, 2, [some (.int ((ro 0).2 1)), some (.int 0), some (.int ((I 34 3) - 1))], [.int 0, .int ((ro 0).2 1)], 0, 0, (mSH, (mUp I 0 9 ((I 0 9) + 1)), L))) rfl ?_
    refine mBF (s3 := (8, 112, 5, [some (.int ((ro 0).2 1)), some (.int 0), some (.int ((I 34 3) - 1))], [], 0, 0, (mSH, (mUp I 0 9 ((I 0 9) + 1)), L))) rfl (decide_eq_false (by
        have a0 := of_decide_eq_false c0
        simp only [f0_9, f0_10, f0_11, f1_2, f2_1, f4_1, f6_0, f6_1, f6_2, f6_3, f7_0, f7_1, f7_2, f7_3, f9_0, f9_1, f9_2, f25_0, f25_1, f26_1, f30_1, f32_1, f34_1, f34_3, f34_4, f34_11, f37_0, f37_1, f37_2, f37_3, f38_0, f38_1, f38_2, f39_0, f39_1, f39_2, f41_0, f41_1, f41_2, f41_3, f41_4, f41_5, g34_7, g34_8, hro0, hro1, hro1_0, hro1_1, hro1_2, hro2, hro2_0, hro2_1, hro2_2, hro13, mTn0, mTn1, mTn2, mTn10, Int32.lt_iff_toInt_lt, Int32.le_iff_toInt_le, ← Int32.toInt_inj, mLi0, mLi1, mLi2, mLi3, mLi4, mLi5, mLi6, mLi7, mLi8, mLi9, mLi16, mLi99, mLi120, mLi127, mLi1584, mLi999999, mLim] at a0 ⊢
        omega)) ?_
    refine mB 2 (s2 := (8, 112, 7, [some (.int ((ro 0).2 1)), some (.int 0), some (.int ((I 34 3) - 1))], [.int ((I 34 3) - 1), .int ((ro 0).2 1)], 0, 0, (mSH, (mUp I 0 9 ((I 0 9) + 1)), L))) rfl ?_
    refine mBT (s2 := (8, 112, 14, [some (.int ((ro 0).2 1)), some (.int 0), some (.int ((I 34 3) - 1))], [], 0, 0, (mSH, (mUp I 0 9 ((I 0 9) + 1)), L))) rfl (decide_eq_true (by
        have a0 := of_decide_eq_false c0
        simp only [f0_9, f0_10, f0_11, f1_2, f2_1, f4_1, f6_0, f6_1, f6_2, f6_3, f7_0, f7_1, f7_2, f7_3, f9_0, f9_1, f9_2, f25_0, f25_1, f26_1, f30_1, f32_1, f34_1, f34_3, f34_4, f34_11, f37_0, f37_1, f37_2, f37_3, f38_0, f38_1, f38_2, f39_0, f39_1, f39_2, f41_0, f41_1, f41_2, f41_3, f41_4, f41_5, g34_7, g34_8, hro0, hro1, hro1_0, hro1_1, hro1_2, hro2, hro2_0, hro2_1, hro2_2, hro13, mTn0, mTn1, mTn2, mTn10, Int32.lt_iff_toInt_lt, Int32.le_iff_toInt_le, ← Int32.toInt_inj, mLi0, mLi1, mLi2, mLi3, mLi4, mLi5, mLi6, mLi7, mLi8, mLi9, mLi16, mLi99, mLi120, mLi127, mLi1584, mLi999999, mLim] at a0 ⊢
        omega)) ?_
    refine mB 1 (s2 := (8, 112, 15, [some (.int ((ro 0).2 1)), some (.int 0), some (.int ((I 34 3) - 1))], [.int 0], 0, 0, (mSH, (mUp I 0 9 ((I 0 9) + 1)), L))) rfl ?_
    refine mRt (r := (some (.int 0))) (h := (mSH, (mUp I 0 9 ((I 0 9) + 1)), L)) rfl rfl ?_
    show mWP mTb_ mFT ro (9, 115, 11, [some (.ref 34), some (.int ((ro 0).2 1))], [.int 0], 0, 0, (mSH, (mUp I 0 9 ((I 0 9) + 1)), L)) _
    refine mRt (r := (some (.int 0))) (h := (mSH, (mUp I 0 9 ((I 0 9) + 1)), L)) rfl rfl ?_
    show mWP mTb_ mFT ro (10, 146, 5, [some (.ref 34), some (.int ((ro 0).2 1))], [.int 0], 0, 0, (mSH, (mUp I 0 9 ((I 0 9) + 1)), L)) _
    refine mBT (s2 := (10, 146, 8, [some (.ref 34), some (.int ((ro 0).2 1))], [], 0, 0, (mSH, (mUp I 0 9 ((I 0 9) + 1)), L))) rfl (by decide) ?_
    refine mB 2 (s2 := (10, 146, 11, [some (.ref 34), some (.int ((ro 0).2 1))], [.int (-2), .ref 34], 0, 0, (mSH, (mUp I 0 9 ((I 0 9) + 1)), L))) rfl ?_
    refine mCall (s2 := (9, 113, 0, [some (.ref 34), some (.int (-2))], [], 0, 0, (mSH, (mUp I 0 9 ((I 0 9) + 1)), L))) rfl ?_
    refine mB 6 (s2 := (9, 113, 9, [some (.ref 34), some (.int (-2))], [.int 0, .ref 39, .int 0, .ref 39], 0, 0, (mSH, (mUp I 0 9 ((I 0 9) + 1)), L))) rfl ?_
    refine mRq (s2 := (9, 113, 10, [some (.ref 34), some (.int (-2))], [.int (I 39 0), .int 0, .ref 39], 0, 0, (mSH, (mUp I 0 9 ((I 0 9) + 1)), L))) rfl (by decide) ?_
    refine mB 2 (s2 := (9, 113, 12, [some (.ref 34), some (.int (-2))], [.int ((I 39 0) + 1), .int 0, .ref 39], 0, 0, (mSH, (mUp I 0 9 ((I 0 9) + 1)), L))) rfl ?_
    refine mRq (s2 := (9, 113, 13, [some (.ref 34), some (.int (-2))], [], 0, 0, (mSH, (mUp (mUp I 0 9 ((I 0 9) + 1)) 39 0 ((I 39 0) + 1)), L))) rfl (by decide) ?_
    refine mB 1 (s2 := (9, 113, 14, [some (.ref 34), some (.int (-2))], [.int (-2)], 0, 0, (mSH, (mUp (mUp I 0 9 ((I 0 9) + 1)) 39 0 ((I 39 0) + 1)), L))) rfl ?_
    refine mRt (r := (some (.int (-2)))) (h := (mSH, (mUp (mUp I 0 9 ((I 0 9) + 1)) 39 0 ((I 39 0) + 1)), L)) rfl (mRet_int rfl) ?_
    show mWP mTb_ mFT ro (10, 146, 14, [some (.ref 34), some (.int ((ro 0).2 1))], [.int (-2)], 0, 0, (mSH, (mUp (mUp I 0 9 ((I 0 9) + 1)) 39 0 ((I 39 0) + 1)), L)) _
    refine mRt (r := (some (.int (-2)))) (h := (mSH, (mUp (mUp I 0 9 ((I 0 9) + 1)) 39 0 ((I 39 0) + 1)), L)) rfl (mRet_int rfl) ?_
    show mWP mTb_ mFT ro (11, 163, 671, [some (.ref 1000), some (.ref 0), some (.ref 34), some (.int 0)], [.int (-2), .int (-2)], 62, 3336, (mSH, (mUp (mUp I 0 9 ((I 0 9) + 1)) 39 0 ((I 39 0) + 1)), L)) _
    refine mBT (s2 := (11, 163, 808, [some (.ref 1000), some (.ref 0), some (.ref 34), some (.int 0)], [], 62, 3336, (mSH, (mUp (mUp I 0 9 ((I 0 9) + 1)) 39 0 ((I 39 0) + 1)), L))) rfl (by decide) ?_
    exact h2 (of_decide_eq_false c0)
theorem p1_fastest {ro : Nat → Nat × (Nat → Int32)} {Q : mPo} {I : Nat → Nat → Int32} {L : Nat → Nat → Int64} (hF : mFF I L) (hR : mRO ro) (h1 : (((ro 0).2 1) = 0) → mWP mTb_ mFT ro (11, 163, 808, [some (.ref 1000), some (.ref 0), some (.ref 34), some (.int 0)], [], 62, 3336, (mSH, (mUp (mUp (mUp (mUp (mUp (mUp (mUp (mFl (mFl (mFl (mFl I 12 154 1000000000) 13 154 1000000000) 20 154 0) 21 154 0) 0 10 ((I 0 10) + 1)) 34 20 0) 34 21 0) 34 22 0) 46 0 (-1)) 46 10 (-1)) 39 1 ((I 39 1) + 1)), L)) Q) (h2 : ¬ (((ro 0).2 1) = 0) → (((ro 0).2 1) = 1) → mWP mTb_ mFT ro (11, 163, 808, [some (.ref 1000), some (.ref 0), some (.ref 34), some (.int 0)], [], 62, 3336, (mSH, (mUp (mUp (mUp (mUp (mUp (mUp (mUp (mFl (mFl (mFl (mFl I 12 154 1000000000) 13 154 1000000000) 20 154 0) 21 154 0) 0 10 ((I 0 10) + 1)) 34 20 0) 34 21 0) 34 22 0) 46 0 (-1)) 46 10 (-1)) 39 1 ((I 39 1) + 1)), L)) Q) (h3 : ¬ (((ro 0).2 1) = 0) → ¬ (((ro 0).2 1) = 1) → (((ro 0).2 1) < 0) → mWP mTb_ mFT ro (11, 163, 808, [some (.ref 1000), some (.ref 0), some (.ref 34), some (.int 0)], [], 62, 3336, (mSH, (mUp (mUp I 0 9 ((I 0 9) + 1)) 39 0 ((I 39 0) + 1)), L)) Q) (h4 : ¬ (((ro 0).2 1) = 0) → ¬ (((ro 0).2 1) = 1) → ¬ (((ro 0).2 1) < 0) → mWP mTb_ mFT ro (11, 163, 808, [some (.ref 1000), some (.ref 0), some (.ref 34), some (.int 0)], [], 62, 3336, (mSH, (mUp (mUp I 0 9 ((I 0 9) + 1)) 39 0 ((I 39 0) + 1)), L)) Q) : mWP mTb_ mFT ro (11, 163, 676, [some (.ref 1000), some (.ref 0), some (.ref 34), some (.int 0)], [], 62, 3336, (mSH, I, L)) Q := by
  obtain ⟨f0_9, f0_10, f0_11, f1_2, f2_1, f4_1, f6_0, f6_1, f6_2, f6_3, f7_0, f7_1, f7_2, f7_3, f9_0, f9_1, f9_2, f25_0, f25_1, f26_1, f30_1, f32_1, f34_1, f34_3, f34_4, f34_11, f37_0, f37_1, f37_2, f37_3, f38_0, f38_1, f38_2, f39_0, f39_1, f39_2, f41_0, f41_1, f41_2, f41_3, f41_4, f41_5, g34_7, g34_8⟩ := hF
  obtain ⟨hro0, hro1, hro1_0, hro1_1, hro1_2, hro2, hro2_0, hro2_1, hro2_2, hro13⟩ := hR
  refine mB 5 (s2 := (11, 163, 681, [some (.ref 1000), some (.ref 0), some (.ref 34), some (.int 0)], [.int 1, .ref 1000, .ref 0], 62, 3336, (mSH, I, L))) rfl ?_
  refine mRq (s2 := (11, 163, 682, [some (.ref 1000), some (.ref 0), some (.ref 34), some (.int 0)], [.int ((ro 0).2 1), .ref 0], 62, 3336, (mSH, I, L))) rfl (by first | (simp only [f0_9, f0_10, f0_11, f1_2, f2_1, f4_1, f6_0, f6_1, f6_2, f6_3, f7_0, f7_1, f7_2, f7_3, f9_0, f9_1, f9_2, f25_0, f25_1, f26_1, f30_1, f32_1, f34_1, f34_3, f34_4, f34_11, f37_0, f37_1, f37_2, f37_3, f38_0, f38_1, f38_2, f39_0, f39_1, f39_2, f41_0, f41_1, f41_2, f41_3, f41_4, f41_5, g34_7, g34_8, hro0, hro1, hro1_0, hro1_1, hro1_2, hro2, hro2_0, hro2_1, hro2_2, hro13, mTn0, mTn1, mTn2, mTn10]; first | decide | rfl) | decide | rfl) ?_
  refine mCall (s2 := (10, 96, 0, [some (.ref 0), some (.int ((ro 0).2 1))], [], 0, 0, (mSH, I, L))) rfl ?_
  refine mB 1 (s2 := (10, 96, 1, [some (.ref 0), some (.int ((ro 0).2 1))], [.int ((ro 0).2 1)], 0, 0, (mSH, I, L))) rfl ?_
  refine mCall (s2 := (9, 108, 0, [some (.int ((ro 0).2 1))], [], 0, 0, (mSH, I, L))) rfl ?_
  refine mB 1 (s2 := (9, 108, 1, [some (.int ((ro 0).2 1))], [.int ((ro 0).2 1)], 0, 0, (mSH, I, L))) rfl ?_
  refine mBr (s2 := (9, 108, 9, [some (.int ((ro 0).2 1))], [], 0, 0, (mSH, I, L))) (s3 := (9, 108, 4, [some (.int ((ro 0).2 1))], [], 0, 0, (mSH, I, L))) rfl (fun c0 => ?_) (fun c0 => ?_)
  · refine mB 2 (s2 := (9, 108, 14, [some (.int ((ro 0).2 1))], [.int 1], 0, 0, (mSH, I, L))) rfl ?_
    refine mRt (r := (some (.int 1))) (h := (mSH, I, L)) rfl rfl ?_
    show mWP mTb_ mFT ro (10, 96, 4, [some (.ref 0), some (.int ((ro 0).2 1))], [.int 1], 0, 0, (mSH, I, L)) _
    refine mBF (s3 := (10, 96, 14, [some (.ref 0), some (.int ((ro 0).2 1))], [], 0, 0, (mSH, I, L))) rfl (by decide) ?_
    refine mB 2 (s2 := (10, 96, 16, [some (.ref 0), some (.int ((ro 0).2 1))], [.int 0, .ref 0], 0, 0, (mSH, I, L))) rfl ?_
    refine mCall (s2 := (9, 106, 0, [some (.ref 0), some (.int 0)], [], 0, 0, (mSH, I, L))) rfl ?_
    refine mB 7 (s2 := (9, 106, 13, [some (.ref 0), some (.int 0)], [.int 0, .ref 8, .ref 6, .ref 10], 0, 0, (mSH, I, L))) rfl ?_
    refine mCall (s2 := (8, 10, 0, [some (.ref 8), some (.int 0)], [], 0, 0, (mSH, I, L))) rfl ?_
    refine mB 2 (s2 := (8, 10, 2, [some (.ref 8), some (.int 0)], [.int 0, .ref 8], 0, 0, (mSH, I, L))) rfl ?_
    refine mCall (s2 := (7, 8, 0, [some (.ref 8), some (.int 0)], [], 0, 0, (mSH, I, L))) rfl ?_
    refine mB 1 (s2 := (7, 8, 1, [some (.ref 8), some (.int 0)], [.int 0], 0, 0, (mSH, I, L))) rfl ?_
    refine mBF (s3 := (7, 8, 4, [some (.ref 8), some (.int 0)], [], 0, 0, (mSH, I, L))) rfl (by decide) ?_
    refine mB 4 (s2 := (7, 8, 10, [some (.ref 8), some (.int 0)], [.int 3, .int 0], 0, 0, (mSH, I, L))) rfl ?_
    refine mBF (s3 := (7, 8, 13, [some (.ref 8), some (.int 0)], [], 0, 0, (mSH, I, L))) rfl (by decide) ?_
    refine mB 2 (s2 := (7, 8, 18, [some (.ref 8), some (.int 0)], [.int 1], 0, 0, (mSH, I, L))) rfl ?_
    refine mRt (r := (some (.int 1))) (h := (mSH, I, L)) rfl rfl ?_
    show mWP mTb_ mFT ro (8, 10, 5, [some (.ref 8), some (.int 0)], [.int 1], 0, 0, (mSH, I, L)) _
    refine mBF (s3 := (8, 10, 8, [some (.ref 8), some (.int 0)], [], 0, 0, (mSH, I, L))) rfl (by decide) ?_
    refine mB 3 (s2 := (8, 10, 13, [some (.ref 8), some (.int 0)], [.int 0, .ref 9], 0, 0, (mSH, I, L))) rfl ?_
    refine mRq (s2 := (8, 10, 14, [some (.ref 8), some (.int 0)], [.int (I 9 0)], 0, 0, (mSH, I, L))) rfl (by decide) ?_
    refine mB 1 (s2 := (8, 10, 18, [some (.ref 8), some (.int 0)], [.int (I 9 0)], 0, 0, (mSH, I, L))) rfl ?_
    refine mRt (r := (some (.int (I 9 0)))) (h := (mSH, I, L)) rfl (mRet_int rfl) ?_
    show mWP mTb_ mFT ro (9, 106, 16, [some (.ref 0), some (.int 0)], [.int (I 9 0), .ref 6, .ref 10], 0, 0, (mSH, I, L)) _
    refine mCall (s2 := (8, 52, 0, [some (.ref 10), some (.ref 6), some (.int (I 9 0)), none, none, none], [], 0, 0, (mSH, I, L))) rfl ?_
    refine mB 1 (s2 := (8, 52, 1, [some (.ref 10), some (.ref 6), some (.int (I 9 0)), none, none, none], [.ref 10], 0, 0, (mSH, I, L))) rfl ?_
    refine mCall (s2 := (7, 53, 0, [some (.ref 10)], [], 0, 0, (mSH, I, L))) rfl ?_
    refine mB 3 (s2 := (7, 53, 5, [some (.ref 10)], [.int 0, .ref 11], 0, 0, (mSH, I, L))) rfl ?_
    refine mRq (s2 := (7, 53, 6, [some (.ref 10)], [.ref 12], 0, 0, (mSH, I, L))) rfl (by decide) ?_
    refine mB 1 (s2 := (7, 53, 8, [some (.ref 10)], [.int 1000000000, .ref 12], 0, 0, (mSH, I, L))) rfl ?_
    refine mCall (s2 := (6, 162, 0, [some (.ref 12), some (.int 1000000000), none, none], [], 0, 0, (mSH, I, L))) rfl ?_
    refine w_fill_12 ?_
    show mWP mTb_ mFT ro (7, 53, 11, [some (.ref 10)], [], 0, 0, (mSH, (mFl I 12 154 1000000000), L)) _
    refine mB 3 (s2 := (7, 53, 16, [some (.ref 10)], [.int 1, .ref 11], 0, 0, (mSH, (mFl I 12 154 1000000000), L))) rfl ?_
    refine mRq (s2 := (7, 53, 17, [some (.ref 10)], [.ref 13], 0, 0, (mSH, (mFl I 12 154 1000000000), L))) rfl (by decide) ?_
    refine mB 1 (s2 := (7, 53, 19, [some (.ref 10)], [.int 1000000000, .ref 13], 0, 0, (mSH, (mFl I 12 154 1000000000), L))) rfl ?_
    refine mCall (s2 := (6, 162, 0, [some (.ref 13), some (.int 1000000000), none, none], [], 0, 0, (mSH, (mFl I 12 154 1000000000), L))) rfl ?_
    refine w_fill_13 ?_
    show mWP mTb_ mFT ro (7, 53, 22, [some (.ref 10)], [], 0, 0, (mSH, (mFl (mFl I 12 154 1000000000) 13 154 1000000000), L)) _
    refine mB 3 (s2 := (7, 53, 27, [some (.ref 10)], [.int 0, .ref 20], 0, 0, (mSH, (mFl (mFl I 12 154 1000000000) 13 154 1000000000), L))) rfl ?_
    refine mCall (s2 := (6, 162, 0, [some (.ref 20), some (.int 0), none, none], [], 0, 0, (mSH, (mFl (mFl I 12 154 1000000000) 13 154 1000000000), L))) rfl ?_
    refine w_fill_20 ?_
    show mWP mTb_ mFT ro (7, 53, 30, [some (.ref 10)], [], 0, 0, (mSH, (mFl (mFl (mFl I 12 154 1000000000) 13 154 1000000000) 20 154 0), L)) _
    refine mB 3 (s2 := (7, 53, 35, [some (.ref 10)], [.int 0, .ref 21], 0, 0, (mSH, (mFl (mFl (mFl I 12 154 1000000000) 13 154 1000000000) 20 154 0), L))) rfl ?_
    refine mCall (s2 := (6, 162, 0, [some (.ref 21), some (.int 0), none, none], [], 0, 0, (mSH, (mFl (mFl (mFl I 12 154 1000000000) 13 154 1000000000) 20 154 0), L))) rfl ?_
    refine w_fill_21 ?_
    show mWP mTb_ mFT ro (7, 53, 38, [some (.ref 10)], [], 0, 0, (mSH, (mFl (mFl (mFl (mFl I 12 154 1000000000) 13 154 1000000000) 20 154 0) 21 154 0), L)) _
    refine mRt (r := none) (h := (mSH, (mFl (mFl (mFl (mFl I 12 154 1000000000) 13 154 1000000000) 20 154 0) 21 154 0), L)) rfl rfl ?_
    show mWP mTb_ mFT ro (8, 52, 4, [some (.ref 10), some (.ref 6), some (.int (I 9 0)), none, none, none], [], 0, 0, (mSH, (mFl (mFl (mFl (mFl I 12 154 1000000000) 13 154 1000000000) 20 154 0) 21 154 0), L)) _
    refine mB 3 (s2 := (8, 52, 11, [some (.ref 10), some (.ref 6), some (.int (I 9 0)), none, none, none], [.ref 4], 0, 0, (mSH, (mFl (mFl (mFl (mFl I 12 154 1000000000) 13 154 1000000000) 20 154 0) 21 154 0), L))) rfl ?_
    refine mCall (s2 := (7, 39, 0, [some (.ref 4)], [], 0, 0, (mSH, (mFl (mFl (mFl (mFl I 12 154 1000000000) 13 154 1000000000) 20 154 0) 21 154 0), L))) rfl ?_
    refine mB 2 (s2 := (7, 39, 4, [some (.ref 4)], [.int (I 4 1)], 0, 0, (mSH, (mFl (mFl (mFl (mFl I 12 154 1000000000) 13 154 1000000000) 20 154 0) 21 154 0), L))) rfl ?_
    refine mRt (r := (some (.int (I 4 1)))) (h := (mSH, (mFl (mFl (mFl (mFl I 12 154 1000000000) 13 154 1000000000) 20 154 0) 21 154 0), L)) rfl (mRet_int rfl) ?_
    show mWP mTb_ mFT ro (8, 52, 14, [some (.ref 10), some (.ref 6), some (.int (I 9 0)), none, none, none], [.int (I 4 1)], 0, 0, (mSH, (mFl (mFl (mFl (mFl I 12 154 1000000000) 13 154 1000000000) 20 154 0) 21 154 0), L)) _
    refine mB 4 (s2 := (8, 52, 18, [some (.ref 10), some (.ref 6), some (.int (I 9 0)), some (.int ((I 4 1) - 1)), none, none], [.int ((I 4 1) - 1)], 0, 0, (mSH, (mFl (mFl (mFl (mFl I 12 154 1000000000) 13 154 1000000000) 20 154 0) 21 154 0), L))) rfl ?_
    refine mBF (s3 := (8, 52, 21, [some (.ref 10), some (.ref 6), some (.int (I 9 0)), some (.int ((I 4 1) - 1)), none, none], [], 0, 0, (mSH, (mFl (mFl (mFl (mFl I 12 154 1000000000) 13 154 1000000000) 20 154 0) 21 154 0), L))) rfl (by first | (simp only [f0_9, f0_10, f0_11, f1_2, f2_1, f4_1, f6_0, f6_1, f6_2, f6_3, f7_0, f7_1, f7_2, f7_3, f9_0, f9_1, f9_2, f25_0, f25_1, f26_1, f30_1, f32_1, f34_1, f34_3, f34_4, f34_11, f37_0, f37_1, f37_2, f37_3, f38_0, f38_1, f38_2, f39_0, f39_1, f39_2, f41_0, f41_1, f41_2, f41_3, f41_4, f41_5, g34_7, g34_8, hro0, hro1, hro1_0, hro1_1, hro1_2, hro2, hro2_0, hro2_1, hro2_2, hro13, mTn0, mTn1, mTn2, mTn10, of_decide_eq_true c0]; first | decide | rfl) | decide | rfl) ?_
    refine mRt (r := none) (h := (mSH, (mFl (mFl (mFl (mFl I 12 154 1000000000) 13 154 1000000000) 20 154 0) 21 154 0), L)) rfl rfl ?_
    show mWP mTb_ mFT ro (9, 106, 19, [some (.ref 0), some (.int 0)], [], 0, 0, (mSH, (mFl (mFl (mFl (mFl I 12 154 1000000000) 13 154 1000000000) 20 154 0) 21 154 0), L)) _
    refine mB 5 (s2 := (9, 106, 28, [some (.ref 0), some (.int 0)], [.ref 22, .int 0, .ref 10], 0, 0, (mSH, (mFl (mFl (mFl (mFl I 12 154 1000000000) 13 154 1000000000) 20 154 0) 21 154 0), L))) rfl ?_
    refine mCall (s2 := (8, 65, 0, [some (.ref 10), some (.int 0), some (.ref 22), none, none, none, none], [], 0, 0, (mSH, (mFl (mFl (mFl (mFl I 12 154 1000000000) 13 154 1000000000) 20 154 0) 21 154 0), L))) rfl ?_
    refine mB 1 (s2 := (8, 65, 1, [some (.ref 10), some (.int 0), some (.ref 22), none, none, none, none], [.int 0], 0, 0, (mSH, (mFl (mFl (mFl (mFl I 12 154 1000000000) 13 154 1000000000) 20 154 0) 21 154 0), L))) rfl ?_
    refine mBT (s2 := (8, 65, 4, [some (.ref 10), some (.int 0), some (.ref 22), none, none, none, none], [], 0, 0, (mSH, (mFl (mFl (mFl (mFl I 12 154 1000000000) 13 154 1000000000) 20 154 0) 21 154 0), L))) rfl (by decide) ?_
    refine mB 6 (s2 := (8, 65, 15, [some (.ref 10), some (.int 0), some (.ref 22), some (.int 0), none, none, none], [.int 0, .ref 11], 0, 0, (mSH, (mFl (mFl (mFl (mFl I 12 154 1000000000) 13 154 1000000000) 20 154 0) 21 154 0), L))) rfl ?_
    refine mRq (s2 := (8, 65, 16, [some (.ref 10), some (.int 0), some (.ref 22), some (.int 0), none, none, none], [.ref 12], 0, 0, (mSH, (mFl (mFl (mFl (mFl I 12 154 1000000000) 13 154 1000000000) 20 154 0) 21 154 0), L))) rfl (by decide) ?_
    refine mB 1 (s2 := (8, 65, 19, [some (.ref 10), some (.int 0), some (.ref 22), some (.int 0), none, none, none], [.int 153, .ref 12], 0, 0, (mSH, (mFl (mFl (mFl (mFl I 12 154 1000000000) 13 154 1000000000) 20 154 0) 21 154 0), L))) rfl ?_
    refine mRq (s2 := (8, 65, 20, [some (.ref 10), some (.int 0), some (.ref 22), some (.int 0), none, none, none], [.int 1000000000], 0, 0, (mSH, (mFl (mFl (mFl (mFl I 12 154 1000000000) 13 154 1000000000) 20 154 0) 21 154 0), L))) rfl (by decide) ?_
    refine mB 1 (s2 := (8, 65, 22, [some (.ref 10), some (.int 0), some (.ref 22), some (.int 0), none, none, none], [.int 1000000000, .int 1000000000], 0, 0, (mSH, (mFl (mFl (mFl (mFl I 12 154 1000000000) 13 154 1000000000) 20 154 0) 21 154 0), L))) rfl ?_
    refine mBT (s2 := (8, 65, 25, [some (.ref 10), some (.int 0), some (.ref 22), some (.int 0), none, none, none], [], 0, 0, (mSH, (mFl (mFl (mFl (mFl I 12 154 1000000000) 13 154 1000000000) 20 154 0) 21 154 0), L))) rfl (by decide) ?_
    refine mB 1 (s2 := (8, 65, 26, [some (.ref 10), some (.int 0), some (.ref 22), some (.int 0), none, none, none], [.int 0], 0, 0, (mSH, (mFl (mFl (mFl (mFl I 12 154 1000000000) 13 154 1000000000) 20 154 0) 21 154 0), L))) rfl ?_
    refine mRt (r := (some (.int 0))) (h := (mSH, (mFl (mFl (mFl (mFl I 12 154 1000000000) 13 154 1000000000) 20 154 0) 21 154 0), L)) rfl rfl ?_
    show mWP mTb_ mFT ro (9, 106, 31, [some (.ref 0), some (.int 0)], [.int 0], 0, 0, (mSH, (mFl (mFl (mFl (mFl I 12 154 1000000000) 13 154 1000000000) 20 154 0) 21 154 0), L)) _
    refine mRt (r := (some (.int 0))) (h := (mSH, (mFl (mFl (mFl (mFl I 12 154 1000000000) 13 154 1000000000) 20 154 0) 21 154 0), L)) rfl rfl ?_
    show mWP mTb_ mFT ro (10, 96, 19, [some (.ref 0), some (.int ((ro 0).2 1))], [.int 0], 0, 0, (mSH, (mFl (mFl (mFl (mFl I 12 154 1000000000) 13 154 1000000000) 20 154 0) 21 154 0), L)) _
    refine mBT (s2 := (10, 96, 22, [some (.ref 0), some (.int ((ro 0).2 1))], [], 0, 0, (mSH, (mFl (mFl (mFl (mFl I 12 154 1000000000) 13 154 1000000000) 20 154 0) 21 154 0), L))) rfl (by decide) ?_
    refine mB 2 (s2 := (10, 96, 25, [some (.ref 0), some (.int ((ro 0).2 1))], [.int (-3), .ref 0], 0, 0, (mSH, (mFl (mFl (mFl (mFl I 12 154 1000000000) 13 154 1000000000) 20 154 0) 21 154 0), L))) rfl ?_
    refine mCall (s2 := (9, 103, 0, [some (.ref 0), some (.int (-3))], [], 0, 0, (mSH, (mFl (mFl (mFl (mFl I 12 154 1000000000) 13 154 1000000000) 20 154 0) 21 154 0), L))) rfl ?_
    refine mB 2 (s2 := (9, 103, 3, [some (.ref 0), some (.int (-3))], [.int (-2), .int (-3)], 0, 0, (mSH, (mFl (mFl (mFl (mFl I 12 154 1000000000) 13 154 1000000000) 20 154 0) 21 154 0), L))) rfl ?_
    refine mBF (s3 := (9, 103, 19, [some (.ref 0), some (.int (-3))], [], 0, 0, (mSH, (mFl (mFl (mFl (mFl I 12 154 1000000000) 13 154 1000000000) 20 154 0) 21 154 0), L))) rfl (by decide) ?_
    refine mB 2 (s2 := (9, 103, 22, [some (.ref 0), some (.int (-3))], [.int (-3), .int (-3)], 0, 0, (mSH, (mFl (mFl (mFl (mFl I 12 154 1000000000) 13 154 1000000000) 20 154 0) 21 154 0), L))) rfl ?_
    refine mBT (s2 := (9, 103, 25, [some (.ref 0), some (.int (-3))], [], 0, 0, (mSH, (mFl (mFl (mFl (mFl I 12 154 1000000000) 13 154 1000000000) 20 154 0) 21 154 0), L))) rfl (by decide) ?_
    refine mB 8 (s2 := (9, 103, 49, [some (.ref 0), some (.int (-3))], [.int (-3)], 0, 0, (mSH, (mUp (mFl (mFl (mFl (mFl I 12 154 1000000000) 13 154 1000000000) 20 154 0) 21 154 0) 0 10 ((I 0 10) + 1)), L))) rfl ?_
    refine mRt (r := (some (.int (-3)))) (h := (mSH, (mUp (mFl (mFl (mFl (mFl I 12 154 1000000000) 13 154 1000000000) 20 154 0) 21 154 0) 0 10 ((I 0 10) + 1)), L)) rfl (mRet_int rfl) ?_
    show mWP mTb_ mFT ro (10, 96, 28, [some (.ref 0), some (.int ((ro 0).2 1))], [.int (-3)], 0, 0, (mSH, (mUp (mFl (mFl (mFl (mFl I 12 154 1000000000) 13 154 1000000000) 20 154 0) 21 154 0) 0 10 ((I 0 10) + 1)), L)) _
    refine mRt (r := (some (.int (-3)))) (h := (mSH, (mUp (mFl (mFl (mFl (mFl I 12 154 1000000000) 13 154 1000000000) 20 154 0) 21 154 0) 0 10 ((I 0 10) + 1)), L)) rfl (mRet_int rfl) ?_
    show mWP mTb_ mFT ro (11, 163, 685, [some (.ref 1000), some (.ref 0), some (.ref 34), some (.int 0)], [.int (-3)], 62, 3336, (mSH, (mUp (mFl (mFl (mFl (mFl I 12 154 1000000000) 13 154 1000000000) 20 154 0) 21 154 0) 0 10 ((I 0 10) + 1)), L)) _
    refine mB 5 (s2 := (11, 163, 690, [some (.ref 1000), some (.ref 0), some (.ref 34), some (.int 0)], [.int 1, .ref 1000, .ref 34, .int (-3)], 62, 3336, (mSH, (mUp (mFl (mFl (mFl (mFl I 12 154 1000000000) 13 154 1000000000) 20 154 0) 21 154 0) 0 10 ((I 0 10) + 1)), L))) rfl ?_
    refine mRq (s2 := (11, 163, 691, [some (.ref 1000), some (.ref 0), some (.ref 34), some (.int 0)], [.int ((ro 0).2 1), .ref 34, .int (-3)], 62, 3336, (mSH, (mUp (mFl (mFl (mFl (mFl I 12 154 1000000000) 13 154 1000000000) 20 154 0) 21 154 0) 0 10 ((I 0 10) + 1)), L))) rfl (by first | (simp only [f0_9, f0_10, f0_11, f1_2, f2_1, f4_1, f6_0, f6_1, f6_2, f6_3, f7_0, f7_1, f7_2, f7_3, f9_0, f9_1, f9_2, f25_0, f25_1, f26_1, f30_1, f32_1, f34_1, f34_3, f34_4, f34_11, f37_0, f37_1, f37_2, f37_3, f38_0, f38_1, f38_2, f39_0, f39_1, f39_2, f41_0, f41_1, f41_2, f41_3, f41_4, f41_5, g34_7, g34_8, hro0, hro1, hro1_0, hro1_1, hro1_2, hro2, hro2_0, hro2_1, hro2_2, hro13, mTn0, mTn1, mTn2, mTn10, of_decide_eq_true c0]; first | decide | rfl) | decide | rfl) ?_
    refine mCall (s2 := (10, 147, 0, [some (.ref 34), some (.int ((ro 0).2 1)), none, none, none], [], 0, 0, (mSH, (mUp (mFl (mFl (mFl (mFl I 12 154 1000000000) 13 154 1000000000) 20 154 0) 21 154 0) 0 10 ((I 0 10) + 1)), L))) rfl ?_
    refine mB 3 (s2 := (10, 147, 3, [some (.ref 34), some (.int ((ro 0).2 1)), none, none, none], [.int 1, .int 0, .int ((ro 0).2 1)], 0, 0, (mSH, (mUp (mFl (mFl (mFl (mFl I 12 154 1000000000) 13 154 1000000000) 20 154 0) 21 154 0) 0 10 ((I 0 10) + 1)), L))) rfl ?_
    refine mCall (s2 := (9, 112, 0, [some (.int ((ro 0).2 1)), some (.int 0), some (.int 1)], [], 0, 0, (mSH, (mUp (mFl (mFl (mFl (mFl I 12 154 1000000000) 13 154 1000000000) 20 154 0) 21 154 0) 0 10 ((I 0 10) + 1)), L))) rfl ?_
    refine mB 2 (s2 := (9, 112, 2, [some (.int ((ro 0).2 1)), some (.int 0), some (.int 1)], [.int 0, .int ((ro 0).2 1)], 0, 0, (mSH, (mUp (mFl (mFl (mFl (mFl I 12 154 1000000000) 13 154 1000000000) 20 154 0) 21 154 0) 0 10 ((I 0 10) + 1)), L))) rfl ?_
    refine mBF (s3 := (9, 112, 5, [some (.int ((ro 0).2 1)), some (.int 0), some (.int 1)], [], 0, 0, (mSH, (mUp (mFl (mFl (mFl (mFl I 12 154 1000000000) 13 154 1000000000) 20 154 0) 21 154 0) 0 10 ((I 0 10) + 1)), L))) rfl (by first | (simp only [f0_9, f0_10, f0_11, f1_2, f2_1, f4_1, f6_0, f6_1, f6_2, f6_3, f7_0, f7_1, f7_2, f7_3, f9_0, f9_1, f9_2, f25_0, f25_1, f26_1, f30_1, f32_1, f34_1, f34_3, f34_4, f34_11, f37_0, f37_1, f37_2, f37_3, f38_0, f38_1, f38_2, f39_0, f39_1, f39_2, f41_0, f41_1, f41_2, f41_3, f41_4, f41_5, g34_7, g34_8, hro0, hro1, hro1_0, hro1_1, hro1_2, hro2, hro2_0, hro2_1, hro2_2, hro13, mTn0, mTn1, mTn2, mTn10, of_decide_eq_true c0]; first | decide | rfl) | decide | rfl) ?_
    refine mB 2 (s2 := (9, 112, 7, [some (.int ((ro 0).2 1)), some (.int 0), some (.int 1)], [.int 1, .int ((ro 0).2 1)], 0, 0, (mSH, (mUp (mFl (mFl (mFl (mFl I 12 154 1000000000) 13 154 1000000000) 20 154 0) 21 154 0) 0 10 ((I 0 10) + 1)), L))) rfl ?_
    refine mBF (s3 := (9, 112, 10, [some (.int ((ro 0).2 1)), some (.int 0), some (.int 1)], [], 0, 0, (mSH, (mUp (mFl (mFl (mFl (mFl I 12 154 1000000000) 13 154 1000000000) 20 154 0) 21 154 0) 0 10 ((I 0 10) + 1)), L))) rfl (by first | (simp only [f0_9, f0_10, f0_11, f1_2, f2_1, f4_1, f6_0, f6_1, f6_2, f6_3, f7_0, f7_1, f7_2, f7_3, f9_0, f9_1, f9_2, f25_0, f25_1, f26_1, f30_1, f32_1, f34_1, f34_3, f34_4, f34_11, f37_0, f37_1, f37_2, f37_3, f38_0, f38_1, f38_2, f39_0, f39_1, f39_2, f41_0, f41_1, f41_2, f41_3, f41_4, f41_5, g34_7, g34_8, hro0, hro1, hro1_0, hro1_1, hro1_2, hro2, hro2_0, hro2_1, hro2_2, hro13, mTn0, mTn1, mTn2, mTn10, of_decide_eq_true c0]; first | decide | rfl) | decide | rfl) ?_
    refine mB 2 (s2 := (9, 112, 15, [some (.int ((ro 0).2 1)), some (.int 0), some (.int 1)], [.int 1], 0, 0, (mSH, (mUp (mFl (mFl (mFl (mFl I 12 154 1000000000) 13 154 1000000000) 20 154 0) 21 154 0) 0 10 ((I 0 10) + 1)), L))) rfl ?_
    refine mRt (r := (some (.int 1))) (h := (mSH, (mUp (mFl (mFl (mFl (mFl I 12 154 1000000000) 13 154 1000000000) 20 154 0) 21 154 0) 0 10 ((I 0 10) + 1)), L)) rfl rfl ?_
    show mWP mTb_ mFT ro (10, 147, 6, [some (.ref 34), some (.int ((ro 0).2 1)), none, none, none], [.int 1], 0, 0, (mSH, (mUp (mFl (mFl (mFl (mFl I 12 154 1000000000) 13 154 1000000000) 20 154 0) 21 154 0) 0 10 ((I 0 10) + 1)), L)) _
    refine mBF (s3 := (10, 147, 16, [some (.ref 34), some (.int ((ro 0).2 1)), none, none, none], [], 0, 0, (mSH, (mUp (mFl (mFl (mFl (mFl I 12 154 1000000000) 13 154 1000000000) 20 154 0) 21 154 0) 0 10 ((I 0 10) + 1)), L))) rfl (by decide) ?_
    refine mB 1 (s2 := (10, 147, 17, [some (.ref 34), some (.int ((ro 0).2 1)), none, none, none], [.ref 34], 0, 0, (mSH, (mUp (mFl (mFl (mFl (mFl I 12 154 1000000000) 13 154 1000000000) 20 154 0) 21 154 0) 0 10 ((I 0 10) + 1)), L))) rfl ?_
    refine mCall (s2 := (9, 132, 0, [some (.ref 34)], [], 0, 0, (mSH, (mUp (mFl (mFl (mFl (mFl I 12 154 1000000000) 13 154 1000000000) 20 154 0) 21 154 0) 0 10 ((I 0 10) + 1)), L))) rfl ?_
    refine mB 4 (s2 := (9, 132, 6, [some (.ref 34)], [.int 0, .ref 38, .ref 34], 0, 0, (mSH, (mUp (mFl (mFl (mFl (mFl I 12 154 1000000000) 13 154 1000000000) 20 154 0) 21 154 0) 0 10 ((I 0 10) + 1)), L))) rfl ?_
    refine mRq (s2 := (9, 132, 7, [some (.ref 34)], [.int (I 38 0), .ref 34], 0, 0, (mSH, (mUp (mFl (mFl (mFl (mFl I 12 154 1000000000) 13 154 1000000000) 20 154 0) 21 154 0) 0 10 ((I 0 10) + 1)), L))) rfl (by decide) ?_
    refine mB 1 (s2 := (9, 132, 8, [some (.ref 34)], [.int 0, .int (I 38 0), .ref 34], 0, 0, (mSH, (mUp (mFl (mFl (mFl (mFl I 12 154 1000000000) 13 154 1000000000) 20 154 0) 21 154 0) 0 10 ((I 0 10) + 1)), L))) rfl ?_
    refine mCall (s2 := (8, 131, 0, [some (.ref 34), some (.int (I 38 0)), some (.int 0), none], [], 0, 0, (mSH, (mUp (mFl (mFl (mFl (mFl I 12 154 1000000000) 13 154 1000000000) 20 154 0) 21 154 0) 0 10 ((I 0 10) + 1)), L))) rfl ?_
    refine mB 1 (s2 := (8, 131, 1, [some (.ref 34), some (.int (I 38 0)), some (.int 0), none], [.ref 34], 0, 0, (mSH, (mUp (mFl (mFl (mFl (mFl I 12 154 1000000000) 13 154 1000000000) 20 154 0) 21 154 0) 0 10 ((I 0 10) + 1)), L))) rfl ?_
    refine mCall (s2 := (7, 130, 0, [some (.ref 34)], [], 0, 0, (mSH, (mUp (mFl (mFl (mFl (mFl I 12 154 1000000000) 13 154 1000000000) 20 154 0) 21 154 0) 0 10 ((I 0 10) + 1)), L))) rfl ?_
    refine mB 13 (s2 := (7, 130, 21, [some (.ref 34)], [.int (-1), .int 0, .ref 46], 0, 0, (mSH, (mUp (mUp (mUp (mUp (mFl (mFl (mFl (mFl I 12 154 1000000000) 13 154 1000000000) 20 154 0) 21 154 0) 0 10 ((I 0 10) + 1)) 34 20 0) 34 21 0) 34 22 0), L))) rfl ?_
    refine mRq (s2 := (7, 130, 22, [some (.ref 34)], [], 0, 0, (mSH, (mUp (mUp (mUp (mUp (mUp (mFl (mFl (mFl (mFl I 12 154 1000000000) 13 154 1000000000) 20 154 0) 21 154 0) 0 10 ((I 0 10) + 1)) 34 20 0) 34 21 0) 34 22 0) 46 0 (-1)), L))) rfl (by decide) ?_
    refine mB 4 (s2 := (7, 130, 29, [some (.ref 34)], [.int (-1), .int 10, .ref 46], 0, 0, (mSH, (mUp (mUp (mUp (mUp (mUp (mFl (mFl (mFl (mFl I 12 154 1000000000) 13 154 1000000000) 20 154 0) 21 154 0) 0 10 ((I 0 10) + 1)) 34 20 0) 34 21 0) 34 22 0) 46 0 (-1)), L))) rfl ?_
    refine mRq (s2 := (7, 130, 30, [some (.ref 34)], [], 0, 0, (mSH, (mUp (mUp (mUp (mUp (mUp (mUp (mFl (mFl (mFl (mFl I 12 154 1000000000) 13 154 1000000000) 20 154 0) 21 154 0) 0 10 ((I 0 10) + 1)) 34 20 0) 34 21 0) 34 22 0) 46 0 (-1)) 46 10 (-1)), L))) rfl (by decide) ?_
    refine mRt (r := none) (h := (mSH, (mUp (mUp (mUp (mUp (mUp (mUp (mFl (mFl (mFl (mFl I 12 154 1000000000) 13 154 1000000000) 20 154 0) 21 154 0) 0 10 ((I 0 10) + 1)) 34 20 0) 34 21 0) 34 22 0) 46 0 (-1)) 46 10 (-1)), L)) rfl rfl ?_
    show mWP mTb_ mFT ro (8, 131, 4, [some (.ref 34), some (.int (I 38 0)), some (.int 0), none], [], 0, 0, (mSH, (mUp (mUp (mUp (mUp (mUp (mUp (mFl (mFl (mFl (mFl I 12 154 1000000000) 13 154 1000000000) 20 154 0) 21 154 0) 0 10 ((I 0 10) + 1)) 34 20 0) 34 21 0) 34 22 0) 46 0 (-1)) 46 10 (-1)), L)) _
    refine mB 5 (s2 := (8, 131, 11, [some (.ref 34), some (.int (I 38 0)), some (.int 0), some (.int 0)], [.int (I 34 1), .int 0], 0, 0, (mSH, (mUp (mUp (mUp (mUp (mUp (mUp (mFl (mFl (mFl (mFl I 12 154 1000000000) 13 154 1000000000) 20 154 0) 21 154 0) 0 10 ((I 0 10) + 1)) 34 20 0) 34 21 0) 34 22 0) 46 0 (-1)) 46 10 (-1)), L))) rfl ?_
    refine mBT (s2 := (8, 131, 34, [some (.ref 34), some (.int (I 38 0)), some (.int 0), some (.int 0)], [], 0, 0, (mSH, (mUp (mUp (mUp (mUp (mUp (mUp (mFl (mFl (mFl (mFl I 12 154 1000000000) 13 154 1000000000) 20 154 0) 21 154 0) 0 10 ((I 0 10) + 1)) 34 20 0) 34 21 0) 34 22 0) 46 0 (-1)) 46 10 (-1)), L))) rfl (by first | (simp only [f0_9, f0_10, f0_11, f1_2, f2_1, f4_1, f6_0, f6_1, f6_2, f6_3, f7_0, f7_1, f7_2, f7_3, f9_0, f9_1, f9_2, f25_0, f25_1, f26_1, f30_1, f32_1, f34_1, f34_3, f34_4, f34_11, f37_0, f37_1, f37_2, f37_3, f38_0, f38_1, f38_2, f39_0, f39_1, f39_2, f41_0, f41_1, f41_2, f41_3, f41_4, f41_5, g34_7, g34_8, hro0, hro1, hro1_0, hro1_1, hro1_2, hro2, hro2_0, hro2_1, hro2_2, hro13, mTn0, mTn1, mTn2, mTn10, of_decide_eq_true c0]; first | decide | rfl) | decide | rfl) ?_
    refine mB 2 (s2 := (8, 131, 38, [some (.ref 34), some (.int (I 38 0)), some (.int 0), some (.int 0)], [.int 0], 0, 0, (mSH, (mUp (mUp (mUp (mUp (mUp (mUp (mFl (mFl (mFl (mFl I 12 154 1000000000) 13 154 1000000000) 20 154 0) 21 154 0) 0 10 ((I 0 10) + 1)) 34 20 0) 34 21 0) 34 22 0) 46 0 (-1)) 46 10 (-1)), L))) rfl ?_
    refine mBT (s2 := (8, 131, 45, [some (.ref 34), some (.int (I 38 0)), some (.int 0), some (.int 0)], [], 0, 0, (mSH, (mUp (mUp (mUp (mUp (mUp (mUp (mFl (mFl (mFl (mFl I 12 154 1000000000) 13 154 1000000000) 20 154 0) 21 154 0) 0 10 ((I 0 10) + 1)) 34 20 0) 34 21 0) 34 22 0) 46 0 (-1)) 46 10 (-1)), L))) rfl (by decide) ?_
    refine mB 1 (s2 := (8, 131, 46, [some (.ref 34), some (.int (I 38 0)), some (.int 0), some (.int 0)], [.int 0], 0, 0, (mSH, (mUp (mUp (mUp (mUp (mUp (mUp (mFl (mFl (mFl (mFl I 12 154 1000000000) 13 154 1000000000) 20 154 0) 21 154 0) 0 10 ((I 0 10) + 1)) 34 20 0) 34 21 0) 34 22 0) 46 0 (-1)) 46 10 (-1)), L))) rfl ?_
    refine mRt (r := (some (.int 0))) (h := (mSH, (mUp (mUp (mUp (mUp (mUp (mUp (mFl (mFl (mFl (mFl I 12 154 1000000000) 13 154 1000000000) 20 154 0) 21 154 0) 0 10 ((I 0 10) + 1)) 34 20 0) 34 21 0) 34 22 0) 46 0 (-1)) 46 10 (-1)), L)) rfl rfl ?_
    show mWP mTb_ mFT ro (9, 132, 11, [some (.ref 34)], [.int 0], 0, 0, (mSH, (mUp (mUp (mUp (mUp (mUp (mUp (mFl (mFl (mFl (mFl I 12 154 1000000000) 13 154 1000000000) 20 154 0) 21 154 0) 0 10 ((I 0 10) + 1)) 34 20 0) 34 21 0) 34 22 0) 46 0 (-1)) 46 10 (-1)), L)) _
    refine mRt (r := (some (.int 0))) (h := (mSH, (mUp (mUp (mUp (mUp (mUp (mUp (mFl (mFl (mFl (mFl I 12 154 1000000000) 13 154 1000000000) 20 154 0) 21 154 0) 0 10 ((I 0 10) + 1)) 34 20 0) 34 21 0) 34 22 0) 46 0 (-1)) 46 10 (-1)), L)) rfl rfl ?_
    show mWP mTb_ mFT ro (10, 147, 20, [some (.ref 34), some (.int ((ro 0).2 1)), none, none, none], [.int 0], 0, 0, (mSH, (mUp (mUp (mUp (mUp (mUp (mUp (mFl (mFl (mFl (mFl I 12 154 1000000000) 13 154 1000000000) 20 154 0) 21 154 0) 0 10 ((I 0 10) + 1)) 34 20 0) 34 21 0) 34 22 0) 46 0 (-1)) 46 10 (-1)), L)) _
    refine mBT (s2 := (10, 147, 23, [some (.ref 34), some (.int ((ro 0).2 1)), none, none, none], [], 0, 0, (mSH, (mUp (mUp (mUp (mUp (mUp (mUp (mFl (mFl (mFl (mFl I 12 154 1000000000) 13 154 1000000000) 20 154 0) 21 154 0) 0 10 ((I 0 10) + 1)) 34 20 0) 34 21 0) 34 22 0) 46 0 (-1)) 46 10 (-1)), L))) rfl (by decide) ?_
    refine mB 2 (s2 := (10, 147, 26, [some (.ref 34), some (.int ((ro 0).2 1)), none, none, none], [.int (-3), .ref 34], 0, 0, (mSH, (mUp (mUp (mUp (mUp (mUp (mUp (mFl (mFl (mFl (mFl I 12 154 1000000000) 13 154 1000000000) 20 154 0) 21 154 0) 0 10 ((I 0 10) + 1)) 34 20 0) 34 21 0) 34 22 0) 46 0 (-1)) 46 10 (-1)), L))) rfl ?_
    refine mCall (s2 := (9, 113, 0, [some (.ref 34), some (.int (-3))], [], 0, 0, (mSH, (mUp (mUp (mUp (mUp (mUp (mUp (mFl (mFl (mFl (mFl I 12 154 1000000000) 13 154 1000000000) 20 154 0) 21 154 0) 0 10 ((I 0 10) + 1)) 34 20 0) 34 21 0) 34 22 0) 46 0 (-1)) 46 10 (-1)), L))) rfl ?_
    refine mB 6 (s2 := (9, 113, 9, [some (.ref 34), some (.int (-3))], [.int 1, .ref 39, .int 1, .ref 39], 0, 0, (mSH, (mUp (mUp (mUp (mUp (mUp (mUp (mFl (mFl (mFl (mFl I 12 154 1000000000) 13 154 1000000000) 20 154 0) 21 154 0) 0 10 ((I 0 10) + 1)) 34 20 0) 34 21 0) 34 22 0) 46 0 (-1)) 46 10 (-1)), L))) rfl ?_
    refine mRq (s2 := (9, 113, 10, [some (.ref 34), some (.int (-3))], [.int (I 39 1), .int 1, .ref 39], 0, 0, (mSH, (mUp (mUp (mUp (mUp (mUp (mUp (mFl (mFl (mFl (mFl I 12 154 1000000000) 13 154 1000000000) 20 154 0) 21 154 0) 0 10 ((I 0 10) + 1)) 34 20 0) 34 21 0) 34 22 0) 46 0 (-1)) 46 10 (-1)), L))) rfl (by decide) ?_
    refine mB 2 (s2 := (9, 113, 12, [some (.ref 34), some (.int (-3))], [.int ((I 39 1) + 1), .int 1, .ref 39], 0, 0, (mSH, (mUp (mUp (mUp (mUp (mUp (mUp (mFl (mFl (mFl (mFl I 12 154 1000000000) 13 154 1000000000) 20 154 0) 21 154 0) 0 10 ((I 0 10) + 1)) 34 20 0) 34 21 0) 34 22 0) 46 0 (-1)) 46 10 (-1)), L))) rfl ?_
    refine mRq (s2 := (9, 113, 13, [some (.ref 34), some (.int (-3))], [], 0, 0, (mSH, (mUp (mUp (mUp (mUp (mUp (mUp (mUp (mFl (mFl (mFl (mFl I 12 154 1000000000) 13 154 1000000000) 20 154 0) 21 154 0) 0 10 ((I 0 10) + 1)) 34 20 0) 34 21 0) 34 22 0) 46 0 (-1)) 46 10 (-1)) 39 1 ((I 39 1) + 1)), L))) rfl (by decide) ?_
    refine mB 1 (s2 := (9, 113, 14, [some (.ref 34), some (.int (-3))], [.int (-3)], 0, 0, (mSH, (mUp (mUp (mUp (mUp (mUp (mUp (mUp (mFl (mFl (mFl (mFl I 12 154 1000000000) 13 154 1000000000) 20 154 0) 21 154 0) 0 10 ((I 0 10) + 1)) 34 20 0) 34 21 0) 34 22 0) 46 0 (-1)) 46 10 (-1)) 39 1 ((I 39 1) + 1)), L))) rfl ?_
    refine mRt (r := (some (.int (-3)))) (h := (mSH, (mUp (mUp (mUp (mUp (mUp (mUp (mUp (mFl (mFl (mFl (mFl I 12 154 1000000000) 13 154 1000000000) 20 154 0) 21 154 0) 0 10 ((I 0 10) + 1)) 34 20 0) 34 21 0) 34 22 0) 46 0 (-1)) 46 10 (-1)) 39 1 ((I 39 1) + 1)), L)) rfl (mRet_int rfl) ?_
    show mWP mTb_ mFT ro (10, 147, 29, [some (.ref 34), some (.int ((ro 0).2 1)), none, none, none], [.int (-3)], 0, 0, (mSH, (mUp (mUp (mUp (mUp (mUp (mUp (mUp (mFl (mFl (mFl (mFl I 12 154 1000000000) 13 154 1000000000) 20 154 0) 21 154 0) 0 10 ((I 0 10) + 1)) 34 20 0) 34 21 0) 34 22 0) 46 0 (-1)) 46 10 (-1)) 39 1 ((I 39 1) + 1)), L)) _
    refine mRt (r := (some (.int (-3)))) (h := (mSH, (mUp (mUp (mUp (mUp (mUp (mUp (mUp (mFl (mFl (mFl (mFl I 12 154 1000000000) 13 154 1000000000) 20 154 0) 21 154 0) 0 10 ((I 0 10) + 1)) 34 20 0) 34 21 0) 34 22 0) 46 0 (-1)) 46 10 (-1)) 39 1 ((I 39 1) + 1)), L)) rfl (mRet_int rfl) ?_
    show mWP mTb_ mFT ro (11, 163, 694, [some (.ref 1000), some (.ref 0), some (.ref 34), some (.int 0)], [.int (-3), .int (-3)], 62, 3336, (mSH, (mUp (mUp (mUp (mUp (mUp (mUp (mUp (mFl (mFl (mFl (mFl I 12 154 1000000000) 13 154 1000000000) 20 154 0) 21 154 0) 0 10 ((I 0 10) + 1)) 34 20 0) 34 21 0) 34 22 0) 46 0 (-1)) 46 10 (-1)) 39 1 ((I 39 1) + 1)), L)) _
    refine mBT (s2 := (11, 163, 808, [some (.ref 1000), some (.ref 0), some (.ref 34), some (.int 0)], [], 62, 3336, (mSH, (mUp (mUp (mUp (mUp (mUp (mUp (mUp (mFl (mFl (mFl (mFl I 12 154 1000000000) 13 154 1000000000) 20 154 0) 21 154 0) 0 10 ((I 0 10) + 1)) 34 20 0) 34 21 0) 34 22 0) 46 0 (-1)) 46 10 (-1)) 39 1 ((I 39 1) + 1)), L))) rfl (by decide) ?_
    exact h1 (of_decide_eq_true c0)
  · refine mB 2 (s2 := (9, 108, 6, [some (.int ((ro 0).2 1))], [.int 1, .int ((ro 0).2 1)], 0, 0, (mSH, I, L))) rfl ?_
    refine mBr (s2 := (9, 108, 9, [some (.int ((ro 0).2 1))], [], 0, 0, (mSH, I, L))) (s3 := (9, 108, 13, [some (.int ((ro 0).2 1))], [], 0, 0, (mSH, I, L))) rfl (fun c1 => ?_) (fun c1 => ?_)
    · refine mB 2 (s2 := (9, 108, 14, [some (.int ((ro 0).2 1))], [.int 1], 0, 0, (mSH, I, L))) rfl ?_
      refine mRt (r := (some (.int 1))) (h := (mSH, I, L)) rfl rfl ?_
      show mWP mTb_ mFT ro (10, 96, 4, [some (.ref 0), some (.int ((ro 0).2 1))], [.int 1], 0, 0, (mSH, I, L)) _
      refine mBF (s3 := (10, 96, 14, [some (.ref 0), some (.int ((ro 0).2 1))], [], 0, 0, (mSH, I, L))) rfl (by decide) ?_
      refine mB 2 (s2 := (10, 96, 16, [some (.ref 0), some (.int ((ro 0).2 1))], [.int 0, .ref 0], 0, 0, (mSH, I, L))) rfl ?_
      refine mCall (s2 := (9, 106, 0, [some (.ref 0), some (.int 0)], [], 0, 0, (mSH, I, L))) rfl ?_
      refine mB 7 (s2 := (9, 106, 13, [some (.ref 0), some (.int 0)], [.int 0, .ref 8, .ref 6, .ref 10], 0, 0, (mSH, I, L))) rfl ?_
      refine mCall (s2 := (8, 10, 0, [some (.ref 8), some (.int 0)], [], 0, 0, (mSH, I, L))) rfl ?_
      refine mB 2 (s2 := (8, 10, 2, [some (.ref 8), some (.int 0)], [.int 0, .ref 8], 0, 0, (mSH, I, L))) rfl ?_
      refine mCall (s2 := (7, 8, 0, [some (.ref 8), some (.int 0)], [], 0, 0, (mSH, I, L))) rfl ?_
      refine mB 1 (s2 := (7, 8, 1, [some (.ref 8), some (.int 0)], [.int 0], 0, 0, (mSH, I, L))) rfl ?_
      refine mBF (s3 := (7, 8, 4, [some (.ref 8), some (.int 0)], [], 0, 0, (mSH, I, L))) rfl (by decide) ?_
      refine mB 4 (s2 := (7, 8, 10, [some (.ref 8), some (.int 0)], [.int 3, .int 0], 0, 0, (mSH, I, L))) rfl ?_
      refine mBF (s3 := (7, 8, 13, [some (.ref 8), some (.int 0)], [], 0, 0, (mSH, I, L))) rfl (by decide) ?_
      refine mB 2 (s2 := (7, 8, 18, [some (.ref 8), some (.int 0)], [.int 1], 0, 0, (mSH, I, L))) rfl ?_
      refine mRt (r := (some (.int 1))) (h := (mSH, I, L)) rfl rfl ?_
      show mWP mTb_ mFT ro (8, 10, 5, [some (.ref 8), some (.int 0)], [.int 1], 0, 0, (mSH, I, L)) _
      refine mBF (s3 := (8, 10, 8, [some (.ref 8), some (.int 0)], [], 0, 0, (mSH, I, L))) rfl (by decide) ?_
      refine mB 3 (s2 := (8, 10, 13, [some (.ref 8), some (.int 0)], [.int 0, .ref 9], 0, 0, (mSH, I, L))) rfl ?_
      refine mRq (s2 := (8, 10, 14, [some (.ref 8), some (.int 0)], [.int (I 9 0)], 0, 0, (mSH, I, L))) rfl (by decide) ?_
      refine mB 1 (s2 := (8, 10, 18, [some (.ref 8), some (.int 0)], [.int (I 9 0)], 0, 0, (mSH, I, L))) rfl ?_
      refine mRt (r := (some (.int (I 9 0)))) (h := (mSH, I, L)) rfl (mRet_int rfl) ?_
      show mWP mTb_ mFT ro (9, 106, 16, [some (.ref 0), some (.int 0)], [.int (I 9 0), .ref 6, .ref 10], 0, 0, (mSH, I, L)) _
      refine mCall (s2 := (8, 52, 0, [some (.ref 10), some (.ref 6), some (.int (I 9 0)), none, none, none], [], 0, 0, (mSH, I, L))) rfl ?_
      refine mB 1 (s2 := (8, 52, 1, [some (.ref 10), some (.ref 6), some (.int (I 9 0)), none, none, none], [.ref 10], 0, 0, (mSH, I, L))) rfl ?_
      refine mCall (s2 := (7, 53, 0, [some (.ref 10)], [], 0, 0, (mSH, I, L))) rfl ?_
      refine mB 3 (s2 := (7, 53, 5, [some (.ref 10)], [.int 0, .ref 11], 0, 0, (mSH, I, L))) rfl ?_
      refine mRq (s2 := (7, 53, 6, [some (.ref 10)], [.ref 12], 0, 0, (mSH, I, L))) rfl (by decide) ?_
      refine mB 1 (s2 := (7, 53, 8, [some (.ref 10)], [.int 1000000000, .ref 12], 0, 0, (mSH, I, L))) rfl ?_
      refine mCall (s2 := (6, 162, 0, [some (.ref 12), some (.int 1000000000), none, none], [], 0, 0, (mSH, I, L))) rfl ?_
      refine w_fill_12 ?_
      show mWP mTb_ mFT ro (7, 53, 11, [some (.ref 10)], [], 0, 0, (mSH, (mFl I 12 154 1000000000), L)) _
      refine mB 3 (s2 := (7, 53, 16, [some (.ref 10)], [.int 1, .ref 11], 0, 0, (mSH, (mFl I 12 154 1000000000), L))) rfl ?_
      refine mRq (s2 := (7, 53, 17, [some (.ref 10)], [.ref 13], 0, 0, (mSH, (mFl I 12 154 1000000000), L))) rfl (by decide) ?_
      refine mB 1 (s2 := (7, 53, 19, [some (.ref 10)], [.int 1000000000, .ref 13], 0, 0, (mSH, (mFl I 12 154 1000000000), L))) rfl ?_
      refine mCall (s2 := (6, 162, 0, [some (.ref 13), some (.int 1000000000), none, none], [], 0, 0, (mSH, (mFl I 12 154 1000000000), L))) rfl ?_
      refine w_fill_13 ?_
      show mWP mTb_ mFT ro (7, 53, 22, [some (.ref 10)], [], 0, 0, (mSH, (mFl (mFl I 12 154 1000000000) 13 154 1000000000), L)) _
      refine mB 3 (s2 := (7, 53, 27, [some (.ref 10)], [.int 0, .ref 20], 0, 0, (mSH, (mFl (mFl I 12 154 1000000000) 13 154 1000000000), L))) rfl ?_
      refine mCall (s2 := (6, 162, 0, [some (.ref 20), some (.int 0), none, none], [], 0, 0, (mSH, (mFl (mFl I 12 154 1000000000) 13 154 1000000000), L))) rfl ?_
      refine w_fill_20 ?_
      show mWP mTb_ mFT ro (7, 53, 30, [some (.ref 10)], [], 0, 0, (mSH, (mFl (mFl (mFl I 12 154 1000000000) 13 154 1000000000) 20 154 0), L)) _
      refine mB 3 (s2 := (7, 53, 35, [some (.ref 10)], [.int 0, .ref 21], 0, 0, (mSH, (mFl (mFl (mFl I 12 154 1000000000) 13 154 1000000000) 20 154 0), L))) rfl ?_
      refine mCall (s2 := (6, 162, 0, [some (.ref 21), some (.int 0), none, none], [], 0, 0, (mSH, (mFl (mFl (mFl I 12 154 1000000000) 13 154 1000000000) 20 154 0), L))) rfl ?_
      refine w_fill_21 ?_
      show mWP mTb_ mFT ro (7, 53, 38, [some (.ref 10)], [], 0, 0, (mSH, (mFl (mFl (mFl (mFl I 12 154 1000000000) 13 154 1000000000) 20 154 0) 21 154 0), L)) _
      refine mRt (r := none) (h := (mSH, (mFl (mFl (mFl (mFl I 12 154 1000000000) 13 154 1000000000) 20 154 0) 21 154 0), L)) rfl rfl ?_
      show mWP mTb_ mFT ro (8, 52, 4, [some (.ref 10), some (.ref 6), some (.int (I 9 0)), none, none, none], [], 0, 0, (mSH, (mFl (mFl (mFl (mFl I 12 154 1000000000) 13 154 1000000000) 20 154 0) 21 154 0), L)) _
      refine mB 3 (s2 := (8, 52, 11, [some (.ref 10), some (.ref 6), some (.int (I 9 0)), none, none, none], [.ref 4], 0, 0, (mSH, (mFl (mFl (mFl (mFl I 12 154 1000000000) 13 154 1000000000) 20 154 0) 21 154 0), L))) rfl ?_
      refine mCall (s2 := (7, 39, 0, [some (.ref 4)], [], 0, 0, (mSH, (mFl (mFl (mFl (mFl I 12 154 1000000000) 13 154 1000000000) 20 154 0) 21 154 0), L))) rfl ?_
      refine mB 2 (s2 := (7, 39, 4, [some (.ref 4)], [.int (I 4 1)], 0, 0, (mSH, (mFl (mFl (mFl (mFl I 12 154 1000000000) 13 154 1000000000) 20 154 0) 21 154 0), L))) rfl ?_
      refine mRt (r := (some (.int (I 4 1)))) (h := (mSH, (mFl (mFl (mFl (mFl I 12 154 1000000000) 13 154 1000000000) 20 154 0) 21 154 0), L)) rfl (mRet_int rfl) ?_
      show mWP mTb_ mFT ro (8, 52, 14, [some (.ref 10), some (.ref 6), some (.int (I 9 0)), none, none, none], [.int (I 4 1)], 0, 0, (mSH, (mFl (mFl (mFl (mFl I 12 154 1000000000) 13 154 1000000000) 20 154 0) 21 154 0), L)) _
      refine mB 4 (s2 := (8, 52, 18, [some (.ref 10), some (.ref 6), some (.int (I 9 0)), some (.int ((I 4 1) - 1)), none, none], [.int ((I 4 1) - 1)], 0, 0, (mSH, (mFl (mFl (mFl (mFl I 12 154 1000000000) 13 154 1000000000) 20 154 0) 21 154 0), L))) rfl ?_
      refine mBF (s3 := (8, 52, 21, [some (.ref 10), some (.ref 6), some (.int (I 9 0)), some (.int ((I 4 1) - 1)), none, none], [], 0, 0, (mSH, (mFl (mFl (mFl (mFl I 12 154 1000000000) 13 154 1000000000) 20 154 0) 21 154 0), L))) rfl (by first | (simp only [f0_9, f0_10, f0_11, f1_2, f2_1, f4_1, f6_0, f6_1, f6_2, f6_3, f7_0, f7_1, f7_2, f7_3, f9_0, f9_1, f9_2, f25_0, f25_1, f26_1, f30_1, f32_1, f34_1, f34_3, f34_4, f34_11, f37_0, f37_1, f37_2, f37_3, f38_0, f38_1, f38_2, f39_0, f39_1, f39_2, f41_0, f41_1, f41_2, f41_3, f41_4, f41_5, g34_7, g34_8, hro0, hro1, hro1_0, hro1_1, hro1_2, hro2, hro2_0, hro2_1, hro2_2, hro13, mTn0, mTn1, mTn2, mTn10, of_decide_eq_true c1]; first | decide | rfl) | decide | rfl) ?_
      refine mRt (r := none) (h := (mSH, (mFl (mFl (mFl (mFl I 12 154 1000000000) 13 154 1000000000) 20 154 0) 21 154 0), L)) rfl rfl ?_
      show mWP mTb_ mFT ro (9, 106, 19, [some (.ref 0), some (.int 0)], [], 0, 0, (mSH, (mFl (mFl (mFl (mFl I 12 154 1000000000) 13 154 1000000000) 20 154 0) 21 154 0), L)) _
      refine mB 5 (s2 := (9, 106, 28, [some (.ref 0), some (.int 0)], [.ref 22, .int 0, .ref 10], 0, 0, (mSH, (mFl (mFl (mFl (mFl I 12 154 1000000000) 13 154 1000000000) 20 154 0) 21 154 0), L))) rfl ?_
      refine mCall (s2 := (8, 65, 0, [some (.ref 10), some (.int 0), some (.ref 22), none, none, none, none], [], 0, 0, (mSH, (mFl (mFl (mFl (mFl I 12 154 1000000000) 13 154 1000000000) 20 154 0) 21 154 0), L))) rfl ?_
      refine mB 1 (s2 := (8, 65, 1, [some (.ref 10), some (.int 0), some (.ref 22), none, none, none, none], [.int 0], 0, 0, (mSH, (mFl (mFl (mFl (mFl I 12 154 1000000000) 13 154 1000000000) 20 154 0) 21 154 0), L))) rfl ?_
      refine mBT (s2 := (8, 65, 4, [some (.ref 10), some (.int 0), some (.ref 22), none, none, none, none], [], 0, 0, (mSH, (mFl (mFl (mFl (mFl I 12 154 1000000000) 13 154 1000000000) 20 154 0) 21 154 0), L))) rfl (by decide) ?_
      refine mB 6 (s2 := (8, 65, 15, [some (.ref 10), some (.int 0), some (.ref 22), some (.int 0), none, none, none], [.int 0, .ref 11], 0, 0, (mSH, (mFl (mFl (mFl (mFl I 12 154 1000000000) 13 154 1000000000) 20 154 0) 21 154 0), L))) rfl ?_
      refine mRq (s2 := (8, 65, 16, [some (.ref 10), some (.int 0), some (.ref 22), some (.int 0), none, none, none], [.ref 12], 0, 0, (mSH, (mFl (mFl (mFl (mFl I 12 154 1000000000) 13 154 1000000000) 20 154 0) 21 154 0), L))) rfl (by decide) ?_
      refine mB 1 (s2 := (8, 65, 19, [some (.ref 10), some (.int 0), some (.ref 22), some (.int 0), none, none, none], [.int 153, .ref 12], 0, 0, (mSH, (mFl (mFl (mFl (mFl I 12 154 1000000000) 13 154 1000000000) 20 154 0) 21 154 0), L))) rfl ?_
      refine mRq (s2 := (8, 65, 20, [some (.ref 10), some (.int 0), some (.ref 22), some (.int 0), none, none, none], [.int 1000000000], 0, 0, (mSH, (mFl (mFl (mFl (mFl I 12 154 1000000000) 13 154 1000000000) 20 154 0) 21 154 0), L))) rfl (by decide) ?_
      refine mB 1 (s2 := (8, 65, 22, [some (.ref 10), some (.int 0), some (.ref 22), some (.int 0), none, none, none], [.int 1000000000, .int 1000000000], 0, 0, (mSH, (mFl (mFl (mFl (mFl I 12 154 1000000000) 13 154 1000000000) 20 154 0) 21 154 0), L))) rfl ?_
      refine mBT (s2 := (8, 65, 25, [some (.ref 10), some (.int 0), some (.ref 22), some (.int 0), none, none, none], [], 0, 0, (mSH, (mFl (mFl (mFl (mFl I 12 154 1000000000) 13 154 1000000000) 20 154 0) 21 154 0), L))) rfl (by decide) ?_
      refine mB 1 (s2 := (8, 65, 26, [some (.ref 10), some (.int 0), some (.ref 22), some (.int 0), none, none, none], [.int 0], 0, 0, (mSH, (mFl (mFl (mFl (mFl I 12 154 1000000000) 13 154 1000000000) 20 154 0) 21 154 0), L))) rfl ?_
      refine mRt (r := (some (.int 0))) (h := (mSH, (mFl (mFl (mFl (mFl I 12 154 1000000000) 13 154 1000000000) 20 154 0) 21 154 0), L)) rfl rfl ?_
      show mWP mTb_ mFT ro (9, 106, 31, [some (.ref 0), some (.int 0)], [.int 0], 0, 0, (mSH, (mFl (mFl (mFl (mFl I 12 154 1000000000) 13 154 1000000000) 20 154 0) 21 154 0), L)) _
      refine mRt (r := (some (.int 0))) (h := (mSH, (mFl (mFl (mFl (mFl I 12 154 1000000000) 13 154 1000000000) 20 154 0) 21 154 0), L)) rfl rfl ?_
      show mWP mTb_ mFT ro (10, 96, 19, [some (.ref 0), some (.int ((ro 0).2 1))], [.int 0], 0, 0, (mSH, (mFl (mFl (mFl (mFl I 12 154 1000000000) 13 154 1000000000) 20 154 0) 21 154 0), L)) _
      refine mBT (s2 := (10, 96, 22, [some (.ref 0), some (.int ((ro 0).2 1))], [], 0, 0, (mSH, (mFl (mFl (mFl (mFl I 12 154 1000000000) 13 154 1000000000) 20 154 0) 21 154 0), L))) rfl (by decide) ?_
      refine mB 2 (s2 := (10, 96, 25, [some (.ref 0), some (.int ((ro 0).2 1))], [.int (-3), .ref 0], 0, 0, (mSH, (mFl (mFl (mFl (mFl I 12 154 1000000000) 13 154 1000000000) 20 154 0) 21 154 0), L))) rfl ?_
      refine mCall (s2 := (9, 103, 0, [some (.ref 0), some (.int (-3))], [], 0, 0, (mSH, (mFl (mFl (mFl (mFl I 12 154 1000000000) 13 154 1000000000) 20 154 0) 21 154 0), L))) rfl ?_
      refine mB 2 (s2 := (9, 103, 3, [some (.ref 0), some (.int (-3))], [.int (-2), .int (-3)], 0, 0, (mSH, (mFl (mFl (mFl (mFl I 12 154 1000000000) 13 154 1000000000) 20 154 0) 21 154 0), L))) rfl ?_
      refine mBF (s3 := (9, 103, 19, [some (.ref 0), some (.int (-3))], [], 0, 0, (mSH, (mFl (mFl (mFl (mFl I 12 154 1000000000) 13 154 1000000000) 20 154 0) 21 154 0), L))) rfl (by decide) ?_
      refine mB 2 (s2 := (9, 103, 22, [some (.ref 0), some (.int (-3))], [.int (-3), .int (-3)], 0, 0, (mSH, (mFl (mFl (mFl (mFl I 12 154 1000000000) 13 154 1000000000) 20 154 0) 21 154 0), L))) rfl ?_
      refine mBT (s2 := (9, 103, 25, [some (.ref 0), some (.int (-3))], [], 0, 0, (mSH, (mFl (mFl (mFl (mFl I 12 154 1000000000) 13 154 1000000000) 20 154 0) 21 154 0), L))) rfl (by decide) ?_
      refine mB 8 (s2 := (9, 103, 49, [some (.ref 0), some (.int (-3))], [.int (-3)], 0, 0, (mSH, (mUp (mFl (mFl (mFl (mFl I 12 154 1000000000) 13 154 1000000000) 20 154 0) 21 154 0) 0 10 ((I 0 10) + 1)), L))) rfl ?_
      refine mRt (r := (some (.int (-3)))) (h := (mSH, (mUp (mFl (mFl (mFl (mFl I 12 154 1000000000) 13 154 1000000000) 20 154 0) 21 154 0) 0 10 ((I 0 10) + 1)), L)) rfl (mRet_int rfl) ?_
      show mWP mTb_ mFT ro (10, 96, 28, [some (.ref 0), some (.int ((ro 0).2 1))], [.int (-3)], 0, 0, (mSH, (mUp (mFl (mFl (mFl (mFl I 12 154 1000000000) 13 154 1000000000) 20 154 0) 21 154 0) 0 10 ((I 0 10) + 1)), L)) _
      refine mRt (r := (some (.int (-3)))) (h := (mSH, (mUp (mFl (mFl (mFl (mFl I 12 154 1000000000) 13 154 1000000000) 20 154 0) 21 154 0) 0 10 ((I 0 10) + 1)), L)) rfl (mRet_int rfl) ?_
      show mWP mTb_ mFT ro (11, 163, 685, [some (.ref 1000), some (.ref 0), some (.ref 34), some (.int 0)], [.int (-3)], 62, 3336, (mSH, (mUp (mFl (mFl (mFl (mFl I 12 154 1000000000) 13 154 1000000000) 20 154 0) 21 154 0) 0 10 ((I 0 10) + 1)), L)) _
      refine mB 5 (s2 := (11, 163, 690, [some (.ref 1000), some (.ref 0), some (.ref 34), some (.int 0)], [.int 1, .ref 1000, .ref 34, .int (-3)], 62, 3336, (mSH, (mUp (mFl (mFl (mFl (mFl I 12 154 1000000000) 13 154 1000000000) 20 154 0) 21 154 0) 0 10 ((I 0 10) + 1)), L))) rfl ?_
      refine mRq (s2 := (11, 163, 691, [some (.ref 1000), some (.ref 0), some (.ref 34), some (.int 0)], [.int ((ro 0).2 1), .ref 34, .int (-3)], 62, 3336, (mSH, (mUp (mFl (mFl (mFl (mFl I 12 154 1000000000) 13 154 1000000000) 20 154 0) 21 154 0) 0 10 ((I 0 10) + 1)), L))) rfl (by first | (simp only [f0_9, f0_10, f0_11, f1_2, f2_1, f4_1, f6_0, f6_1, f6_2, f6_3, f7_0, f7_1, f7_2, f7_3, f9_0, f9_1, f9_2, f25_0, f25_1, f26_1, f30_1, f32_1, f34_1, f34_3, f34_4, f34_11, f37_0, f37_1, f37_2, f37_3, f38_0, f38_1, f38_2, f39_0, f39_1, f39_2, f41_0, f41_1, f41_2, f41_3, f41_4, f41_5, g34_7, g34_8, hro0, hro1, hro1_0, hro1_1, hro1_2, hro2, hro2_0, hro2_1, hro2_2, hro13, mTn0, mTn1, mTn2, mTn10, of_decide_eq_true c1]; first | decide | rfl) | decide | rfl) ?_
      refine mCall (s2 := (10, 147, 0, [some (.ref 34), some (.int ((ro 0).2 1)), none, none, none], [], 0, 0, (mSH, (mUp (mFl (mFl (mFl (mFl I 12 154 1000000000) 13 154 1000000000) 20 154 0) 21 154 0) 0 10 ((I 0 10) + 1)), L))) rfl ?_
      refine mB 3 (s2 := (10, 147, 3, [some (.ref 34), some (.int ((ro 0).2 1)), none, none, none], [.int 1, .int 0, .int ((ro 0).2 1)], 0, 0, (mSH, (mUp (mFl (mFl (mFl (mFl I 12 154 1000000000) 13 154 1000000000) 20 154 0) 21 154 0) 0 10 ((I 0 10) + 1)), L))) rfl ?_
      refine mCall (s2 := (9, 112, 0, [some (.int ((ro 0).2 1)), some (.int 0), some (.int 1)], [], 0, 0, (mSH, (mUp (mFl (mFl (mFl (mFl I 12 154 1000000000) 13 154 1000000000) 20 154 0) 21 154 0) 0 10 ((I 0 10) + 1)), L))) rfl ?_
      refine mB 2 (s2 := (9, 112, 2, [some (.int ((ro 0).2 1)), some (.int 0), some (.int 1)], [.int 0, .int ((ro 0).2 1)], 0, 0, (mSH, (mUp (mFl (mFl (mFl (mFl I 12 154 1000000000) 13 154 1000000000) 20 154 0) 21 154 0) 0 10 ((I 0 10) + 1)), L))) rfl ?_
      refine mBF (s3 := (9, 112, 5, [some (.int ((ro 0).2 1)), some (.int 0), some (.int 1)], [], 0, 0, (mSH, (mUp (mFl (mFl (mFl (mFl I 12 154 1000000000) 13 154 1000000000) 20 154 0) 21 154 0) 0 10 ((I 0 10) + 1)), L))) rfl (by first | (simp only [f0_9, f0_10, f0_11, f1_2, f2_1, f4_1, f6_0, f6_1, f6_2, f6_3, f7_0, f7_1, f7_2, f7_3, f9_0, f9_1, f9_2, f25_0, f25_1, f26_1, f30_1, f32_1, f34_1, f34_3, f34_4, f34_11, f37_0, f37_1, f37_2, f37_3, f38_0, f38_1, f38_2, f39_0, f39_1, f39_2, f41_0, f41_1, f41_2, f41_3, f41_4, f41_5, g34_7, g34_8, hro0, hro1, hro1_0, hro1_1, hro1_2, hro2, hro2_0, hro2_1, hro2_2, hro13, mTn0, mTn1, mTn2, mTn10, of_decide_eq_true c1]; first | decide | rfl) | decide | rfl) ?_
      refine mB 2 (s2 := (9, 112, 7, [some (.int ((ro 0).2 1)), some (.int 0), some (.int 1)], [.int 1, .int ((ro 0).2 1)], 0, 0, (mSH, (mUp (mFl (mFl (mFl (mFl I 12 154 1000000000) 13 154 1000000000) 20 154 0) 21 154 0) 0 10 ((I 0 10) + 1)), L))) rfl ?_
      refine mBF (s3 := (9, 112, 10, [some (.int ((ro 0).2 1)), some (.int 0), some (.int 1)], [], 0, 0, (mSH, (mUp (mFl (mFl (mFl (mFl I 12 154 1000000000) 13 154 1000000000) 20 154 0) 21 154 0) 0 10 ((I 0 10) + 1)), L))) rfl (by first | (simp only [f0_9, f0_10, f0_11, f1_2, f2_1, f4_1, f6_0, f6_1, f6_2, f6_3, f7_0, f7_1, f7_2, f7_3, f9_0, f9_1, f9_2, f25_0, f25_1, f26_1, f30_1, f32_1, f34_1, f34_3, f34_4, f34_11, f37_0, f37_1, f37_2, f37_3, f38_0, f38_1, f38_2, f39_0, f39_1, f39_2, f41_0, f41_1, f41_2, f41_3, f41_4, f41_5, g34_7, g34_8, hro0, hro1, hro1_0, hro1_1, hro1_2, hro2, hro2_0, hro2_1, hro2_2, hro13, mTn0, mTn1, mTn2, mTn10, of_decide_eq_true c1]; first | decide | rfl) | decide | rfl) ?_
      refine mB 2 (s2 := (9, 112, 15, [some (.int ((ro 0).2 1)), some (.int 0), some (.int 1)], [.int 1], 0, 0, (mSH, (mUp (mFl (mFl (mFl (mFl I 12 154 1000000000) 13 154 1000000000) 20 154 0) 21 154 0) 0 10 ((I 0 10) + 1)), L))) rfl ?_
      refine mRt (r := (some (.int 1))) (h := (mSH, (mUp (mFl (mFl (mFl (mFl I 12 154 1000000000) 13 154 1000000000) 20 154 0) 21 154 0) 0 10 ((I 0 10) + 1)), L)) rfl rfl ?_
      show mWP mTb_ mFT ro (10, 147, 6, [some (.ref 34), some (.int ((ro 0).2 1)), none, none, none], [.int 1], 0, 0, (mSH, (mUp (mFl (mFl (mFl (mFl I 12 154 1000000000) 13 154 1000000000) 20 154 0) 21 154 0) 0 10 ((I 0 10) + 1)), L)) _
      refine mBF (s3 := (10, 147, 16, [some (.ref 34), some (.int ((ro 0).2 1)), none, none, none], [], 0, 0, (mSH, (mUp (mFl (mFl (mFl (mFl I 12 154 1000000000) 13 154 1000000000) 20 154 0) 21 154 0) 0 10 ((I 0 10) + 1)), L))) rfl (by decide) ?_
      refine mB 1 (s2 := (10, 147, 17, [some (.ref 34), some (.int ((ro 0).2 1)), none, none, none], [.ref 34], 0, 0, (mSH, (mUp (mFl (mFl (mFl (mFl I 12 154 1000000000) 13 154 1000000000) 20 154 0) 21 154 0) 0 10 ((I 0 10) + 1)), L))) rfl ?_
      refine mCall (s2 := (9, 132, 0, [some (.ref 34)], [], 0, 0, (mSH, (mUp (mFl (mFl (mFl (mFl I 12 154 1000000000) 13 154 1000000000) 20 154 0) 21 154 0) 0 10 ((I 0 10) + 1)), L))) rfl ?_
      refine mB 4 (s2 := (9, 132, 6, [some (.ref 34)], [.int 0, .ref 38, .ref 34], 0, 0, (mSH, (mUp (mFl (mFl (mFl (mFl I 12 154 1000000000) 13 154 1000000000) 20 154 0) 21 154 0) 0 10 ((I 0 10) + 1)), L))) rfl ?_
      refine mRq (s2 := (9, 132, 7, [some (.ref 34)], [.int (I 38 0), .ref 34], 0, 0, (mSH, (mUp (mFl (mFl (mFl (mFl I 12 154 1000000000) 13 154 1000000000) 20 154 0) 21 154 0) 0 10 ((I 0 10) + 1)), L))) rfl (by decide) ?_
      refine mB 1 (s2 := (9, 132, 8, [some (.ref 34)], [.int 0, .int (I 38 0), .ref 34], 0, 0, (mSH, (mUp (mFl (mFl (mFl (mFl I 12 154 1000000000) 13 154 1000000000) 20 154 0) 21 154 0) 0 10 ((I 0 10) + 1)), L))) rfl ?_
      refine mCall (s2 := (8, 131, 0, [some (.ref 34), some (.int (I 38 0)), some (.int 0), none], [], 0, 0, (mSH, (mUp (mFl (mFl (mFl (mFl I 12 154 1000000000) 13 154 1000000000) 20 154 0) 21 154 0) 0 10 ((I 0 10) + 1)), L))) rfl ?_
      refine mB 1 (s2 := (8, 131, 1, [some (.ref 34), some (.int (I 38 0)), some (.int 0), none], [.ref 34], 0, 0, (mSH, (mUp (mFl (mFl (mFl (mFl I 12 154 1000000000) 13 154 1000000000) 20 154 0) 21 154 0) 0 10 ((I 0 10) + 1)), L))) rfl ?_
      refine mCall (s2 := (7, 130, 0, [some (.ref 34)], [], 0, 0, (mSH, (mUp (mFl (mFl (mFl (mFl I 12 154 1000000000) 13 154 1000000000) 20 154 0) 21 154 0) 0 10 ((I 0 10) + 1)), L))) rfl ?_
      refine mB 13 (s2 := (7, 130, 21, [some (.ref 34)], [.int (-1), .int 0, .ref 46], 0, 0, (mSH, (mUp (mUp (mUp (mUp (mFl (mFl (mFl (mFl I 12 154 1000000000) 13 154 1000000000) 20 154 0) 21 154 0) 0 10 ((I 0 10) + 1)) 34 20 0) 34 21 0) 34 22 0), L))) rfl ?_
      refine mRq (s2 := (7, 130, 22, [some (.ref 34)], [], 0, 0, (mSH, (mUp (mUp (mUp (mUp (mUp (mFl (mFl (mFl (mFl I 12 154 1000000000) 13 154 1000000000) 20 154 0) 21 154 0) 0 10 ((I 0 10) + 1)) 34 20 0) 34 21 0) 34 22 0) 46 0 (-1)), L))) rfl (by decide) ?_
      refine mB 4 (s2 := (7, 130, 29, [some (.ref 34)], [.int (-1), .int 10, .ref 46], 0, 0, (mSH, (mUp (mUp (mUp (mUp (mUp (mFl (mFl (mFl (mFl I 12 154 1000000000) 13 154 1000000000) 20 154 0) 21 154 0) 0 10 ((I 0 10) + 1)) 34 20 0) 34 21 0) 34 22 0) 46 0 (-1)), L))) rfl ?_
      refine mRq (s2 := (7, 130, 30, [some (.ref 34)], [], 0, 0, (mSH, (mUp (mUp (mUp (mUp (mUp (mUp (mFl (mFl (mFl (mFl I 12 154 1000000000) 13 154 1000000000) 20 154 0) 21 154 0) 0 10 ((I 0 10) + 1)) 34 20 0) 34 21 0) 34 22 0) 46 0 (-1)) 46 10 (-1)), L))) rfl (by decide) ?_
      refine mRt (r := none) (h := (mSH, (mUp (mUp (mUp (mUp (mUp (mUp (mFl (mFl (mFl (mFl I 12 154 1000000000) 13 154 1000000000) 20 154 0) 21 154 0) 0 10 ((I 0 10) + 1)) 34 20 0) 34 21 0) 34 22 0) 46 0 (-1)) 46 10 (-1)), L)) rfl rfl ?_
      show mWP mTb_ mFT ro (8, 131, 4, [some (.ref 34), some (.int (I 38 0)), some (.int 0), none], [], 0, 0, (mSH, (mUp (mUp (mUp (mUp (mUp (mUp (mFl (mFl (mFl (mFl I 12 154 1000000000) 13 154 1000000000) 20 154 0) 21 154 0) 0 10 ((I 0 10) + 1)) 34 20 0) 34 21 0) 34 22 0) 46 0 (-1)) 46 10 (-1)), L)) _
      refine mB 5 (s2 := (8, 131, 11, [some (.ref 34), some (.int (I 38 0)), some (.int 0), some (.int 0)], [.int (I 34 1), .int 0], 0, 0, (mSH, (mUp (mUp (mUp (mUp (mUp (mUp (mFl (mFl (mFl (mFl I 12 154 1000000000) 13 154 1000000000) 20 154 0) 21 154 0) 0 10 ((I 0 10) + 1)) 34 20 0) 34 21 0) 34 22 0) 46 0 (-1)) 46 10 (-1)), L))) rfl ?_
      refine mBT (s2 := (8, 131, 34, [some (.ref 34), some (.int (I 38 0)), some (.int 0), some (.int 0)], [], 0, 0, (mSH, (mUp (mUp (mUp (mUp (mUp (mUp (mFl (mFl (mFl (mFl I 12 154 1000000000) 13 154 1000000000) 20 154 0) 21 154 0) 0 10 ((I 0 10) + 1)) 34 20 0) 34 21 0) 34 22 0) 46 0 (-1)) 46 10 (-1)), L))) rfl (by first | (simp only [f0_9, f0_10, f0_11, f1_2, f2_1, f4_1, f6_0, f6_1, f6_2, f6_3, f7_0, f7_1, f7_2, f7_3, f9_0, f9_1, f9_2, f25_0, f25_1, f26_1, f30_1, f32_1, f34_1, f34_3, f34_4, f34_11, f37_0, f37_1, f37_2, f37_3, f38_0, f38_1, f38_2, f39_0, f39_1, f39_2, f41_0, f41_1, f41_2, f41_3, f41_4, f41_5, g34_7, g34_8, hro0, hro1, hro1_0, hro1_1, hro1_2, hro2, hro2_0, hro2_1, hro2_2, hro13, mTn0, mTn1, mTn2, mTn10, of_decide_eq_true c1]; first | decide | rfl) | decide | rfl) ?_
      refine mB 2 (s2 := (8, 131, 38, [some (.ref 34), some (.int (I 38 0)), some (.int 0), some (.int 0)], [.int 0], 0, 0, (mSH, (mUp (mUp (mUp (mUp (mUp (mUp (mFl (mFl (mFl (mFl I 12 154 1000000000) 13 154 1000000000) 20 154 0) 21 154 0) 0 10 ((I 0 10) + 1)) 34 20 0) 34 21 0) 34 22 0) 46 0 (-1)) 46 10 (-1)), L))) rfl ?_
      refine mBT (s2 := (8, 131, 45, [some (.ref 34), some (.int (I 38 0)), some (.int 0), some (.int 0)], [], 0, 0, (mSH, (mUp (mUp (mUp (mUp (mUp (mUp (mFl (mFl (mFl (mFl I 12 154 1000000000) 13 154 1000000000) 20 154 0) 21 154 0) 0 10 ((I 0 10) + 1)) 34 20 0) 34 21 0) 34 22 0) 46 0 (-1)) 46 10 (-1)), L))) rfl (by decide) ?_
      refine mB 1 (s2 := (8, 131, 46, [some (.ref 34), some (.int (I 38 0)), some (.int 0), some (.int 0)], [.int 0], 0, 0, (mSH, (mUp (mUp (mUp (mUp (mUp (mUp (mFl (mFl (mFl (mFl I 12 154 1000000000) 13 154 1000000000) 20 154 0) 21 154 0) 0 10 ((I 0 10) + 1)) 34 20 0) 34 21 0) 34 22 0) 46 0 (-1)) 46 10 (-1)), L))) rfl ?_
      refine mRt (r := (some (.int 0))) (h := (mSH, (mUp (mUp (mUp (mUp (mUp (mUp (mFl (mFl (mFl (mFl I 12 154 1000000000) 13 154 1000000000) 20 154 0) 21 154 0) 0 10 ((I 0 10) + 1)) 34 20 0) 34 21 0) 34 22 0) 46 0 (-1)) 46 10 (-1)), L)) rfl rfl ?_
      show mWP mTb_ mFT ro (9, 132, 11, [some (.ref 34)], [.int 0], 0, 0, (mSH, (mUp (mUp (mUp (mUp (mUp (mUp (mFl (mFl (mFl (mFl I 12 154 1000000000) 13 154 1000000000) 20 154 0) 21 154 0) 0 10 ((I 0 10) + 1)) 34 20 0) 34 21 0) 34 22 0) 46 0 (-1)) 46 10 (-1)), L)) _
      refine mRt (r := (some (.int 0))) (h := (mSH, (mUp (mUp (mUp (mUp (mUp (mUp (mFl (mFl (mFl (mFl I 12 154 1000000000) 13 154 1000000000) 20 154 0) 21 154 0) 0 10 ((I 0 10) + 1)) 34 20 0) 34 21 0) 34 22 0) 46 0 (-1)) 46 10 (-1)), L)) rfl rfl ?_
      show mWP mTb_ mFT ro (10, 147, 20, [some (.ref 34), some (.int ((ro 0).2 1)), none, none, none], [.int 0], 0, 0, (mSH, (mUp (mUp (mUp (mUp (mUp (mUp (mFl (mFl (mFl (mFl I 12 154 1000000000) 13 154 1000000000) 20 154 0) 21 154 0) 0 10 ((I 0 10) + 1)) 34 20 0) 34 21 0) 34 22 0) 46 0 (-1)) 46 10 (-1)), L)) _
      refine mBT (s2 := (10, 147, 23, [some (.ref 34), some (.int ((ro 0).2 1)), none, none, none], [], 0, 0, (mSH, (mUp (mUp (mUp (mUp (mUp (mUp (mFl (mFl (mFl (mFl I 12 154 1000000000) 13 154 1000000000) 20 154 0) 21 154 0) 0 10 ((I 0 10) + 1)) 34 20 0) 34 21 0) 34 22 0) 46 0 (-1)) 46 10 (-1)), L))) rfl (by decide) ?_
      refine mB 2 (s2 := (10, 147, 26, [some (.ref 34), some (.int ((ro 0).2 1)), none, none, none], [.int (-3), .ref 34], 0, 0, (mSH, (mUp (mUp (mUp (mUp (mUp (mUp (mFl (mFl (mFl (mFl I 12 154 1000000000) 13 154 1000000000) 20 154 0) 21 154 0) 0 10 ((I 0 10) + 1)) 34 20 0) 34 21 0) 34 22 0) 46 0 (-1)) 46 10 (-1)), L))) rfl ?_
      refine mCall (s2 := (9, 113, 0, [some (.ref 34), some (.int (-3))], [], 0, 0, (mSH, (mUp (mUp (mUp (mUp (mUp (mUp (mFl (mFl (mFl (mFl I 12 154 1000000000) 13 154 1000000000) 20 154 0) 21 154 0) 0 10 ((I 0 10) + 1)) 34 20 0) 34 21 0) 34 22 0) 46 0 (-1)) 46 10 (-1)), L))) rfl ?_
      refine mB 6 (s2 := (9, 113, 9, [some (.ref 34), some (.int (-3))], [.int 1, .ref 39, .int 1, .ref 39], 0, 0, (mSH, (mUp (mUp (mUp (mUp (mUp (mUp (mFl (mFl (mFl (mFl I 12 154 1000000000) 13 154 1000000000) 20 154 0) 21 154 0) 0 10 ((I 0 10) + 1)) 34 20 0) 34 21 0) 34 22 0) 46 0 (-1)) 46 10 (-1)), L))) rfl ?_
      refine mRq (s2 := (9, 113, 10, [some (.ref 34), some (.int (-3))], [.int (I 39 1), .int 1, .ref 39], 0, 0, (mSH, (mUp (mUp (mUp (mUp (mUp (mUp (mFl (mFl (mFl (mFl I 12 154 1000000000) 13 154 1000000000) 20 154 0) 21 154 0) 0 10 ((I 0 10) + 1)) 34 20 0) 34 21 0) 34 22 0) 46 0 (-1)) 46 10 (-1)), L))) rfl (by decide) ?_
      refine mB 2 (s2 := (9, 113, 12, [some (.ref 34), some (.int (-3))], [.int ((I 39 1) + 1), .int 1, .ref 39], 0, 0, (mSH, (mUp (mUp (mUp (mUp (mUp (mUp (mFl (mFl (mFl (mFl I 12 154 1000000000) 13 154 1000000000) 20 154 0) 21 154 0) 0 10 ((I 0 10) + 1)) 34 20 0) 34 21 0) 34 22 0) 46 0 (-1)) 46 10 (-1)), L))) rfl ?_
      refine mRq (s2 := (9, 113, 13, [some (.ref 34), some (.int (-3))], [], 0, 0, (mSH, (mUp (mUp (mUp (mUp (mUp (mUp (mUp (mFl (mFl (mFl (mFl I 12 154 1000000000) 13 154 1000000000) 20 154 0) 21 154 0) 0 10 ((I 0 10) + 1)) 34 20 0) 34 21 0) 34 22 0) 46 0 (-1)) 46 10 (-1)) 39 1 ((I 39 1) + 1)), L))) rfl (by decide) ?_
      refine mB 1 (s2 := (9, 113, 14, [some (.ref 34), some (.int (-3))], [.int (-3)], 0, 0, (mSH, (mUp (mUp (mUp (mUp (mUp (mUp (mUp (mFl (mFl (mFl (mFl I 12 154 1000000000) 13 154 1000000000) 20 154 0) 21 154 0) 0 10 ((I 0 10) + 1)) 34 20 0) 34 21 0) 34 22 0) 46 0 (-1)) 46 10 (-1)) 39 1 ((I 39 1) + 1)), L))) rfl ?_
      refine mRt (r := (some (.int (-3)))) (h := (mSH, (mUp (mUp (mUp (mUp (mUp (mUp (mUp (mFl (mFl (mFl (mFl I 12 154 1000000000) 13 154 1000000000) 20 154 0) 21 154 0) 0 10 ((I 0 10) + 1)) 34 20 0) 34 21 0) 34 22 0) 46 0 (-1)) 46 10 (-1)) 39 1 ((I 39 1) + 1)), L)) rfl (mRet_int rfl) ?_
      show mWP mTb_ mFT ro (10, 147, 29, [some (.ref 34), some (.int ((ro 0).2 1)), none, none, none], [.int (-3)], 0, 0, (mSH, (mUp (mUp (mUp (mUp (mUp (mUp (mUp (mFl (mFl (mFl (mFl I 12 154 1000000000) 13 154 1000000000) 20 154 0) 21 154 0) 0 10 ((I 0 10) + 1)) 34 20 0) 34 21 0) 34 22 0) 46 0 (-1)) 46 10 (-1)) 39 1 ((I 39 1) + 1)), L)) _
      refine mRt (r := (some (.int (-3)))) (h := (mSH, (mUp (mUp (mUp (mUp (mUp (mUp (mUp (mFl (mFl (mFl (mFl I 12 154 1000000000) 13 154 1000000000) 20 154 0) 21 154 0) 0 10 ((I 0 10) + 1)) 34 20 0) 34 21 0) 34 22 0) 46 0 (-1)) 46 10 (-1)) 39 1 ((I 39 1) + 1)), L)) rfl (mRet_int rfl) ?_
      show mWP mTb_ mFT ro (11, 163, 694, [some (.ref 1000), some (.ref 0), some (.ref 34), some (.int 0)], [.int (-3), .int (-3)], 62, 3336, (mSH, (mUp (mUp (mUp (mUp (mUp (mUp (mUp (mFl (mFl (mFl (mFl I 12 154 1000000000) 13 154 1000000000) 20 154 0) 21 154 0) 0 10 ((I 0 10) + 1)) 34 20 0) 34 21 0) 34 22 0) 46 0 (-1)) 46 10 (-1)) 39 1 ((I 39 1) + 1)), L)) _
      refine mBT (s2 := (11, 163, 808, [some (.ref 1000), some (.ref 0), some (.ref 34), some (.int 0)], [], 62, 3336, (mSH, (mUp (mUp (mUp (mUp (mUp (mUp (mUp (mFl (mFl (mFl (mFl I 12 154 1000000000) 13 154 1000000000) 20 154 0) 21 154 0) 0 10 ((I 0 10) + 1)) 34 20 0) 34 21 0) 34 22 0) 46 0 (-1)) 46 10 (-1)) 39 1 ((I 39 1) + 1)), L))) rfl (by decide) ?_
      exact h2 (of_decide_eq_false c0) (of_decide_eq_true c1)
    · refine mB 1 (s2 := (9, 108, 14, [some (.int ((ro 0).2 1))], [.int 0], 0, 0, (mSH, I, L))) rfl ?_
      refine mRt (r := (some (.int 0))) (h := (mSH, I, L)) rfl rfl ?_
      show mWP mTb_ mFT ro (10, 96, 4, [some (.ref 0), some (.int ((ro 0).2 1))], [.int 0], 0, 0, (mSH, I, L)) _
      refine mBT (s2 := (10, 96, 7, [some (.ref 0), some (.int ((ro 0).2 1))], [], 0, 0, (mSH, I, L))) rfl (by decide) ?_
      refine mB 2 (s2 := (10, 96, 10, [some (.ref 0), some (.int ((ro 0).2 1))], [.int (-2), .ref 0], 0, 0, (mSH, I, L))) rfl ?_
      refine mCall (s2 := (9, 103, 0, [some (.ref 0), some (.int (-2))], [], 0, 0, (mSH, I, L))) rfl ?_
      refine mB 2 (s2 := (9, 103, 3, [some (.ref 0), some (.int (-2))], [.int (-2), .int (-2)], 0, 0, (mSH, I, L))) rfl ?_
      refine mBT (s2 := (9, 103, 6, [some (.ref 0), some (.int (-2))], [], 0, 0, (mSH, I, L))) rfl (by decide) ?_
      refine mB 8 (s2 := (9, 103, 49, [some (.ref 0), some (.int (-2))], [.int (-2)], 0, 0, (mSH, (mUp I 0 9 ((I 0 9) + 1)), L))) rfl ?_
      refine mRt (r := (some (.int (-2)))) (h := (mSH, (mUp I 0 9 ((I 0 9) + 1)), L)) rfl (mRet_int rfl) ?_
      show mWP mTb_ mFT ro (10, 96, 13, [some (.ref 0), some (.int ((ro 0).2 1))], [.int (-2)], 0, 0, (mSH, (mUp I 0 9 ((I 0 9) + 1)), L)) _
      refine mRt (r := (some (.int (-2)))) (h := (mSH, (mUp I 0 9 ((I 0 9) + 1)), L)) rfl (mRet_int rfl) ?_
      show mWP mTb_ mFT ro (11, 163, 685, [some (.ref 1000), some (.ref 0), some (.ref 34), some (.int 0)], [.int (-2)], 62, 3336, (mSH, (mUp I 0 9 ((I 0 9) + 1)), L)) _
      refine mB 5 (s2 := (11, 163, 690, [some (.ref 1000), some (.ref 0), some (.ref 34), some (.int 0)], [.int 1, .ref 1000, .ref 34, .int (-2)], 62, 3336, (mSH, (mUp I 0 9 ((I 0 9) + 1)), L))) rfl ?_
      refine mRq (s2 := (11, 163, 691, [some (.ref 1000), some (.ref 0), some (.ref 34), some (.int 0)], [.int ((ro 0).2 1), .ref 34, .int (-2)], 62, 3336, (mSH, (mUp I 0 9 ((I 0 9) + 1)), L))) rfl (by first | (simp only [f0_9, f0_10, f0_11, f1_2, f2_1, f4_1, f6_0, f6_1, f6_2, f6_3, f7_0, f7_1, f7_2, f7_3, f9_0, f9_1, f9_2, f25_0, f25_1, f26_1, f30_1, f32_1, f34_1, f34_3, f34_4, f34_11, f37_0, f37_1, f37_2, f37_3, f38_0, f38_1, f38_2, f39_0, f39_1, f39_2, f41_0, f41_1, f41_2, f41_3, f41_4, f41_5, g34_7, g34_8, hro0, hro1, hro1_0, hro1_1, hro1_2, hro2, hro2_0, hro2_1, hro2_2, hro13, mTn0, mTn1, mTn2, mTn10]; first | decide | rfl) | decide | rfl) ?_
      refine mCall (s2 := (10, 147, 0, [some (.ref 34), some (.int ((ro 0).2 1)), none, none, none], [], 0, 0, (mSH, (mUp I 0 9 ((I 0 9) + 1)), L))) rfl ?_
      refine mB 3 (s2 := (10, 147, 3, [some (.ref 34), some (.int ((ro 0).2 1)), none, none, none], [.int 1, .int 0, .int ((ro 0).2 1)], 0, 0, (mSH, (mUp I 0 9 ((I 0 9) + 1)), L))) rfl ?_
      refine mCall (s2 := (9, 112, 0, [some (.int ((ro 0).2 1)), some (.int 0), some (.int 1)], [], 0, 0, (mSH, (mUp I 0 9 ((I 0 9) + 1)), L))) rfl ?_
      refine mB 2 (s2 := (9, 112, 2, [some (.int ((ro 0).2 1)), some (.int 0), some (.int 1)], [.int 0, .int ((ro 0).2 1)], 0, 0, (mSH, (mUp I 0 9 ((I 0 9) + 1)), L))) rfl ?_
      refine mBr (s2 := (9, 112, 14, [some (.int ((ro 0).2 1)), some (.int 0), some (.int 1)], [], 0, 0, (mSH, (mUp I 0 9 ((I 0 9) + 1)), L))) (s3 := (9, 112, 5, [some (.int ((ro 0).2 1)), some (.int 0), some (.int 1)], [], 0, 0, (mSH, (mUp I 0 9 ((I 0 9) + 1)), L))) rfl (fun c2 => ?_) (fun c2 => ?_)
      · refine mB 1 (s2 := (9, 112, 15, [some (.int ((ro 0).2 1)), some (.int 0), some (.int 1)], [.int 0], 0, 0, (mSH, (mUp I 0 9 ((I 0 9) + 1)), L))) rfl ?_
        refine mRt (r := (some (.int 0))) (h := (mSH, (mUp I 0 9 ((I 0 9) + 1)), L)) rfl rfl ?_
        show mWP mTb_ mFT ro (10, 147, 6, [some (.ref 34), some (.int ((ro 0).2 1)), none, none, none], [.int 0], 0, 0, (mSH, (mUp I 0 9 ((I 0 9) + 1)), L)) _
        refine mBT (s2 := (10, 147, 9, [some (.ref 34), some (.int ((ro 0).2 1)), none, none, none], [], 0, 0, (mSH, (mUp I 0 9 ((I 0 9) + 1)), L))) rfl (by decide) ?_
        refine mB 2 (s2 := (10, 147, 12, [some (.ref 34), some (.int ((ro 0).2 1)), none, none, none], [.int (-2), .ref 34], 0, 0, (mSH, (mUp I 0 9 ((I 0 9) + 1)), L))) rfl ?_
        refine mCall (s2 := (9, 113, 0, [some (.ref 34), some (.int (-2))], [], 0, 0, (mSH, (mUp I 0 9 ((I 0 9) + 1)), L))) rfl ?_
        refine mB 6 (s2 := (9, 113, 9, [some (.ref 34), some (.int (-2))], [.int 0, .ref 39, .int 0, .ref 39], 0, 0, (mSH, (mUp I 0 9 ((I 0 9) + 1)), L))) rfl ?_
        refine mRq (s2 := (9, 113, 10, [some (.ref 34), some (.int (-2))], [.int (I 39 0), .int 0, .ref 39], 0, 0, (mSH, (mUp I 0 9 ((I 0 9) + 1)), L))) rfl (by decide) ?_
        refine mB 2 (s2 := (9, 113, 12, [some (.ref 34), some (.int (-2))], [.int ((I 39 0) + 1), .int 0, .ref 39], 0, 0, (mSH, (mUp I 0 9 ((I 0 9) + 1)), L))) rfl ?_
        refine mRq (s2 := (9, 113, 13, [some (.ref 34), some (.int (-2))], [], 0, 0, (mSH, (mUp (mUp I 0 9 ((I 0 9) + 1)) 39 0 ((I 39 0) + 1)), L))) rfl (by decide) ?_
        refine mB 1 (s2 := (9, 113, 14, [some (.ref 34), some (.int (-2))], [.int (-2)], 0, 0, (mSH, (mUp (mUp I 0 9 ((I 0 9) + 1)) 39 0 ((I 39 0) + 1)), L))) rfl ?_
        refine mRt (r := (some (.int (-2)))) (h := (mSH, (mUp (mUp I 0 9 ((I 0 9) + 1)) 39 0 ((I 39 0) + 1)), L)) rfl (mRet_int rfl) ?_
        show mWP mTb_ mFT ro (10, 147, 15, [some (.ref 34), some (.int ((ro 0).2 1)), none, none, none], [.int (-2)], 0, 0, (mSH, (mUp (mUp I 0 9 ((I 0 9) + 1)) 39 0 ((I 39 0) + 1)), L)) _
        refine mRt (r := (some (.int (-2)))) (h := (mSH, (mUp (mUp I 0 9 ((I 0 9) + 1)) 39 0 ((I 39 0) + 1)), L)) rfl (mRet_int rfl) ?_
        show mWP mTb_ mFT ro (11, 163, 694, [some (.ref 1000), some (.ref 0), some (.ref 34), some (.int 0)], [.int (-2), .int (-2)], 62, 3336, (mSH, (mUp (mUp I 0 9 ((I 0 9) + 1)) 39 0 ((I 39 0) + 1)), L)) _
        refine mBT (s2 := (11, 163, 808, [some (.ref 1000), some (.ref 0), some (.ref 34), some (.int 0)], [], 62, 3336, (mSH, (mUp (mUp I 0 9 ((I 0 9) + 1)) 39 0 ((I 39 0) + 1)), L))) rfl (by decide) ?_
        exact h3 (of_decide_eq_false c0) (of_decide_eq_false c1) (of_decide_eq_true c2)
      · refine mB 2 (s2 := (9, 112, 7, [some (.int ((ro 0).2 1)), some (.int 0), some (.int 1)], [.int 1, .int ((ro 0).2 1)], 0, 0, (mSH, (mUp I 0 9 ((I 0 9) + 1)), L))) rfl ?_
        refine mBT (s2 := (9, 112, 14, [some (.int ((ro 0).2 1)), some (.int 0), some (.int 1)], [], 0, 0, (mSH, (mUp I 0 9 ((I 0 9) + 1)), L))) rfl (decide_eq_true (by
        have a0 := of_decide_eq_false c0
        have a1 := of_decide_eq_false c1
        have a2 := of_decide_eq_false c2
        simp only [f0_9, f0_10, f0_11, f1_2, f2_1, f4_1, f6_0, f6_1, f6_2, f6_3, f7_0, f7_1, f7_2, f7_3, f9_0, f9_1, f9_2, f25_0, f25_1, f26_1, f30_1, f32_1, f34_1, f34_3, f34_4, f34_11, f37_0, f37_1, f37_2, f37_3, f38_0, f38_1, f38_2, f39_0, f39_1, f39_2, f41_0, f41_1, f41_2, f41_3, f41_4, f41_5, g34_7, g34_8, hro0, hro1, hro1_0, hro1_1, hro1_2, hro2, hro2_0, hro2_1, hro2_2, hro13, mTn0, mTn1, mTn2, mTn10, Int32.lt_iff_toInt_lt, Int32.le_iff_toInt_le, ← Int32.toInt_inj, mLi0, mLi1, mLi2, mLi3, mLi4, mLi5, mLi6, mLi7, mLi8, mLi9, mLi16, mLi99, mLi120, mLi127, mLi1584, mLi999999, mLim] at a0 a1 a2 ⊢
        omega)) ?_
        refine mB 1 (s2 := (9, 112, 15, [some (.int ((ro 0).2 1)), some (.int 0), some (.int 1)], [.int 0], 0, 0, (mSH, (mUp I 0 9 ((I 0 9) + 1)), L))) rfl ?_
        refine mRt (r := (some (.int 0))) (h := (mSH, (mUp I 0 9 ((I 0 9) + 1)), L)) rfl rfl ?_
        show mWP mTb_ mFT ro (10, 147, 6, [some (.ref 34), some (.int ((ro 0).2 1)), none, none, none], [.int 0], 0, 0, (mSH, (mUp I 0 9 ((I 0 9) + 1)), L)) _
        refine mBT (s2 := (10, 147, 9, [some (.ref 34), some (.int ((ro 0).2 1)), none, none, none], [], 0, 0, (mSH, (mUp I 0 9 ((I 0 9) + 1)), L))) rfl (by decide) ?_
        refine mB 2 (s2 := (10, 147, 12, [some (.ref 34), some (.int ((ro 0).2 1)), none, none, none], [.int (-2), .ref 34], 0, 0, (mSH, (mUp I 0 9 ((I 0 9) + 1)), L))) rfl ?_
        refine mCall (s2 := (9, 113, 0, [some (.ref 34), some (.int (-2))], [], 0, 0, (mSH, (mUp I 0 9 ((I 0 9) + 1)), L))) rfl ?_
        refine mB 6 (s2 := (9, 113, 9, [some (.ref 34), some (.int (-2))], [.int 0, .ref 39, .int 0, .ref 39], 0, 0, (mSH, (mUp I 0 9 ((I 0 9) + 1)), L))) rfl ?_
        refine mRq (s2 := (9, 113, 10, [some (.ref 34), some (.int (-2))], [.int (I 39 0), .int 0, .ref 39], 0, 0, (mSH, (mUp I 0 9 ((I 0 9) + 1)), L))) rfl (by decide) ?_
        refine mB 2 (s2 := (9, 113, 12, [some (.ref 34), some (.int (-2))], [.int ((I 39 0) + 1), .int 0, .ref 39], 0, 0, (mSH, (mUp I 0 9 ((I 0 9) + 1)), L))) rfl ?_
        refine mRq (s2 := (9, 113, 13, [some (.ref 34), some (.int (-2))], [], 0, 0, (mSH, (mUp (mUp I 0 9 ((I 0 9) + 1)) 39 0 ((I 39 0) + 1)), L))) rfl (by decide) ?_
        refine mB 1 (s2 := (9, 113, 14, [some (.ref 34), some (.int (-2))], [.int (-2)], 0, 0, (mSH, (mUp (mUp I 0 9 ((I 0 9) + 1)) 39 0 ((I 39 0) + 1)), L))) rfl ?_
        refine mRt (r := (some (.int (-2)))) (h := (mSH, (mUp (mUp I 0 9 ((I 0 9) + 1)) 39 0 ((I 39 0) + 1)), L)) rfl (mRet_int rfl) ?_
        show mWP mTb_ mFT ro (10, 147, 15, [some (.ref 34), some (.int ((ro 0).2 1)), none, none, none], [.int (-2)], 0, 0, (mSH, (mUp (mUp I 0 9 ((I 0 9) + 1)) 39 0 ((I 39 0) + 1)), L)) _
        refine mRt (r := (some (.int (-2)))) (h := (mSH, (mUp (mUp I 0 9 ((I 0 9) + 1)) 39 0 ((I 39 0) + 1)), L)) rfl (mRet_int rfl) ?_
        show mWP mTb_ mFT ro (11, 163, 694, [some (.ref 1000), some (.ref 0), some (.ref 34), some (.int 0)], [.int (-2), .int (-2)], 62, 3336, (mSH, (mUp (mUp I 0 9 ((I 0 9) + 1)) 39 0 ((I 39 0) + 1)), L)) _
        refine mBT (s2 := (11, 163, 808, [some (.ref 1000), some (.ref 0), some (.ref 34), some (.int 0)], [], 62, 3336, (mSH, (mUp (mUp I 0 9 ((I 0 9) + 1)) 39 0 ((I 39 0) + 1)), L))) rfl (by decide) ?_
        exact h4 (of_decide_eq_false c0) (of_decide_eq_false c1) (of_decide_eq_false c2)
