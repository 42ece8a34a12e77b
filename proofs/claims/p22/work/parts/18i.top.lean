/-! What the class answers: it is safe. Written by a program (wip/mk_c.py). -/
theorem t_draw {ro : Nat → Nat × (Nat → Int32)} {Q : mPo} {d : Nat} {I : Nat → Nat → Int32} {L : Nat → Nat → Int64} {v0 v1 : Int32} (hI : mIC I) (hq : ∀ r I1, mFr mSA I I1 → mIC I1 → r = mDrR v0 v1 → Q (some (.int r)) (mSH, I1, L))   : mWP mTb_ mFT ro (d + 7, 81, 0, [some (.ref 0), some (.int v0), some (.int v1)], [], 0, 0, (mSH, I, L)) Q := by
  refine mB 1 (s2 := (d + 7, 81, 1, [some (.ref 0), some (.int v0), some (.int v1)], [.int v0], 0, 0, (mSH, I, L))) rfl ?_
  refine mBr (s2 := (d + 7, 81, 21, [some (.ref 0), some (.int v0), some (.int v1)], [], 0, 0, (mSH, I, L))) (s3 := (d + 7, 81, 4, [some (.ref 0), some (.int v0), some (.int v1)], [], 0, 0, (mSH, I, L))) rfl (fun c0 => ?_) (fun c0 => ?_)
  · refine mB 2 (s2 := (d + 7, 81, 24, [some (.ref 0), some (.int v0), some (.int v1)], [.int (-2), .ref 0], 0, 0, (mSH, I, L))) rfl ?_
    refine mCall (s2 := (d + 6, 103, 0, [some (.ref 0), some (.int (-2))], [], 0, 0, (mSH, I, L))) rfl ?_
    refine mB 2 (s2 := (d + 6, 103, 3, [some (.ref 0), some (.int (-2))], [.int (-2), .int (-2)], 0, 0, (mSH, I, L))) rfl ?_
    refine mBT (s2 := (d + 6, 103, 6, [some (.ref 0), some (.int (-2))], [], 0, 0, (mSH, I, L))) rfl (by decide) ?_
    refine mB 8 (s2 := (d + 6, 103, 49, [some (.ref 0), some (.int (-2))], [.int (-2)], 0, 0, (mSH, (mUp I 0 9 ((I 0 9) + 1)), L))) rfl ?_
    refine mRt (r := (some (.int (-2)))) (h := (mSH, (mUp I 0 9 ((I 0 9) + 1)), L)) rfl (mRet_int rfl) ?_
    show mWP mTb_ mFT ro (d + 7, 81, 27, [some (.ref 0), some (.int v0), some (.int v1)], [.int (-2)], 0, 0, (mSH, (mUp I 0 9 ((I 0 9) + 1)), L)) _
    refine mRt (r := (some (.int (-2)))) (h := (mSH, (mUp I 0 9 ((I 0 9) + 1)), L)) rfl (mRet_int rfl) ?_
    exact hq _ _ (mFr.up (by rfl) mFr.rf) ⟨hI.1, hI.2.1, hI.2.2.1, hI.2.2.2.1, hI.2.2.2.2.1, hI.2.2.2.2.2.1, (mRk.up hI.2.2.2.2.2.2 (by rfl) (by rfl))⟩ (if_neg (by have a0 := of_decide_eq_true c0; simp only [Int32.lt_iff_toInt_lt, Int32.le_iff_toInt_le, ← Int32.toInt_inj, mLi0, mLi1, mLi2, mLi3, mLi4, mLi5, mLi6, mLi7, mLi8, mLi9, mLi10, mLi16, mLi32, mLi48, mLi57, mLi59, mLi65, mLi90, mLi97, mLi99, mLi120, mLi122, mLi127, mLi1584, mLi999999, mLim] at a0 ⊢; omega)).symm
  · refine mB 2 (s2 := (d + 7, 81, 7, [some (.ref 0), some (.int v0), some (.int v1)], [.int 999999, .int v0], 0, 0, (mSH, I, L))) rfl ?_
    refine mBr (s2 := (d + 7, 81, 21, [some (.ref 0), some (.int v0), some (.int v1)], [], 0, 0, (mSH, I, L))) (s3 := (d + 7, 81, 10, [some (.ref 0), some (.int v0), some (.int v1)], [], 0, 0, (mSH, I, L))) rfl (fun c1 => ?_) (fun c1 => ?_)
    · refine mB 2 (s2 := (d + 7, 81, 24, [some (.ref 0), some (.int v0), some (.int v1)], [.int (-2), .ref 0], 0, 0, (mSH, I, L))) rfl ?_
      refine mCall (s2 := (d + 6, 103, 0, [some (.ref 0), some (.int (-2))], [], 0, 0, (mSH, I, L))) rfl ?_
      refine mB 2 (s2 := (d + 6, 103, 3, [some (.ref 0), some (.int (-2))], [.int (-2), .int (-2)], 0, 0, (mSH, I, L))) rfl ?_
      refine mBT (s2 := (d + 6, 103, 6, [some (.ref 0), some (.int (-2))], [], 0, 0, (mSH, I, L))) rfl (by decide) ?_
      refine mB 8 (s2 := (d + 6, 103, 49, [some (.ref 0), some (.int (-2))], [.int (-2)], 0, 0, (mSH, (mUp I 0 9 ((I 0 9) + 1)), L))) rfl ?_
      refine mRt (r := (some (.int (-2)))) (h := (mSH, (mUp I 0 9 ((I 0 9) + 1)), L)) rfl (mRet_int rfl) ?_
      show mWP mTb_ mFT ro (d + 7, 81, 27, [some (.ref 0), some (.int v0), some (.int v1)], [.int (-2)], 0, 0, (mSH, (mUp I 0 9 ((I 0 9) + 1)), L)) _
      refine mRt (r := (some (.int (-2)))) (h := (mSH, (mUp I 0 9 ((I 0 9) + 1)), L)) rfl (mRet_int rfl) ?_
      exact hq _ _ (mFr.up (by rfl) mFr.rf) ⟨hI.1, hI.2.1, hI.2.2.1, hI.2.2.2.1, hI.2.2.2.2.1, hI.2.2.2.2.2.1, (mRk.up hI.2.2.2.2.2.2 (by rfl) (by rfl))⟩ (if_neg (by have a0 := of_decide_eq_false c0; have a1 := of_decide_eq_true c1; simp only [Int32.lt_iff_toInt_lt, Int32.le_iff_toInt_le, ← Int32.toInt_inj, mLi0, mLi1, mLi2, mLi3, mLi4, mLi5, mLi6, mLi7, mLi8, mLi9, mLi10, mLi16, mLi32, mLi48, mLi57, mLi59, mLi65, mLi90, mLi97, mLi99, mLi120, mLi122, mLi127, mLi1584, mLi999999, mLim] at a0 a1 ⊢; omega)).symm
    · refine mB 2 (s2 := (d + 7, 81, 12, [some (.ref 0), some (.int v0), some (.int v1)], [.int 1, .int v1], 0, 0, (mSH, I, L))) rfl ?_
      refine mBr (s2 := (d + 7, 81, 21, [some (.ref 0), some (.int v0), some (.int v1)], [], 0, 0, (mSH, I, L))) (s3 := (d + 7, 81, 15, [some (.ref 0), some (.int v0), some (.int v1)], [], 0, 0, (mSH, I, L))) rfl (fun c2 => ?_) (fun c2 => ?_)
      · refine mB 2 (s2 := (d + 7, 81, 24, [some (.ref 0), some (.int v0), some (.int v1)], [.int (-2), .ref 0], 0, 0, (mSH, I, L))) rfl ?_
        refine mCall (s2 := (d + 6, 103, 0, [some (.ref 0), some (.int (-2))], [], 0, 0, (mSH, I, L))) rfl ?_
        refine mB 2 (s2 := (d + 6, 103, 3, [some (.ref 0), some (.int (-2))], [.int (-2), .int (-2)], 0, 0, (mSH, I, L))) rfl ?_
        refine mBT (s2 := (d + 6, 103, 6, [some (.ref 0), some (.int (-2))], [], 0, 0, (mSH, I, L))) rfl (by decide) ?_
        refine mB 8 (s2 := (d + 6, 103, 49, [some (.ref 0), some (.int (-2))], [.int (-2)], 0, 0, (mSH, (mUp I 0 9 ((I 0 9) + 1)), L))) rfl ?_
        refine mRt (r := (some (.int (-2)))) (h := (mSH, (mUp I 0 9 ((I 0 9) + 1)), L)) rfl (mRet_int rfl) ?_
        show mWP mTb_ mFT ro (d + 7, 81, 27, [some (.ref 0), some (.int v0), some (.int v1)], [.int (-2)], 0, 0, (mSH, (mUp I 0 9 ((I 0 9) + 1)), L)) _
        refine mRt (r := (some (.int (-2)))) (h := (mSH, (mUp I 0 9 ((I 0 9) + 1)), L)) rfl (mRet_int rfl) ?_
        exact hq _ _ (mFr.up (by rfl) mFr.rf) ⟨hI.1, hI.2.1, hI.2.2.1, hI.2.2.2.1, hI.2.2.2.2.1, hI.2.2.2.2.2.1, (mRk.up hI.2.2.2.2.2.2 (by rfl) (by rfl))⟩ (if_neg (by have a0 := of_decide_eq_false c0; have a1 := of_decide_eq_false c1; have a2 := of_decide_eq_true c2; simp only [Int32.lt_iff_toInt_lt, Int32.le_iff_toInt_le, ← Int32.toInt_inj, mLi0, mLi1, mLi2, mLi3, mLi4, mLi5, mLi6, mLi7, mLi8, mLi9, mLi10, mLi16, mLi32, mLi48, mLi57, mLi59, mLi65, mLi90, mLi97, mLi99, mLi120, mLi122, mLi127, mLi1584, mLi999999, mLim] at a0 a1 a2 ⊢; omega)).symm
      · refine mB 2 (s2 := (d + 7, 81, 18, [some (.ref 0), some (.int v0), some (.int v1)], [.int 16, .int v1], 0, 0, (mSH, I, L))) rfl ?_
        refine mBr (s2 := (d + 7, 81, 28, [some (.ref 0), some (.int v0), some (.int v1)], [], 0, 0, (mSH, I, L))) (s3 := (d + 7, 81, 21, [some (.ref 0), some (.int v0), some (.int v1)], [], 0, 0, (mSH, I, L))) rfl (fun c3 => ?_) (fun c3 => ?_)
        · refine mB 4 (s2 := (d + 7, 81, 34, [some (.ref 0), some (.int v0), some (.int v1)], [.int v1, .int v0, .ref 1], 0, 0, (mSH, I, L))) rfl ?_
          refine mCall (s2 := (d + 6, 71, 0, [some (.ref 1), some (.int v0), some (.int v1), none, none], [], 0, 0, (mSH, I, L))) rfl ?_
          refine w_bd (of_decide_eq_false c2) (of_decide_eq_true c3) (fun K1 hK1 => ?_)
          show mWP mTb_ mFT ro (d + 7, 81, 37, [some (.ref 0), some (.int v0), some (.int v1)], [], 0, 0, (mSH, (mMix [1, 2, 3, 4, 5] I K1), L)) _
          refine mB 3 (s2 := (d + 7, 81, 44, [some (.ref 0), some (.int v0), some (.int v1)], [.ref 4], 0, 0, (mSH, (mMix [1, 2, 3, 4, 5] I K1), L))) rfl ?_
          refine mCall (s2 := (d + 6, 39, 0, [some (.ref 4)], [], 0, 0, (mSH, (mMix [1, 2, 3, 4, 5] I K1), L))) rfl ?_
          refine mB 2 (s2 := (d + 6, 39, 4, [some (.ref 4)], [.int (K1 4 1)], 0, 0, (mSH, (mMix [1, 2, 3, 4, 5] I K1), L))) rfl ?_
          refine mRt (r := (some (.int (K1 4 1)))) (h := (mSH, (mMix [1, 2, 3, 4, 5] I K1), L)) rfl (mRet_int rfl) ?_
          show mWP mTb_ mFT ro (d + 7, 81, 47, [some (.ref 0), some (.int v0), some (.int v1)], [.int (K1 4 1)], 0, 0, (mSH, (mMix [1, 2, 3, 4, 5] I K1), L)) _
          refine mRt (r := (some (.int (K1 4 1)))) (h := (mSH, (mMix [1, 2, 3, 4, 5] I K1), L)) rfl (mRet_int rfl) ?_
          exact hq _ _ (mFr.mix (by decide) mFr.rf) ⟨hK1.1, hK1.2.1, hI.2.2.1, hI.2.2.2.1, hI.2.2.2.2.1, hI.2.2.2.2.2.1, hI.2.2.2.2.2.2⟩ (hK1.2.2.trans (if_pos (by have a0 := of_decide_eq_false c0; have a1 := of_decide_eq_false c1; have a2 := of_decide_eq_false c2; have a3 := of_decide_eq_true c3; simp only [Int32.lt_iff_toInt_lt, Int32.le_iff_toInt_le, ← Int32.toInt_inj, mLi0, mLi1, mLi2, mLi3, mLi4, mLi5, mLi6, mLi7, mLi8, mLi9, mLi10, mLi16, mLi32, mLi48, mLi57, mLi59, mLi65, mLi90, mLi97, mLi99, mLi120, mLi122, mLi127, mLi1584, mLi999999, mLim] at a0 a1 a2 a3 ⊢; omega)).symm)
        · refine mB 2 (s2 := (d + 7, 81, 24, [some (.ref 0), some (.int v0), some (.int v1)], [.int (-2), .ref 0], 0, 0, (mSH, I, L))) rfl ?_
          refine mCall (s2 := (d + 6, 103, 0, [some (.ref 0), some (.int (-2))], [], 0, 0, (mSH, I, L))) rfl ?_
          refine mB 2 (s2 := (d + 6, 103, 3, [some (.ref 0), some (.int (-2))], [.int (-2), .int (-2)], 0, 0, (mSH, I, L))) rfl ?_
          refine mBT (s2 := (d + 6, 103, 6, [some (.ref 0), some (.int (-2))], [], 0, 0, (mSH, I, L))) rfl (by decide) ?_
          refine mB 8 (s2 := (d + 6, 103, 49, [some (.ref 0), some (.int (-2))], [.int (-2)], 0, 0, (mSH, (mUp I 0 9 ((I 0 9) + 1)), L))) rfl ?_
          refine mRt (r := (some (.int (-2)))) (h := (mSH, (mUp I 0 9 ((I 0 9) + 1)), L)) rfl (mRet_int rfl) ?_
          show mWP mTb_ mFT ro (d + 7, 81, 27, [some (.ref 0), some (.int v0), some (.int v1)], [.int (-2)], 0, 0, (mSH, (mUp I 0 9 ((I 0 9) + 1)), L)) _
          refine mRt (r := (some (.int (-2)))) (h := (mSH, (mUp I 0 9 ((I 0 9) + 1)), L)) rfl (mRet_int rfl) ?_
          exact hq _ _ (mFr.up (by rfl) mFr.rf) ⟨hI.1, hI.2.1, hI.2.2.1, hI.2.2.2.1, hI.2.2.2.2.1, hI.2.2.2.2.2.1, (mRk.up hI.2.2.2.2.2.2 (by rfl) (by rfl))⟩ (if_neg (by have a0 := of_decide_eq_false c0; have a1 := of_decide_eq_false c1; have a2 := of_decide_eq_false c2; have a3 := of_decide_eq_false c3; simp only [Int32.lt_iff_toInt_lt, Int32.le_iff_toInt_le, ← Int32.toInt_inj, mLi0, mLi1, mLi2, mLi3, mLi4, mLi5, mLi6, mLi7, mLi8, mLi9, mLi10, mLi16, mLi32, mLi48, mLi57, mLi59, mLi65, mLi90, mLi97, mLi99, mLi120, mLi122, mLi127, mLi1584, mLi999999, mLim] at a0 a1 a2 a3 ⊢; omega)).symm
theorem t_type {ro : Nat → Nat × (Nat → Int32)} {Q : mPo} {d : Nat} {I : Nat → Nat → Int32} {L : Nat → Nat → Int64} {v0 : Int32} (hI : mIC I) (hq : ∀ r I1, mFr [0, 26, 27] I I1 → mIC I1 → r = mTyR (I 26 1) v0 → I1 26 1 = mTyN (I 26 1) v0 → Q (some (.int r)) (mSH, I1, L))   : mWP mTb_ mFT ro (d + 7, 98, 0, [some (.ref 0), some (.int v0)], [], 0, 0, (mSH, I, L)) Q := by
  refine mB 1 (s2 := (d + 7, 98, 1, [some (.ref 0), some (.int v0)], [.int v0], 0, 0, (mSH, I, L))) rfl ?_
  refine mBr (s2 := (d + 7, 98, 10, [some (.ref 0), some (.int v0)], [], 0, 0, (mSH, I, L))) (s3 := (d + 7, 98, 4, [some (.ref 0), some (.int v0)], [], 0, 0, (mSH, I, L))) rfl (fun c0 => ?_) (fun c0 => ?_)
  · refine mB 2 (s2 := (d + 7, 98, 13, [some (.ref 0), some (.int v0)], [.int (-2), .ref 0], 0, 0, (mSH, I, L))) rfl ?_
    refine mCall (s2 := (d + 6, 103, 0, [some (.ref 0), some (.int (-2))], [], 0, 0, (mSH, I, L))) rfl ?_
    refine mB 2 (s2 := (d + 6, 103, 3, [some (.ref 0), some (.int (-2))], [.int (-2), .int (-2)], 0, 0, (mSH, I, L))) rfl ?_
    refine mBT (s2 := (d + 6, 103, 6, [some (.ref 0), some (.int (-2))], [], 0, 0, (mSH, I, L))) rfl (by decide) ?_
    refine mB 8 (s2 := (d + 6, 103, 49, [some (.ref 0), some (.int (-2))], [.int (-2)], 0, 0, (mSH, (mUp I 0 9 ((I 0 9) + 1)), L))) rfl ?_
    refine mRt (r := (some (.int (-2)))) (h := (mSH, (mUp I 0 9 ((I 0 9) + 1)), L)) rfl (mRet_int rfl) ?_
    show mWP mTb_ mFT ro (d + 7, 98, 16, [some (.ref 0), some (.int v0)], [.int (-2)], 0, 0, (mSH, (mUp I 0 9 ((I 0 9) + 1)), L)) _
    refine mRt (r := (some (.int (-2)))) (h := (mSH, (mUp I 0 9 ((I 0 9) + 1)), L)) rfl (mRet_int rfl) ?_
    exact hq _ _ (mFr.up (by rfl) mFr.rf) ⟨hI.1, hI.2.1, hI.2.2.1, hI.2.2.2.1, hI.2.2.2.2.1, hI.2.2.2.2.2.1, (mRk.up hI.2.2.2.2.2.2 (by rfl) (by rfl))⟩ (mTy1 (n := I 26 1) (c := v0) (by have a0 := of_decide_eq_true c0; simp only [Int32.lt_iff_toInt_lt, Int32.le_iff_toInt_le, ← Int32.toInt_inj, mLi0, mLi1, mLi2, mLi3, mLi4, mLi5, mLi6, mLi7, mLi8, mLi9, mLi10, mLi16, mLi32, mLi48, mLi57, mLi59, mLi65, mLi90, mLi97, mLi99, mLi120, mLi122, mLi127, mLi1584, mLi999999, mLim] at a0 ⊢; omega)).1 (mTy1 (n := I 26 1) (c := v0) (by have a0 := of_decide_eq_true c0; simp only [Int32.lt_iff_toInt_lt, Int32.le_iff_toInt_le, ← Int32.toInt_inj, mLi0, mLi1, mLi2, mLi3, mLi4, mLi5, mLi6, mLi7, mLi8, mLi9, mLi10, mLi16, mLi32, mLi48, mLi57, mLi59, mLi65, mLi90, mLi97, mLi99, mLi120, mLi122, mLi127, mLi1584, mLi999999, mLim] at a0 ⊢; omega)).2
  · refine mB 2 (s2 := (d + 7, 98, 7, [some (.ref 0), some (.int v0)], [.int 127, .int v0], 0, 0, (mSH, I, L))) rfl ?_
    refine mBr (s2 := (d + 7, 98, 17, [some (.ref 0), some (.int v0)], [], 0, 0, (mSH, I, L))) (s3 := (d + 7, 98, 10, [some (.ref 0), some (.int v0)], [], 0, 0, (mSH, I, L))) rfl (fun c1 => ?_) (fun c1 => ?_)
    · refine mB 2 (s2 := (d + 7, 98, 21, [some (.ref 0), some (.int v0)], [.ref 26], 0, 0, (mSH, I, L))) rfl ?_
      refine mCall (s2 := (d + 6, 40, 0, [some (.ref 26)], [], 0, 0, (mSH, I, L))) rfl ?_
      refine mB 5 (s2 := (d + 6, 40, 9, [some (.ref 26)], [.int 120, .int (I 26 1)], 0, 0, (mSH, I, L))) rfl ?_
      refine mBr (s2 := (d + 6, 40, 16, [some (.ref 26)], [], 0, 0, (mSH, I, L))) (s3 := (d + 6, 40, 12, [some (.ref 26)], [], 0, 0, (mSH, I, L))) rfl (fun c2 => ?_) (fun c2 => ?_)
      · refine mB 1 (s2 := (d + 6, 40, 17, [some (.ref 26)], [.int 0], 0, 0, (mSH, I, L))) rfl ?_
        refine mRt (r := (some (.int 0))) (h := (mSH, I, L)) rfl rfl ?_
        show mWP mTb_ mFT ro (d + 7, 98, 24, [some (.ref 0), some (.int v0)], [.int 0], 0, 0, (mSH, I, L)) _
        refine mBT (s2 := (d + 7, 98, 34, [some (.ref 0), some (.int v0)], [], 0, 0, (mSH, I, L))) rfl (by decide) ?_
        refine mB 3 (s2 := (d + 7, 98, 39, [some (.ref 0), some (.int v0)], [.int v0, .ref 26], 0, 0, (mSH, I, L))) rfl ?_
        refine mCall (s2 := (d + 6, 44, 0, [some (.ref 26), some (.int v0)], [], 0, 0, (mSH, I, L))) rfl ?_
        refine mB 1 (s2 := (d + 6, 44, 1, [some (.ref 26), some (.int v0)], [.ref 26], 0, 0, (mSH, I, L))) rfl ?_
        refine mCall (s2 := (d + 5, 40, 0, [some (.ref 26)], [], 0, 0, (mSH, I, L))) rfl ?_
        refine mB 5 (s2 := (d + 5, 40, 9, [some (.ref 26)], [.int 120, .int (I 26 1)], 0, 0, (mSH, I, L))) rfl ?_
        refine mBT (c := decide ((I 26 1) < 120)) (s2 := (d + 5, 40, 16, [some (.ref 26)], [], 0, 0, (mSH, I, L))) rfl (decide_eq_true (by have a0 := of_decide_eq_false c0; have a1 := of_decide_eq_true c1; have a2 := of_decide_eq_true c2; simp only [Int32.lt_iff_toInt_lt, Int32.le_iff_toInt_le, ← Int32.toInt_inj, mLi0, mLi1, mLi2, mLi3, mLi4, mLi5, mLi6, mLi7, mLi8, mLi9, mLi10, mLi16, mLi32, mLi48, mLi57, mLi59, mLi65, mLi90, mLi97, mLi99, mLi120, mLi122, mLi127, mLi1584, mLi999999, mLim] at a0 a1 a2 ⊢; omega)) ?_
        refine mB 1 (s2 := (d + 5, 40, 17, [some (.ref 26)], [.int 0], 0, 0, (mSH, I, L))) rfl ?_
        refine mRt (r := (some (.int 0))) (h := (mSH, I, L)) rfl rfl ?_
        show mWP mTb_ mFT ro (d + 6, 44, 4, [some (.ref 26), some (.int v0)], [.int 0], 0, 0, (mSH, I, L)) _
        refine mBT (s2 := (d + 6, 44, 7, [some (.ref 26), some (.int v0)], [], 0, 0, (mSH, I, L))) rfl (by decide) ?_
        refine mB 5 (s2 := (d + 6, 44, 16, [some (.ref 26), some (.int v0)], [.int v0, .int (I 26 1), .ref 27], 0, 0, (mSH, I, L))) rfl ?_
        refine mRq (s2 := (d + 6, 44, 17, [some (.ref 26), some (.int v0)], [], 0, 0, (mSH, (mUp I 27 ((I 26 1).toNatClampNeg) v0), L))) rfl (mVp_of (mVpC (m := 120) hI.2.2.2.1 (Int32.lt_iff_toInt_lt.mpr (by have a0 := of_decide_eq_true c2; simp only [Int32.lt_iff_toInt_lt, Int32.le_iff_toInt_le, ← Int32.toInt_inj, mLi0, mLi1, mLi2, mLi3, mLi4, mLi5, mLi6, mLi7, mLi8, mLi9, mLi10, mLi16, mLi32, mLi48, mLi57, mLi59, mLi65, mLi90, mLi97, mLi99, mLi120, mLi122, mLi127, mLi1584, mLi999999, mLim] at a0 ⊢; omega)) rfl)) ?_
        refine mB 6 (s2 := (d + 6, 44, 27, [some (.ref 26), some (.int v0)], [], 0, 0, (mSH, (mUp (mUp I 27 ((I 26 1).toNatClampNeg) v0) 26 1 ((I 26 1) + 1)), L))) rfl ?_
        refine mRt (r := none) (h := (mSH, (mUp (mUp I 27 ((I 26 1).toNatClampNeg) v0) 26 1 ((I 26 1) + 1)), L)) rfl rfl ?_
        show mWP mTb_ mFT ro (d + 7, 98, 42, [some (.ref 0), some (.int v0)], [], 0, 0, (mSH, (mUp (mUp I 27 ((I 26 1).toNatClampNeg) v0) 26 1 ((I 26 1) + 1)), L)) _
        refine mB 2 (s2 := (d + 7, 98, 46, [some (.ref 0), some (.int v0)], [.ref 26], 0, 0, (mSH, (mUp (mUp I 27 ((I 26 1).toNatClampNeg) v0) 26 1 ((I 26 1) + 1)), L))) rfl ?_
        refine mCall (s2 := (d + 6, 39, 0, [some (.ref 26)], [], 0, 0, (mSH, (mUp (mUp I 27 ((I 26 1).toNatClampNeg) v0) 26 1 ((I 26 1) + 1)), L))) rfl ?_
        refine mB 2 (s2 := (d + 6, 39, 4, [some (.ref 26)], [.int ((I 26 1) + 1)], 0, 0, (mSH, (mUp (mUp I 27 ((I 26 1).toNatClampNeg) v0) 26 1 ((I 26 1) + 1)), L))) rfl ?_
        refine mRt (r := (some (.int ((I 26 1) + 1)))) (h := (mSH, (mUp (mUp I 27 ((I 26 1).toNatClampNeg) v0) 26 1 ((I 26 1) + 1)), L)) rfl (mRet_int rfl) ?_
        show mWP mTb_ mFT ro (d + 7, 98, 49, [some (.ref 0), some (.int v0)], [.int ((I 26 1) + 1)], 0, 0, (mSH, (mUp (mUp I 27 ((I 26 1).toNatClampNeg) v0) 26 1 ((I 26 1) + 1)), L)) _
        refine mRt (r := (some (.int ((I 26 1) + 1)))) (h := (mSH, (mUp (mUp I 27 ((I 26 1).toNatClampNeg) v0) 26 1 ((I 26 1) + 1)), L)) rfl (mRet_int rfl) ?_
        exact hq _ _ (mFr.up (by rfl) (mFr.up (by rfl) mFr.rf)) ⟨hI.1, hI.2.1, hI.2.2.1, mCn_add hI.2.2.2.1 (m := 120) (Int32.lt_iff_toInt_lt.mpr (by have a0 := of_decide_eq_true c2; simp only [Int32.lt_iff_toInt_lt, Int32.le_iff_toInt_le, ← Int32.toInt_inj, mLi0, mLi1, mLi2, mLi3, mLi4, mLi5, mLi6, mLi7, mLi8, mLi9, mLi10, mLi16, mLi32, mLi48, mLi57, mLi59, mLi65, mLi90, mLi97, mLi99, mLi120, mLi122, mLi127, mLi1584, mLi999999, mLim] at a0 ⊢; omega)) rfl, hI.2.2.2.2.1, hI.2.2.2.2.2.1, hI.2.2.2.2.2.2⟩ (mTy3 (n := I 26 1) (c := v0) (by have a0 := of_decide_eq_false c0; have a1 := of_decide_eq_true c1; simp only [Int32.lt_iff_toInt_lt, Int32.le_iff_toInt_le, ← Int32.toInt_inj, mLi0, mLi1, mLi2, mLi3, mLi4, mLi5, mLi6, mLi7, mLi8, mLi9, mLi10, mLi16, mLi32, mLi48, mLi57, mLi59, mLi65, mLi90, mLi97, mLi99, mLi120, mLi122, mLi127, mLi1584, mLi999999, mLim] at a0 a1 ⊢; omega) (by have a0 := of_decide_eq_true c2; simp only [Int32.lt_iff_toInt_lt, Int32.le_iff_toInt_le, ← Int32.toInt_inj, mLi0, mLi1, mLi2, mLi3, mLi4, mLi5, mLi6, mLi7, mLi8, mLi9, mLi10, mLi16, mLi32, mLi48, mLi57, mLi59, mLi65, mLi90, mLi97, mLi99, mLi120, mLi122, mLi127, mLi1584, mLi999999, mLim] at a0 ⊢; omega)).1 (mTy3 (n := I 26 1) (c := v0) (by have a0 := of_decide_eq_false c0; have a1 := of_decide_eq_true c1; simp only [Int32.lt_iff_toInt_lt, Int32.le_iff_toInt_le, ← Int32.toInt_inj, mLi0, mLi1, mLi2, mLi3, mLi4, mLi5, mLi6, mLi7, mLi8, mLi9, mLi10, mLi16, mLi32, mLi48, mLi57, mLi59, mLi65, mLi90, mLi97, mLi99, mLi120, mLi122, mLi127, mLi1584, mLi999999, mLim] at a0 a1 ⊢; omega) (by have a0 := of_decide_eq_true c2; simp only [Int32.lt_iff_toInt_lt, Int32.le_iff_toInt_le, ← Int32.toInt_inj, mLi0, mLi1, mLi2, mLi3, mLi4, mLi5, mLi6, mLi7, mLi8, mLi9, mLi10, mLi16, mLi32, mLi48, mLi57, mLi59, mLi65, mLi90, mLi97, mLi99, mLi120, mLi122, mLi127, mLi1584, mLi999999, mLim] at a0 ⊢; omega)).2
      · refine mB 2 (s2 := (d + 6, 40, 17, [some (.ref 26)], [.int 1], 0, 0, (mSH, I, L))) rfl ?_
        refine mRt (r := (some (.int 1))) (h := (mSH, I, L)) rfl rfl ?_
        show mWP mTb_ mFT ro (d + 7, 98, 24, [some (.ref 0), some (.int v0)], [.int 1], 0, 0, (mSH, I, L)) _
        refine mBF (s3 := (d + 7, 98, 27, [some (.ref 0), some (.int v0)], [], 0, 0, (mSH, I, L))) rfl (by decide) ?_
        refine mB 2 (s2 := (d + 7, 98, 30, [some (.ref 0), some (.int v0)], [.int (-4), .ref 0], 0, 0, (mSH, I, L))) rfl ?_
        refine mCall (s2 := (d + 6, 103, 0, [some (.ref 0), some (.int (-4))], [], 0, 0, (mSH, I, L))) rfl ?_
        refine mB 2 (s2 := (d + 6, 103, 3, [some (.ref 0), some (.int (-4))], [.int (-2), .int (-4)], 0, 0, (mSH, I, L))) rfl ?_
        refine mBF (s3 := (d + 6, 103, 19, [some (.ref 0), some (.int (-4))], [], 0, 0, (mSH, I, L))) rfl (by decide) ?_
        refine mB 2 (s2 := (d + 6, 103, 22, [some (.ref 0), some (.int (-4))], [.int (-3), .int (-4)], 0, 0, (mSH, I, L))) rfl ?_
        refine mBF (s3 := (d + 6, 103, 38, [some (.ref 0), some (.int (-4))], [], 0, 0, (mSH, I, L))) rfl (by decide) ?_
        refine mB 7 (s2 := (d + 6, 103, 49, [some (.ref 0), some (.int (-4))], [.int (-4)], 0, 0, (mSH, (mUp I 0 11 ((I 0 11) + 1)), L))) rfl ?_
        refine mRt (r := (some (.int (-4)))) (h := (mSH, (mUp I 0 11 ((I 0 11) + 1)), L)) rfl (mRet_int rfl) ?_
        show mWP mTb_ mFT ro (d + 7, 98, 33, [some (.ref 0), some (.int v0)], [.int (-4)], 0, 0, (mSH, (mUp I 0 11 ((I 0 11) + 1)), L)) _
        refine mRt (r := (some (.int (-4)))) (h := (mSH, (mUp I 0 11 ((I 0 11) + 1)), L)) rfl (mRet_int rfl) ?_
        exact hq _ _ (mFr.up (by rfl) mFr.rf) ⟨hI.1, hI.2.1, hI.2.2.1, hI.2.2.2.1, hI.2.2.2.2.1, hI.2.2.2.2.2.1, (mRk.up hI.2.2.2.2.2.2 (by rfl) (by rfl))⟩ (mTy2 (n := I 26 1) (c := v0) (by have a0 := of_decide_eq_false c0; have a1 := of_decide_eq_true c1; simp only [Int32.lt_iff_toInt_lt, Int32.le_iff_toInt_le, ← Int32.toInt_inj, mLi0, mLi1, mLi2, mLi3, mLi4, mLi5, mLi6, mLi7, mLi8, mLi9, mLi10, mLi16, mLi32, mLi48, mLi57, mLi59, mLi65, mLi90, mLi97, mLi99, mLi120, mLi122, mLi127, mLi1584, mLi999999, mLim] at a0 a1 ⊢; omega) (by have a0 := of_decide_eq_false c2; simp only [Int32.lt_iff_toInt_lt, Int32.le_iff_toInt_le, ← Int32.toInt_inj, mLi0, mLi1, mLi2, mLi3, mLi4, mLi5, mLi6, mLi7, mLi8, mLi9, mLi10, mLi16, mLi32, mLi48, mLi57, mLi59, mLi65, mLi90, mLi97, mLi99, mLi120, mLi122, mLi127, mLi1584, mLi999999, mLim] at a0 ⊢; omega)).1 (mTy2 (n := I 26 1) (c := v0) (by have a0 := of_decide_eq_false c0; have a1 := of_decide_eq_true c1; simp only [Int32.lt_iff_toInt_lt, Int32.le_iff_toInt_le, ← Int32.toInt_inj, mLi0, mLi1, mLi2, mLi3, mLi4, mLi5, mLi6, mLi7, mLi8, mLi9, mLi10, mLi16, mLi32, mLi48, mLi57, mLi59, mLi65, mLi90, mLi97, mLi99, mLi120, mLi122, mLi127, mLi1584, mLi999999, mLim] at a0 a1 ⊢; omega) (by have a0 := of_decide_eq_false c2; simp only [Int32.lt_iff_toInt_lt, Int32.le_iff_toInt_le, ← Int32.toInt_inj, mLi0, mLi1, mLi2, mLi3, mLi4, mLi5, mLi6, mLi7, mLi8, mLi9, mLi10, mLi16, mLi32, mLi48, mLi57, mLi59, mLi65, mLi90, mLi97, mLi99, mLi120, mLi122, mLi127, mLi1584, mLi999999, mLim] at a0 ⊢; omega)).2
    · refine mB 2 (s2 := (d + 7, 98, 13, [some (.ref 0), some (.int v0)], [.int (-2), .ref 0], 0, 0, (mSH, I, L))) rfl ?_
      refine mCall (s2 := (d + 6, 103, 0, [some (.ref 0), some (.int (-2))], [], 0, 0, (mSH, I, L))) rfl ?_
      refine mB 2 (s2 := (d + 6, 103, 3, [some (.ref 0), some (.int (-2))], [.int (-2), .int (-2)], 0, 0, (mSH, I, L))) rfl ?_
      refine mBT (s2 := (d + 6, 103, 6, [some (.ref 0), some (.int (-2))], [], 0, 0, (mSH, I, L))) rfl (by decide) ?_
      refine mB 8 (s2 := (d + 6, 103, 49, [some (.ref 0), some (.int (-2))], [.int (-2)], 0, 0, (mSH, (mUp I 0 9 ((I 0 9) + 1)), L))) rfl ?_
      refine mRt (r := (some (.int (-2)))) (h := (mSH, (mUp I 0 9 ((I 0 9) + 1)), L)) rfl (mRet_int rfl) ?_
      show mWP mTb_ mFT ro (d + 7, 98, 16, [some (.ref 0), some (.int v0)], [.int (-2)], 0, 0, (mSH, (mUp I 0 9 ((I 0 9) + 1)), L)) _
      refine mRt (r := (some (.int (-2)))) (h := (mSH, (mUp I 0 9 ((I 0 9) + 1)), L)) rfl (mRet_int rfl) ?_
      exact hq _ _ (mFr.up (by rfl) mFr.rf) ⟨hI.1, hI.2.1, hI.2.2.1, hI.2.2.2.1, hI.2.2.2.2.1, hI.2.2.2.2.2.1, (mRk.up hI.2.2.2.2.2.2 (by rfl) (by rfl))⟩ (mTy1 (n := I 26 1) (c := v0) (by have a0 := of_decide_eq_false c0; have a1 := of_decide_eq_false c1; simp only [Int32.lt_iff_toInt_lt, Int32.le_iff_toInt_le, ← Int32.toInt_inj, mLi0, mLi1, mLi2, mLi3, mLi4, mLi5, mLi6, mLi7, mLi8, mLi9, mLi10, mLi16, mLi32, mLi48, mLi57, mLi59, mLi65, mLi90, mLi97, mLi99, mLi120, mLi122, mLi127, mLi1584, mLi999999, mLim] at a0 a1 ⊢; omega)).1 (mTy1 (n := I 26 1) (c := v0) (by have a0 := of_decide_eq_false c0; have a1 := of_decide_eq_false c1; simp only [Int32.lt_iff_toInt_lt, Int32.le_iff_toInt_le, ← Int32.toInt_inj, mLi0, mLi1, mLi2, mLi3, mLi4, mLi5, mLi6, mLi7, mLi8, mLi9, mLi10, mLi16, mLi32, mLi48, mLi57, mLi59, mLi65, mLi90, mLi97, mLi99, mLi120, mLi122, mLi127, mLi1584, mLi999999, mLim] at a0 a1 ⊢; omega)).2
theorem t_clear {ro : Nat → Nat × (Nat → Int32)} {Q : mPo} {d : Nat} {I : Nat → Nat → Int32} {L : Nat → Nat → Int64} (hI : mIC I) (hq : ∀ r I1, mFr [26] I I1 → mIC I1 → r = I 26 1 → I1 26 1 = 0 → Q (some (.int r)) (mSH, I1, L))   : mWP mTb_ mFT ro (d + 7, 99, 0, [some (.ref 0)], [], 0, 0, (mSH, I, L)) Q := by
  refine mB 2 (s2 := (d + 7, 99, 4, [some (.ref 0)], [.ref 26], 0, 0, (mSH, I, L))) rfl ?_
  refine mCall (s2 := (d + 6, 45, 0, [some (.ref 26), none], [], 0, 0, (mSH, I, L))) rfl ?_
  refine mB 7 (s2 := (d + 6, 45, 11, [some (.ref 26), some (.int (I 26 1))], [.int (I 26 1)], 0, 0, (mSH, (mUp I 26 1 0), L))) rfl ?_
  refine mRt (r := (some (.int (I 26 1)))) (h := (mSH, (mUp I 26 1 0), L)) rfl (mRet_int rfl) ?_
  show mWP mTb_ mFT ro (d + 7, 99, 7, [some (.ref 0)], [.int (I 26 1)], 0, 0, (mSH, (mUp I 26 1 0), L)) _
  refine mRt (r := (some (.int (I 26 1)))) (h := (mSH, (mUp I 26 1 0), L)) rfl (mRet_int rfl) ?_
  exact hq _ _ (mFr.up (by rfl) mFr.rf) ⟨hI.1, hI.2.1, hI.2.2.1, (mCn_z (by rfl)), hI.2.2.2.2.1, hI.2.2.2.2.2.1, (mRk.up hI.2.2.2.2.2.2 (by rfl) (by rfl))⟩ rfl rfl
theorem t_judge {ro : Nat → Nat × (Nat → Int32)} {Q : mPo} {d : Nat} {I : Nat → Nat → Int32} {L : Nat → Nat → Int64} {v0 v1 : Int32} (hI : mIC I) (hJ : mRJ ro) (hq : ∀ r I1, mFr [0, 9] I I1 → mIC I1 → r = mJdR (I 9) v0 v1 → (∀ j, I1 9 j = mJdN (I 9) v0 v1 j) → Q (some (.int r)) (mSH, I1, L))   : mWP mTb_ mFT ro (d + 7, 83, 0, [some (.ref 0), some (.int v0), some (.int v1), none], [], 0, 0, (mSH, I, L)) Q := by
  obtain ⟨hro1, hro1_0, hro1_1, hro1_2, hro2, hro2_0, hro2_1, hro2_2⟩ := hJ
  refine mB 4 (s2 := (d + 7, 83, 6, [some (.ref 0), some (.int v0), some (.int v1), none], [.int v1, .int v0, .ref 8], 0, 0, (mSH, I, L))) rfl ?_
  by_cases c0 : v0 = 0
  · refine mCall (s2 := (d + 6, 9, 0, [some (.ref 8), some (.int v0), some (.int v1)], [], 0, 0, (mSH, I, L))) rfl ?_
    refine mB 2 (s2 := (d + 6, 9, 2, [some (.ref 8), some (.int v0), some (.int v1)], [.int v0, .ref 8], 0, 0, (mSH, I, L))) rfl ?_
    refine mCall (s2 := (d + 5, 8, 0, [some (.ref 8), some (.int v0)], [], 0, 0, (mSH, I, L))) rfl ?_
    refine mB 1 (s2 := (d + 5, 8, 1, [some (.ref 8), some (.int v0)], [.int v0], 0, 0, (mSH, I, L))) rfl ?_
    refine mBF (s3 := (d + 5, 8, 4, [some (.ref 8), some (.int v0)], [], 0, 0, (mSH, I, L))) rfl (by first | (simp only [hro1, hro1_0, hro1_1, hro1_2, hro2, hro2_0, hro2_1, hro2_2, mTn0, mTn1, mTn2, c0]; first | decide | rfl) | decide | rfl) ?_
    refine mB 4 (s2 := (d + 5, 8, 10, [some (.ref 8), some (.int v0)], [.int 3, .int v0], 0, 0, (mSH, I, L))) rfl ?_
    refine mBF (s3 := (d + 5, 8, 13, [some (.ref 8), some (.int v0)], [], 0, 0, (mSH, I, L))) rfl (by first | (simp only [hro1, hro1_0, hro1_1, hro1_2, hro2, hro2_0, hro2_1, hro2_2, mTn0, mTn1, mTn2, c0]; first | decide | rfl) | decide | rfl) ?_
    refine mB 2 (s2 := (d + 5, 8, 18, [some (.ref 8), some (.int v0)], [.int 1], 0, 0, (mSH, I, L))) rfl ?_
    refine mRt (r := (some (.int 1))) (h := (mSH, I, L)) rfl rfl ?_
    show mWP mTb_ mFT ro (d + 6, 9, 5, [some (.ref 8), some (.int v0), some (.int v1)], [.int 1], 0, 0, (mSH, I, L)) _
    refine mBF (s3 := (d + 6, 9, 8, [some (.ref 8), some (.int v0), some (.int v1)], [], 0, 0, (mSH, I, L))) rfl (by decide) ?_
    refine mB 3 (s2 := (d + 6, 9, 13, [some (.ref 8), some (.int v0), some (.int v1)], [.int v0, .ref 1001, .int v1], 0, 0, (mSH, I, L))) rfl ?_
    refine mRq (s2 := (d + 6, 9, 14, [some (.ref 8), some (.int v0), some (.int v1)], [.int ((ro 1).2 v0.toNatClampNeg), .int v1], 0, 0, (mSH, I, L))) rfl (by first | (simp only [hro1, hro1_0, hro1_1, hro1_2, hro2, hro2_0, hro2_1, hro2_2, mTn0, mTn1, mTn2, c0]; first | decide | rfl) | decide | rfl) ?_
    refine mBr (s2 := (d + 6, 9, 30, [some (.ref 8), some (.int v0), some (.int v1)], [], 0, 0, (mSH, I, L))) (s3 := (d + 6, 9, 17, [some (.ref 8), some (.int v0), some (.int v1)], [], 0, 0, (mSH, I, L))) rfl (fun c1 => ?_) (fun c1 => ?_)
    · refine mB 1 (s2 := (d + 6, 9, 31, [some (.ref 8), some (.int v0), some (.int v1)], [.int 0], 0, 0, (mSH, I, L))) rfl ?_
      refine mRt (r := (some (.int 0))) (h := (mSH, I, L)) rfl rfl ?_
      show mWP mTb_ mFT ro (d + 7, 83, 9, [some (.ref 0), some (.int v0), some (.int v1), none], [.int 0], 0, 0, (mSH, I, L)) _
      refine mBT (s2 := (d + 7, 83, 12, [some (.ref 0), some (.int v0), some (.int v1), none], [], 0, 0, (mSH, I, L))) rfl (by decide) ?_
      refine mB 2 (s2 := (d + 7, 83, 15, [some (.ref 0), some (.int v0), some (.int v1), none], [.int (-2), .ref 0], 0, 0, (mSH, I, L))) rfl ?_
      refine mCall (s2 := (d + 6, 103, 0, [some (.ref 0), some (.int (-2))], [], 0, 0, (mSH, I, L))) rfl ?_
      refine mB 2 (s2 := (d + 6, 103, 3, [some (.ref 0), some (.int (-2))], [.int (-2), .int (-2)], 0, 0, (mSH, I, L))) rfl ?_
      refine mBT (s2 := (d + 6, 103, 6, [some (.ref 0), some (.int (-2))], [], 0, 0, (mSH, I, L))) rfl (by decide) ?_
      refine mB 8 (s2 := (d + 6, 103, 49, [some (.ref 0), some (.int (-2))], [.int (-2)], 0, 0, (mSH, (mUp I 0 9 ((I 0 9) + 1)), L))) rfl ?_
      refine mRt (r := (some (.int (-2)))) (h := (mSH, (mUp I 0 9 ((I 0 9) + 1)), L)) rfl (mRet_int rfl) ?_
      show mWP mTb_ mFT ro (d + 7, 83, 18, [some (.ref 0), some (.int v0), some (.int v1), none], [.int (-2)], 0, 0, (mSH, (mUp I 0 9 ((I 0 9) + 1)), L)) _
      refine mRt (r := (some (.int (-2)))) (h := (mSH, (mUp I 0 9 ((I 0 9) + 1)), L)) rfl (mRet_int rfl) ?_
      exact hq _ _ (mFr.up (by rfl) mFr.rf) ⟨hI.1, hI.2.1, hI.2.2.1, hI.2.2.2.1, hI.2.2.2.2.1, hI.2.2.2.2.2.1, (mRk.up hI.2.2.2.2.2.2 (by rfl) (by rfl))⟩ (if_neg (by have b0 : (v0).toInt = 0 := (by have z := c0; rw [z]; rfl); have a0 := of_decide_eq_true c1; simp only [hro1, hro1_0, hro1_1, hro1_2, hro2, hro2_0, hro2_1, hro2_2, mTn0, mTn1, mTn2, c0, Int32.lt_iff_toInt_lt, Int32.le_iff_toInt_le, ← Int32.toInt_inj, mLi0, mLi1, mLi2, mLi3, mLi4, mLi5, mLi6, mLi7, mLi8, mLi9, mLi10, mLi16, mLi32, mLi48, mLi57, mLi59, mLi65, mLi90, mLi97, mLi99, mLi120, mLi122, mLi127, mLi1584, mLi999999, mLim] at a0 <;> omega)).symm (mJd0 (by have b0 : (v0).toInt = 0 := (by have z := c0; rw [z]; rfl); have a0 := of_decide_eq_true c1; simp only [hro1, hro1_0, hro1_1, hro1_2, hro2, hro2_0, hro2_1, hro2_2, mTn0, mTn1, mTn2, c0, Int32.lt_iff_toInt_lt, Int32.le_iff_toInt_le, ← Int32.toInt_inj, mLi0, mLi1, mLi2, mLi3, mLi4, mLi5, mLi6, mLi7, mLi8, mLi9, mLi10, mLi16, mLi32, mLi48, mLi57, mLi59, mLi65, mLi90, mLi97, mLi99, mLi120, mLi122, mLi127, mLi1584, mLi999999, mLim] at a0 <;> omega))
    · refine mB 3 (s2 := (d + 6, 9, 22, [some (.ref 8), some (.int v0), some (.int v1)], [.int v0, .ref 1002, .int v1], 0, 0, (mSH, I, L))) rfl ?_
      refine mRq (s2 := (d + 6, 9, 23, [some (.ref 8), some (.int v0), some (.int v1)], [.int ((ro 2).2 v0.toNatClampNeg), .int v1], 0, 0, (mSH, I, L))) rfl (by first | (simp only [hro1, hro1_0, hro1_1, hro1_2, hro2, hro2_0, hro2_1, hro2_2, mTn0, mTn1, mTn2, c0]; first | decide | rfl) | decide | rfl) ?_
      refine mBr (s2 := (d + 6, 9, 30, [some (.ref 8), some (.int v0), some (.int v1)], [], 0, 0, (mSH, I, L))) (s3 := (d + 6, 9, 26, [some (.ref 8), some (.int v0), some (.int v1)], [], 0, 0, (mSH, I, L))) rfl (fun c2 => ?_) (fun c2 => ?_)
      · refine mB 1 (s2 := (d + 6, 9, 31, [some (.ref 8), some (.int v0), some (.int v1)], [.int 0], 0, 0, (mSH, I, L))) rfl ?_
        refine mRt (r := (some (.int 0))) (h := (mSH, I, L)) rfl rfl ?_
        show mWP mTb_ mFT ro (d + 7, 83, 9, [some (.ref 0), some (.int v0), some (.int v1), none], [.int 0], 0, 0, (mSH, I, L)) _
        refine mBT (s2 := (d + 7, 83, 12, [some (.ref 0), some (.int v0), some (.int v1), none], [], 0, 0, (mSH, I, L))) rfl (by decide) ?_
        refine mB 2 (s2 := (d + 7, 83, 15, [some (.ref 0), some (.int v0), some (.int v1), none], [.int (-2), .ref 0], 0, 0, (mSH, I, L))) rfl ?_
        refine mCall (s2 := (d + 6, 103, 0, [some (.ref 0), some (.int (-2))], [], 0, 0, (mSH, I, L))) rfl ?_
        refine mB 2 (s2 := (d + 6, 103, 3, [some (.ref 0), some (.int (-2))], [.int (-2), .int (-2)], 0, 0, (mSH, I, L))) rfl ?_
        refine mBT (s2 := (d + 6, 103, 6, [some (.ref 0), some (.int (-2))], [], 0, 0, (mSH, I, L))) rfl (by decide) ?_
        refine mB 8 (s2 := (d + 6, 103, 49, [some (.ref 0), some (.int (-2))], [.int (-2)], 0, 0, (mSH, (mUp I 0 9 ((I 0 9) + 1)), L))) rfl ?_
        refine mRt (r := (some (.int (-2)))) (h := (mSH, (mUp I 0 9 ((I 0 9) + 1)), L)) rfl (mRet_int rfl) ?_
        show mWP mTb_ mFT ro (d + 7, 83, 18, [some (.ref 0), some (.int v0), some (.int v1), none], [.int (-2)], 0, 0, (mSH, (mUp I 0 9 ((I 0 9) + 1)), L)) _
        refine mRt (r := (some (.int (-2)))) (h := (mSH, (mUp I 0 9 ((I 0 9) + 1)), L)) rfl (mRet_int rfl) ?_
        exact hq _ _ (mFr.up (by rfl) mFr.rf) ⟨hI.1, hI.2.1, hI.2.2.1, hI.2.2.2.1, hI.2.2.2.2.1, hI.2.2.2.2.2.1, (mRk.up hI.2.2.2.2.2.2 (by rfl) (by rfl))⟩ (if_neg (by have b0 : (v0).toInt = 0 := (by have z := c0; rw [z]; rfl); have a0 := of_decide_eq_false c1; have a1 := of_decide_eq_true c2; simp only [hro1, hro1_0, hro1_1, hro1_2, hro2, hro2_0, hro2_1, hro2_2, mTn0, mTn1, mTn2, c0, Int32.lt_iff_toInt_lt, Int32.le_iff_toInt_le, ← Int32.toInt_inj, mLi0, mLi1, mLi2, mLi3, mLi4, mLi5, mLi6, mLi7, mLi8, mLi9, mLi10, mLi16, mLi32, mLi48, mLi57, mLi59, mLi65, mLi90, mLi97, mLi99, mLi120, mLi122, mLi127, mLi1584, mLi999999, mLim] at a0 a1 <;> omega)).symm (mJd0 (by have b0 : (v0).toInt = 0 := (by have z := c0; rw [z]; rfl); have a0 := of_decide_eq_false c1; have a1 := of_decide_eq_true c2; simp only [hro1, hro1_0, hro1_1, hro1_2, hro2, hro2_0, hro2_1, hro2_2, mTn0, mTn1, mTn2, c0, Int32.lt_iff_toInt_lt, Int32.le_iff_toInt_le, ← Int32.toInt_inj, mLi0, mLi1, mLi2, mLi3, mLi4, mLi5, mLi6, mLi7, mLi8, mLi9, mLi10, mLi16, mLi32, mLi48, mLi57, mLi59, mLi65, mLi90, mLi97, mLi99, mLi120, mLi122, mLi127, mLi1584, mLi999999, mLim] at a0 a1 <;> omega))
      · refine mB 2 (s2 := (d + 6, 9, 31, [some (.ref 8), some (.int v0), some (.int v1)], [.int 1], 0, 0, (mSH, I, L))) rfl ?_
        refine mRt (r := (some (.int 1))) (h := (mSH, I, L)) rfl rfl ?_
        show mWP mTb_ mFT ro (d + 7, 83, 9, [some (.ref 0), some (.int v0), some (.int v1), none], [.int 1], 0, 0, (mSH, I, L)) _
        refine mBF (s3 := (d + 7, 83, 19, [some (.ref 0), some (.int v0), some (.int v1), none], [], 0, 0, (mSH, I, L))) rfl (by decide) ?_
        refine mB 3 (s2 := (d + 7, 83, 24, [some (.ref 0), some (.int v0), some (.int v1), none], [.int v0, .ref 8], 0, 0, (mSH, I, L))) rfl ?_
        refine mCall (s2 := (d + 6, 10, 0, [some (.ref 8), some (.int v0)], [], 0, 0, (mSH, I, L))) rfl ?_
        refine mB 2 (s2 := (d + 6, 10, 2, [some (.ref 8), some (.int v0)], [.int v0, .ref 8], 0, 0, (mSH, I, L))) rfl ?_
        refine mCall (s2 := (d + 5, 8, 0, [some (.ref 8), some (.int v0)], [], 0, 0, (mSH, I, L))) rfl ?_
        refine mB 1 (s2 := (d + 5, 8, 1, [some (.ref 8), some (.int v0)], [.int v0], 0, 0, (mSH, I, L))) rfl ?_
        refine mBF (s3 := (d + 5, 8, 4, [some (.ref 8), some (.int v0)], [], 0, 0, (mSH, I, L))) rfl (by first | (simp only [hro1, hro1_0, hro1_1, hro1_2, hro2, hro2_0, hro2_1, hro2_2, mTn0, mTn1, mTn2, c0]; first | decide | rfl) | decide | rfl) ?_
        refine mB 4 (s2 := (d + 5, 8, 10, [some (.ref 8), some (.int v0)], [.int 3, .int v0], 0, 0, (mSH, I, L))) rfl ?_
        refine mBF (s3 := (d + 5, 8, 13, [some (.ref 8), some (.int v0)], [], 0, 0, (mSH, I, L))) rfl (by first | (simp only [hro1, hro1_0, hro1_1, hro1_2, hro2, hro2_0, hro2_1, hro2_2, mTn0, mTn1, mTn2, c0]; first | decide | rfl) | decide | rfl) ?_
        refine mB 2 (s2 := (d + 5, 8, 18, [some (.ref 8), some (.int v0)], [.int 1], 0, 0, (mSH, I, L))) rfl ?_
        refine mRt (r := (some (.int 1))) (h := (mSH, I, L)) rfl rfl ?_
        show mWP mTb_ mFT ro (d + 6, 10, 5, [some (.ref 8), some (.int v0)], [.int 1], 0, 0, (mSH, I, L)) _
        refine mBF (s3 := (d + 6, 10, 8, [some (.ref 8), some (.int v0)], [], 0, 0, (mSH, I, L))) rfl (by decide) ?_
        refine mB 3 (s2 := (d + 6, 10, 13, [some (.ref 8), some (.int v0)], [.int v0, .ref 9], 0, 0, (mSH, I, L))) rfl ?_
        refine mRq (s2 := (d + 6, 10, 14, [some (.ref 8), some (.int v0)], [.int (I 9 v0.toNatClampNeg)], 0, 0, (mSH, I, L))) rfl (by first | (simp only [hro1, hro1_0, hro1_1, hro1_2, hro2, hro2_0, hro2_1, hro2_2, mTn0, mTn1, mTn2, c0]; first | decide | rfl) | decide | rfl) ?_
        refine mB 1 (s2 := (d + 6, 10, 18, [some (.ref 8), some (.int v0)], [.int (I 9 v0.toNatClampNeg)], 0, 0, (mSH, I, L))) rfl ?_
        refine mRt (r := (some (.int (I 9 v0.toNatClampNeg)))) (h := (mSH, I, L)) rfl (mRet_int rfl) ?_
        show mWP mTb_ mFT ro (d + 7, 83, 27, [some (.ref 0), some (.int v0), some (.int v1), none], [.int (I 9 v0.toNatClampNeg)], 0, 0, (mSH, I, L)) _
        refine mB 5 (s2 := (d + 7, 83, 34, [some (.ref 0), some (.int v0), some (.int v1), some (.int (I 9 v0.toNatClampNeg))], [.int v1, .int v0, .ref 8], 0, 0, (mSH, I, L))) rfl ?_
        refine mCall (s2 := (d + 6, 11, 0, [some (.ref 8), some (.int v0), some (.int v1)], [], 0, 0, (mSH, I, L))) rfl ?_
        refine mB 2 (s2 := (d + 6, 11, 2, [some (.ref 8), some (.int v0), some (.int v1)], [.int v0, .ref 8], 0, 0, (mSH, I, L))) rfl ?_
        refine mCall (s2 := (d + 5, 8, 0, [some (.ref 8), some (.int v0)], [], 0, 0, (mSH, I, L))) rfl ?_
        refine mB 1 (s2 := (d + 5, 8, 1, [some (.ref 8), some (.int v0)], [.int v0], 0, 0, (mSH, I, L))) rfl ?_
        refine mBF (s3 := (d + 5, 8, 4, [some (.ref 8), some (.int v0)], [], 0, 0, (mSH, I, L))) rfl (by first | (simp only [hro1, hro1_0, hro1_1, hro1_2, hro2, hro2_0, hro2_1, hro2_2, mTn0, mTn1, mTn2, c0]; first | decide | rfl) | decide | rfl) ?_
        refine mB 4 (s2 := (d + 5, 8, 10, [some (.ref 8), some (.int v0)], [.int 3, .int v0], 0, 0, (mSH, I, L))) rfl ?_
        refine mBF (s3 := (d + 5, 8, 13, [some (.ref 8), some (.int v0)], [], 0, 0, (mSH, I, L))) rfl (by first | (simp only [hro1, hro1_0, hro1_1, hro1_2, hro2, hro2_0, hro2_1, hro2_2, mTn0, mTn1, mTn2, c0]; first | decide | rfl) | decide | rfl) ?_
        refine mB 2 (s2 := (d + 5, 8, 18, [some (.ref 8), some (.int v0)], [.int 1], 0, 0, (mSH, I, L))) rfl ?_
        refine mRt (r := (some (.int 1))) (h := (mSH, I, L)) rfl rfl ?_
        show mWP mTb_ mFT ro (d + 6, 11, 5, [some (.ref 8), some (.int v0), some (.int v1)], [.int 1], 0, 0, (mSH, I, L)) _
        refine mBF (s3 := (d + 6, 11, 8, [some (.ref 8), some (.int v0), some (.int v1)], [], 0, 0, (mSH, I, L))) rfl (by decide) ?_
        refine mB 4 (s2 := (d + 6, 11, 14, [some (.ref 8), some (.int v0), some (.int v1)], [.int v1, .int v0, .ref 9], 0, 0, (mSH, I, L))) rfl ?_
        refine mRq (s2 := (d + 6, 11, 15, [some (.ref 8), some (.int v0), some (.int v1)], [], 0, 0, (mSH, (mUp I 9 v0.toNatClampNeg v1), L))) rfl (by first | (simp only [hro1, hro1_0, hro1_1, hro1_2, hro2, hro2_0, hro2_1, hro2_2, mTn0, mTn1, mTn2, c0]; first | decide | rfl) | decide | rfl) ?_
        refine mRt (r := none) (h := (mSH, (mUp I 9 v0.toNatClampNeg v1), L)) rfl rfl ?_
        show mWP mTb_ mFT ro (d + 7, 83, 37, [some (.ref 0), some (.int v0), some (.int v1), some (.int (I 9 v0.toNatClampNeg))], [], 0, 0, (mSH, (mUp I 9 v0.toNatClampNeg v1), L)) _
        refine mB 1 (s2 := (d + 7, 83, 38, [some (.ref 0), some (.int v0), some (.int v1), some (.int (I 9 v0.toNatClampNeg))], [.int (I 9 v0.toNatClampNeg)], 0, 0, (mSH, (mUp I 9 v0.toNatClampNeg v1), L))) rfl ?_
        refine mRt (r := (some (.int (I 9 v0.toNatClampNeg)))) (h := (mSH, (mUp I 9 v0.toNatClampNeg v1), L)) rfl (mRet_int rfl) ?_
        exact hq _ _ (mFr.up (by rfl) mFr.rf) ⟨hI.1, hI.2.1, hI.2.2.1, hI.2.2.2.1, hI.2.2.2.2.1, hI.2.2.2.2.2.1, (mRk.up hI.2.2.2.2.2.2 (by rfl) (by rfl))⟩ (if_pos (by have b0 : (v0).toInt = 0 := (by have z := c0; rw [z]; rfl); have a0 := of_decide_eq_false c1; have a1 := of_decide_eq_false c2; simp only [hro1, hro1_0, hro1_1, hro1_2, hro2, hro2_0, hro2_1, hro2_2, mTn0, mTn1, mTn2, c0, Int32.lt_iff_toInt_lt, Int32.le_iff_toInt_le, ← Int32.toInt_inj, mLi0, mLi1, mLi2, mLi3, mLi4, mLi5, mLi6, mLi7, mLi8, mLi9, mLi10, mLi16, mLi32, mLi48, mLi57, mLi59, mLi65, mLi90, mLi97, mLi99, mLi120, mLi122, mLi127, mLi1584, mLi999999, mLim] at a0 a1 <;> omega)).symm (mJd1 (by have b0 : (v0).toInt = 0 := (by have z := c0; rw [z]; rfl); have a0 := of_decide_eq_false c1; have a1 := of_decide_eq_false c2; simp only [hro1, hro1_0, hro1_1, hro1_2, hro2, hro2_0, hro2_1, hro2_2, mTn0, mTn1, mTn2, c0, Int32.lt_iff_toInt_lt, Int32.le_iff_toInt_le, ← Int32.toInt_inj, mLi0, mLi1, mLi2, mLi3, mLi4, mLi5, mLi6, mLi7, mLi8, mLi9, mLi10, mLi16, mLi32, mLi48, mLi57, mLi59, mLi65, mLi90, mLi97, mLi99, mLi120, mLi122, mLi127, mLi1584, mLi999999, mLim] at a0 a1 <;> omega))
  · by_cases c1 : v0 = 1
    · refine mCall (s2 := (d + 6, 9, 0, [some (.ref 8), some (.int v0), some (.int v1)], [], 0, 0, (mSH, I, L))) rfl ?_
      refine mB 2 (s2 := (d + 6, 9, 2, [some (.ref 8), some (.int v0), some (.int v1)], [.int v0, .ref 8], 0, 0, (mSH, I, L))) rfl ?_
      refine mCall (s2 := (d + 5, 8, 0, [some (.ref 8), some (.int v0)], [], 0, 0, (mSH, I, L))) rfl ?_
      refine mB 1 (s2 := (d + 5, 8, 1, [some (.ref 8), some (.int v0)], [.int v0], 0, 0, (mSH, I, L))) rfl ?_
      refine mBF (s3 := (d + 5, 8, 4, [some (.ref 8), some (.int v0)], [], 0, 0, (mSH, I, L))) rfl (by first | (simp only [hro1, hro1_0, hro1_1, hro1_2, hro2, hro2_0, hro2_1, hro2_2, mTn0, mTn1, mTn2, c1]; first | decide | rfl) | decide | rfl) ?_
      refine mB 4 (s2 := (d + 5, 8, 10, [some (.ref 8), some (.int v0)], [.int 3, .int v0], 0, 0, (mSH, I, L))) rfl ?_
      refine mBF (s3 := (d + 5, 8, 13, [some (.ref 8), some (.int v0)], [], 0, 0, (mSH, I, L))) rfl (by first | (simp only [hro1, hro1_0, hro1_1, hro1_2, hro2, hro2_0, hro2_1, hro2_2, mTn0, mTn1, mTn2, c1]; first | decide | rfl) | decide | rfl) ?_
      refine mB 2 (s2 := (d + 5, 8, 18, [some (.ref 8), some (.int v0)], [.int 1], 0, 0, (mSH, I, L))) rfl ?_
      refine mRt (r := (some (.int 1))) (h := (mSH, I, L)) rfl rfl ?_
      show mWP mTb_ mFT ro (d + 6, 9, 5, [some (.ref 8), some (.int v0), some (.int v1)], [.int 1], 0, 0, (mSH, I, L)) _
      refine mBF (s3 := (d + 6, 9, 8, [some (.ref 8), some (.int v0), some (.int v1)], [], 0, 0, (mSH, I, L))) rfl (by decide) ?_
      refine mB 3 (s2 := (d + 6, 9, 13, [some (.ref 8), some (.int v0), some (.int v1)], [.int v0, .ref 1001, .int v1], 0, 0, (mSH, I, L))) rfl ?_
      refine mRq (s2 := (d + 6, 9, 14, [some (.ref 8), some (.int v0), some (.int v1)], [.int ((ro 1).2 v0.toNatClampNeg), .int v1], 0, 0, (mSH, I, L))) rfl (by first | (simp only [hro1, hro1_0, hro1_1, hro1_2, hro2, hro2_0, hro2_1, hro2_2, mTn0, mTn1, mTn2, c1]; first | decide | rfl) | decide | rfl) ?_
      refine mBr (s2 := (d + 6, 9, 30, [some (.ref 8), some (.int v0), some (.int v1)], [], 0, 0, (mSH, I, L))) (s3 := (d + 6, 9, 17, [some (.ref 8), some (.int v0), some (.int v1)], [], 0, 0, (mSH, I, L))) rfl (fun c2 => ?_) (fun c2 => ?_)
      · refine mB 1 (s2 := (d + 6, 9, 31, [some (.ref 8), some (.int v0), some (.int v1)], [.int 0], 0, 0, (mSH, I, L))) rfl ?_
        refine mRt (r := (some (.int 0))) (h := (mSH, I, L)) rfl rfl ?_
        show mWP mTb_ mFT ro (d + 7, 83, 9, [some (.ref 0), some (.int v0), some (.int v1), none], [.int 0], 0, 0, (mSH, I, L)) _
        refine mBT (s2 := (d + 7, 83, 12, [some (.ref 0), some (.int v0), some (.int v1), none], [], 0, 0, (mSH, I, L))) rfl (by decide) ?_
        refine mB 2 (s2 := (d + 7, 83, 15, [some (.ref 0), some (.int v0), some (.int v1), none], [.int (-2), .ref 0], 0, 0, (mSH, I, L))) rfl ?_
        refine mCall (s2 := (d + 6, 103, 0, [some (.ref 0), some (.int (-2))], [], 0, 0, (mSH, I, L))) rfl ?_
        refine mB 2 (s2 := (d + 6, 103, 3, [some (.ref 0), some (.int (-2))], [.int (-2), .int (-2)], 0, 0, (mSH, I, L))) rfl ?_
        refine mBT (s2 := (d + 6, 103, 6, [some (.ref 0), some (.int (-2))], [], 0, 0, (mSH, I, L))) rfl (by decide) ?_
        refine mB 8 (s2 := (d + 6, 103, 49, [some (.ref 0), some (.int (-2))], [.int (-2)], 0, 0, (mSH, (mUp I 0 9 ((I 0 9) + 1)), L))) rfl ?_
        refine mRt (r := (some (.int (-2)))) (h := (mSH, (mUp I 0 9 ((I 0 9) + 1)), L)) rfl (mRet_int rfl) ?_
        show mWP mTb_ mFT ro (d + 7, 83, 18, [some (.ref 0), some (.int v0), some (.int v1), none], [.int (-2)], 0, 0, (mSH, (mUp I 0 9 ((I 0 9) + 1)), L)) _
        refine mRt (r := (some (.int (-2)))) (h := (mSH, (mUp I 0 9 ((I 0 9) + 1)), L)) rfl (mRet_int rfl) ?_
        exact hq _ _ (mFr.up (by rfl) mFr.rf) ⟨hI.1, hI.2.1, hI.2.2.1, hI.2.2.2.1, hI.2.2.2.2.1, hI.2.2.2.2.2.1, (mRk.up hI.2.2.2.2.2.2 (by rfl) (by rfl))⟩ (if_neg (by have b0 : (v0).toInt = 1 := (by have z := c1; rw [z]; rfl); have a0 := c0; have a1 := of_decide_eq_true c2; simp only [hro1, hro1_0, hro1_1, hro1_2, hro2, hro2_0, hro2_1, hro2_2, mTn0, mTn1, mTn2, c1, Int32.lt_iff_toInt_lt, Int32.le_iff_toInt_le, ← Int32.toInt_inj, mLi0, mLi1, mLi2, mLi3, mLi4, mLi5, mLi6, mLi7, mLi8, mLi9, mLi10, mLi16, mLi32, mLi48, mLi57, mLi59, mLi65, mLi90, mLi97, mLi99, mLi120, mLi122, mLi127, mLi1584, mLi999999, mLim] at a0 a1 <;> omega)).symm (mJd0 (by have b0 : (v0).toInt = 1 := (by have z := c1; rw [z]; rfl); have a0 := c0; have a1 := of_decide_eq_true c2; simp only [hro1, hro1_0, hro1_1, hro1_2, hro2, hro2_0, hro2_1, hro2_2, mTn0, mTn1, mTn2, c1, Int32.lt_iff_toInt_lt, Int32.le_iff_toInt_le, ← Int32.toInt_inj, mLi0, mLi1, mLi2, mLi3, mLi4, mLi5, mLi6, mLi7, mLi8, mLi9, mLi10, mLi16, mLi32, mLi48, mLi57, mLi59, mLi65, mLi90, mLi97, mLi99, mLi120, mLi122, mLi127, mLi1584, mLi999999, mLim] at a0 a1 <;> omega))
      · refine mB 3 (s2 := (d + 6, 9, 22, [some (.ref 8), some (.int v0), some (.int v1)], [.int v0, .ref 1002, .int v1], 0, 0, (mSH, I, L))) rfl ?_
        refine mRq (s2 := (d + 6, 9, 23, [some (.ref 8), some (.int v0), some (.int v1)], [.int ((ro 2).2 v0.toNatClampNeg), .int v1], 0, 0, (mSH, I, L))) rfl (by first | (simp only [hro1, hro1_0, hro1_1, hro1_2, hro2, hro2_0, hro2_1, hro2_2, mTn0, mTn1, mTn2, c1]; first | decide | rfl) | decide | rfl) ?_
        refine mBr (s2 := (d + 6, 9, 30, [some (.ref 8), some (.int v0), some (.int v1)], [], 0, 0, (mSH, I, L))) (s3 := (d + 6, 9, 26, [some (.ref 8), some (.int v0), some (.int v1)], [], 0, 0, (mSH, I, L))) rfl (fun c3 => ?_) (fun c3 => ?_)
        · refine mB 1 (s2 := (d + 6, 9, 31, [some (.ref 8), some (.int v0), some (.int v1)], [.int 0], 0, 0, (mSH, I, L))) rfl ?_
          refine mRt (r := (some (.int 0))) (h := (mSH, I, L)) rfl rfl ?_
          show mWP mTb_ mFT ro (d + 7, 83, 9, [some (.ref 0), some (.int v0), some (.int v1), none], [.int 0], 0, 0, (mSH, I, L)) _
          refine mBT (s2 := (d + 7, 83, 12, [some (.ref 0), some (.int v0), some (.int v1), none], [], 0, 0, (mSH, I, L))) rfl (by decide) ?_
          refine mB 2 (s2 := (d + 7, 83, 15, [some (.ref 0), some (.int v0), some (.int v1), none], [.int (-2), .ref 0], 0, 0, (mSH, I, L))) rfl ?_
          refine mCall (s2 := (d + 6, 103, 0, [some (.ref 0), some (.int (-2))], [], 0, 0, (mSH, I, L))) rfl ?_
          refine mB 2 (s2 := (d + 6, 103, 3, [some (.ref 0), some (.int (-2))], [.int (-2), .int (-2)], 0, 0, (mSH, I, L))) rfl ?_
          refine mBT (s2 := (d + 6, 103, 6, [some (.ref 0), some (.int (-2))], [], 0, 0, (mSH, I, L))) rfl (by decide) ?_
          refine mB 8 (s2 := (d + 6, 103, 49, [some (.ref 0), some (.int (-2))], [.int (-2)], 0, 0, (mSH, (mUp I 0 9 ((I 0 9) + 1)), L))) rfl ?_
          refine mRt (r := (some (.int (-2)))) (h := (mSH, (mUp I 0 9 ((I 0 9) + 1)), L)) rfl (mRet_int rfl) ?_
          show mWP mTb_ mFT ro (d + 7, 83, 18, [some (.ref 0), some (.int v0), some (.int v1), none], [.int (-2)], 0, 0, (mSH, (mUp I 0 9 ((I 0 9) + 1)), L)) _
          refine mRt (r := (some (.int (-2)))) (h := (mSH, (mUp I 0 9 ((I 0 9) + 1)), L)) rfl (mRet_int rfl) ?_
          exact hq _ _ (mFr.up (by rfl) mFr.rf) ⟨hI.1, hI.2.1, hI.2.2.1, hI.2.2.2.1, hI.2.2.2.2.1, hI.2.2.2.2.2.1, (mRk.up hI.2.2.2.2.2.2 (by rfl) (by rfl))⟩ (if_neg (by have b0 : (v0).toInt = 1 := (by have z := c1; rw [z]; rfl); have a0 := c0; have a1 := of_decide_eq_false c2; have a2 := of_decide_eq_true c3; simp only [hro1, hro1_0, hro1_1, hro1_2, hro2, hro2_0, hro2_1, hro2_2, mTn0, mTn1, mTn2, c1, Int32.lt_iff_toInt_lt, Int32.le_iff_toInt_le, ← Int32.toInt_inj, mLi0, mLi1, mLi2, mLi3, mLi4, mLi5, mLi6, mLi7, mLi8, mLi9, mLi10, mLi16, mLi32, mLi48, mLi57, mLi59, mLi65, mLi90, mLi97, mLi99, mLi120, mLi122, mLi127, mLi1584, mLi999999, mLim] at a0 a1 a2 <;> omega)).symm (mJd0 (by have b0 : (v0).toInt = 1 := (by have z := c1; rw [z]; rfl); have a0 := c0; have a1 := of_decide_eq_false c2; have a2 := of_decide_eq_true c3; simp only [hro1, hro1_0, hro1_1, hro1_2, hro2, hro2_0, hro2_1, hro2_2, mTn0, mTn1, mTn2, c1, Int32.lt_iff_toInt_lt, Int32.le_iff_toInt_le, ← Int32.toInt_inj, mLi0, mLi1, mLi2, mLi3, mLi4, mLi5, mLi6, mLi7, mLi8, mLi9, mLi10, mLi16, mLi32, mLi48, mLi57, mLi59, mLi65, mLi90, mLi97, mLi99, mLi120, mLi122, mLi127, mLi1584, mLi999999, mLim] at a0 a1 a2 <;> omega))
        · refine mB 2 (s2 := (d + 6, 9, 31, [some (.ref 8), some (.int v0), some (.int v1)], [.int 1], 0, 0, (mSH, I, L))) rfl ?_
          refine mRt (r := (some (.int 1))) (h := (mSH, I, L)) rfl rfl ?_
          show mWP mTb_ mFT ro (d + 7, 83, 9, [some (.ref 0), some (.int v0), some (.int v1), none], [.int 1], 0, 0, (mSH, I, L)) _
          refine mBF (s3 := (d + 7, 83, 19, [some (.ref 0), some (.int v0), some (.int v1), none], [], 0, 0, (mSH, I, L))) rfl (by decide) ?_
          refine mB 3 (s2 := (d + 7, 83, 24, [some (.ref 0), some (.int v0), some (.int v1), none], [.int v0, .ref 8], 0, 0, (mSH, I, L))) rfl ?_
          refine mCall (s2 := (d + 6, 10, 0, [some (.ref 8), some (.int v0)], [], 0, 0, (mSH, I, L))) rfl ?_
          refine mB 2 (s2 := (d + 6, 10, 2, [some (.ref 8), some (.int v0)], [.int v0, .ref 8], 0, 0, (mSH, I, L))) rfl ?_
          refine mCall (s2 := (d + 5, 8, 0, [some (.ref 8), some (.int v0)], [], 0, 0, (mSH, I, L))) rfl ?_
          refine mB 1 (s2 := (d + 5, 8, 1, [some (.ref 8), some (.int v0)], [.int v0], 0, 0, (mSH, I, L))) rfl ?_
          refine mBF (s3 := (d + 5, 8, 4, [some (.ref 8), some (.int v0)], [], 0, 0, (mSH, I, L))) rfl (by first | (simp only [hro1, hro1_0, hro1_1, hro1_2, hro2, hro2_0, hro2_1, hro2_2, mTn0, mTn1, mTn2, c1]; first | decide | rfl) | decide | rfl) ?_
          refine mB 4 (s2 := (d + 5, 8, 10, [some (.ref 8), some (.int v0)], [.int 3, .int v0], 0, 0, (mSH, I, L))) rfl ?_
          refine mBF (s3 := (d + 5, 8, 13, [some (.ref 8), some (.int v0)], [], 0, 0, (mSH, I, L))) rfl (by first | (simp only [hro1, hro1_0, hro1_1, hro1_2, hro2, hro2_0, hro2_1, hro2_2, mTn0, mTn1, mTn2, c1]; first | decide | rfl) | decide | rfl) ?_
          refine mB 2 (s2 := (d + 5, 8, 18, [some (.ref 8), some (.int v0)], [.int 1], 0, 0, (mSH, I, L))) rfl ?_
          refine mRt (r := (some (.int 1))) (h := (mSH, I, L)) rfl rfl ?_
          show mWP mTb_ mFT ro (d + 6, 10, 5, [some (.ref 8), some (.int v0)], [.int 1], 0, 0, (mSH, I, L)) _
          refine mBF (s3 := (d + 6, 10, 8, [some (.ref 8), some (.int v0)], [], 0, 0, (mSH, I, L))) rfl (by decide) ?_
          refine mB 3 (s2 := (d + 6, 10, 13, [some (.ref 8), some (.int v0)], [.int v0, .ref 9], 0, 0, (mSH, I, L))) rfl ?_
          refine mRq (s2 := (d + 6, 10, 14, [some (.ref 8), some (.int v0)], [.int (I 9 v0.toNatClampNeg)], 0, 0, (mSH, I, L))) rfl (by first | (simp only [hro1, hro1_0, hro1_1, hro1_2, hro2, hro2_0, hro2_1, hro2_2, mTn0, mTn1, mTn2, c1]; first | decide | rfl) | decide | rfl) ?_
          refine mB 1 (s2 := (d + 6, 10, 18, [some (.ref 8), some (.int v0)], [.int (I 9 v0.toNatClampNeg)], 0, 0, (mSH, I, L))) rfl ?_
          refine mRt (r := (some (.int (I 9 v0.toNatClampNeg)))) (h := (mSH, I, L)) rfl (mRet_int rfl) ?_
          show mWP mTb_ mFT ro (d + 7, 83, 27, [some (.ref 0), some (.int v0), some (.int v1), none], [.int (I 9 v0.toNatClampNeg)], 0, 0, (mSH, I, L)) _
          refine mB 5 (s2 := (d + 7, 83, 34, [some (.ref 0), some (.int v0), some (.int v1), some (.int (I 9 v0.toNatClampNeg))], [.int v1, .int v0, .ref 8], 0, 0, (mSH, I, L))) rfl ?_
          refine mCall (s2 := (d + 6, 11, 0, [some (.ref 8), some (.int v0), some (.int v1)], [], 0, 0, (mSH, I, L))) rfl ?_
          refine mB 2 (s2 := (d + 6, 11, 2, [some (.ref 8), some (.int v0), some (.int v1)], [.int v0, .ref 8], 0, 0, (mSH, I, L))) rfl ?_
          refine mCall (s2 := (d + 5, 8, 0, [some (.ref 8), some (.int v0)], [], 0, 0, (mSH, I, L))) rfl ?_
          refine mB 1 (s2 := (d + 5, 8, 1, [some (.ref 8), some (.int v0)], [.int v0], 0, 0, (mSH, I, L))) rfl ?_
          refine mBF (s3 := (d + 5, 8, 4, [some (.ref 8), some (.int v0)], [], 0, 0, (mSH, I, L))) rfl (by first | (simp only [hro1, hro1_0, hro1_1, hro1_2, hro2, hro2_0, hro2_1, hro2_2, mTn0, mTn1, mTn2, c1]; first | decide | rfl) | decide | rfl) ?_
          refine mB 4 (s2 := (d + 5, 8, 10, [some (.ref 8), some (.int v0)], [.int 3, .int v0], 0, 0, (mSH, I, L))) rfl ?_
          refine mBF (s3 := (d + 5, 8, 13, [some (.ref 8), some (.int v0)], [], 0, 0, (mSH, I, L))) rfl (by first | (simp only [hro1, hro1_0, hro1_1, hro1_2, hro2, hro2_0, hro2_1, hro2_2, mTn0, mTn1, mTn2, c1]; first | decide | rfl) | decide | rfl) ?_
          refine mB 2 (s2 := (d + 5, 8, 18, [some (.ref 8), some (.int v0)], [.int 1], 0, 0, (mSH, I, L))) rfl ?_
          refine mRt (r := (some (.int 1))) (h := (mSH, I, L)) rfl rfl ?_
          show mWP mTb_ mFT ro (d + 6, 11, 5, [some (.ref 8), some (.int v0), some (.int v1)], [.int 1], 0, 0, (mSH, I, L)) _
          refine mBF (s3 := (d + 6, 11, 8, [some (.ref 8), some (.int v0), some (.int v1)], [], 0, 0, (mSH, I, L))) rfl (by decide) ?_
          refine mB 4 (s2 := (d + 6, 11, 14, [some (.ref 8), some (.int v0), some (.int v1)], [.int v1, .int v0, .ref 9], 0, 0, (mSH, I, L))) rfl ?_
          refine mRq (s2 := (d + 6, 11, 15, [some (.ref 8), some (.int v0), some (.int v1)], [], 0, 0, (mSH, (mUp I 9 v0.toNatClampNeg v1), L))) rfl (by first | (simp only [hro1, hro1_0, hro1_1, hro1_2, hro2, hro2_0, hro2_1, hro2_2, mTn0, mTn1, mTn2, c1]; first | decide | rfl) | decide | rfl) ?_
          refine mRt (r := none) (h := (mSH, (mUp I 9 v0.toNatClampNeg v1), L)) rfl rfl ?_
          show mWP mTb_ mFT ro (d + 7, 83, 37, [some (.ref 0), some (.int v0), some (.int v1), some (.int (I 9 v0.toNatClampNeg))], [], 0, 0, (mSH, (mUp I 9 v0.toNatClampNeg v1), L)) _
          refine mB 1 (s2 := (d + 7, 83, 38, [some (.ref 0), some (.int v0), some (.int v1), some (.int (I 9 v0.toNatClampNeg))], [.int (I 9 v0.toNatClampNeg)], 0, 0, (mSH, (mUp I 9 v0.toNatClampNeg v1), L))) rfl ?_
          refine mRt (r := (some (.int (I 9 v0.toNatClampNeg)))) (h := (mSH, (mUp I 9 v0.toNatClampNeg v1), L)) rfl (mRet_int rfl) ?_
          exact hq _ _ (mFr.up (by rfl) mFr.rf) ⟨hI.1, hI.2.1, hI.2.2.1, hI.2.2.2.1, hI.2.2.2.2.1, hI.2.2.2.2.2.1, (mRk.up hI.2.2.2.2.2.2 (by rfl) (by rfl))⟩ (if_pos (by have b0 : (v0).toInt = 1 := (by have z := c1; rw [z]; rfl); have a0 := c0; have a1 := of_decide_eq_false c2; have a2 := of_decide_eq_false c3; simp only [hro1, hro1_0, hro1_1, hro1_2, hro2, hro2_0, hro2_1, hro2_2, mTn0, mTn1, mTn2, c1, Int32.lt_iff_toInt_lt, Int32.le_iff_toInt_le, ← Int32.toInt_inj, mLi0, mLi1, mLi2, mLi3, mLi4, mLi5, mLi6, mLi7, mLi8, mLi9, mLi10, mLi16, mLi32, mLi48, mLi57, mLi59, mLi65, mLi90, mLi97, mLi99, mLi120, mLi122, mLi127, mLi1584, mLi999999, mLim] at a0 a1 a2 <;> omega)).symm (mJd1 (by have b0 : (v0).toInt = 1 := (by have z := c1; rw [z]; rfl); have a0 := c0; have a1 := of_decide_eq_false c2; have a2 := of_decide_eq_false c3; simp only [hro1, hro1_0, hro1_1, hro1_2, hro2, hro2_0, hro2_1, hro2_2, mTn0, mTn1, mTn2, c1, Int32.lt_iff_toInt_lt, Int32.le_iff_toInt_le, ← Int32.toInt_inj, mLi0, mLi1, mLi2, mLi3, mLi4, mLi5, mLi6, mLi7, mLi8, mLi9, mLi10, mLi16, mLi32, mLi48, mLi57, mLi59, mLi65, mLi90, mLi97, mLi99, mLi120, mLi122, mLi127, mLi1584, mLi999999, mLim] at a0 a1 a2 <;> omega))
    · by_cases c2 : v0 = 2
      · refine mCall (s2 := (d + 6, 9, 0, [some (.ref 8), some (.int v0), some (.int v1)], [], 0, 0, (mSH, I, L))) rfl ?_
        refine mB 2 (s2 := (d + 6, 9, 2, [some (.ref 8), some (.int v0), some (.int v1)], [.int v0, .ref 8], 0, 0, (mSH, I, L))) rfl ?_
        refine mCall (s2 := (d + 5, 8, 0, [some (.ref 8), some (.int v0)], [], 0, 0, (mSH, I, L))) rfl ?_
        refine mB 1 (s2 := (d + 5, 8, 1, [some (.ref 8), some (.int v0)], [.int v0], 0, 0, (mSH, I, L))) rfl ?_
        refine mBF (s3 := (d + 5, 8, 4, [some (.ref 8), some (.int v0)], [], 0, 0, (mSH, I, L))) rfl (by first | (simp only [hro1, hro1_0, hro1_1, hro1_2, hro2, hro2_0, hro2_1, hro2_2, mTn0, mTn1, mTn2, c2]; first | decide | rfl) | decide | rfl) ?_
        refine mB 4 (s2 := (d + 5, 8, 10, [some (.ref 8), some (.int v0)], [.int 3, .int v0], 0, 0, (mSH, I, L))) rfl ?_
        refine mBF (s3 := (d + 5, 8, 13, [some (.ref 8), some (.int v0)], [], 0, 0, (mSH, I, L))) rfl (by first | (simp only [hro1, hro1_0, hro1_1, hro1_2, hro2, hro2_0, hro2_1, hro2_2, mTn0, mTn1, mTn2, c2]; first | decide | rfl) | decide | rfl) ?_
        refine mB 2 (s2 := (d + 5, 8, 18, [some (.ref 8), some (.int v0)], [.int 1], 0, 0, (mSH, I, L))) rfl ?_
        refine mRt (r := (some (.int 1))) (h := (mSH, I, L)) rfl rfl ?_
        show mWP mTb_ mFT ro (d + 6, 9, 5, [some (.ref 8), some (.int v0), some (.int v1)], [.int 1], 0, 0, (mSH, I, L)) _
        refine mBF (s3 := (d + 6, 9, 8, [some (.ref 8), some (.int v0), some (.int v1)], [], 0, 0, (mSH, I, L))) rfl (by decide) ?_
        refine mB 3 (s2 := (d + 6, 9, 13, [some (.ref 8), some (.int v0), some (.int v1)], [.int v0, .ref 1001, .int v1], 0, 0, (mSH, I, L))) rfl ?_
        refine mRq (s2 := (d + 6, 9, 14, [some (.ref 8), some (.int v0), some (.int v1)], [.int ((ro 1).2 v0.toNatClampNeg), .int v1], 0, 0, (mSH, I, L))) rfl (by first | (simp only [hro1, hro1_0, hro1_1, hro1_2, hro2, hro2_0, hro2_1, hro2_2, mTn0, mTn1, mTn2, c2]; first | decide | rfl) | decide | rfl) ?_
        refine mBr (s2 := (d + 6, 9, 30, [some (.ref 8), some (.int v0), some (.int v1)], [], 0, 0, (mSH, I, L))) (s3 := (d + 6, 9, 17, [some (.ref 8), some (.int v0), some (.int v1)], [], 0, 0, (mSH, I, L))) rfl (fun c3 => ?_) (fun c3 => ?_)
        · refine mB 1 (s2 := (d + 6, 9, 31, [some (.ref 8), some (.int v0), some (.int v1)], [.int 0], 0, 0, (mSH, I, L))) rfl ?_
          refine mRt (r := (some (.int 0))) (h := (mSH, I, L)) rfl rfl ?_
          show mWP mTb_ mFT ro (d + 7, 83, 9, [some (.ref 0), some (.int v0), some (.int v1), none], [.int 0], 0, 0, (mSH, I, L)) _
          refine mBT (s2 := (d + 7, 83, 12, [some (.ref 0), some (.int v0), some (.int v1), none], [], 0, 0, (mSH, I, L))) rfl (by decide) ?_
          refine mB 2 (s2 := (d + 7, 83, 15, [some (.ref 0), some (.int v0), some (.int v1), none], [.int (-2), .ref 0], 0, 0, (mSH, I, L))) rfl ?_
          refine mCall (s2 := (d + 6, 103, 0, [some (.ref 0), some (.int (-2))], [], 0, 0, (mSH, I, L))) rfl ?_
          refine mB 2 (s2 := (d + 6, 103, 3, [some (.ref 0), some (.int (-2))], [.int (-2), .int (-2)], 0, 0, (mSH, I, L))) rfl ?_
          refine mBT (s2 := (d + 6, 103, 6, [some (.ref 0), some (.int (-2))], [], 0, 0, (mSH, I, L))) rfl (by decide) ?_
          refine mB 8 (s2 := (d + 6, 103, 49, [some (.ref 0), some (.int (-2))], [.int (-2)], 0, 0, (mSH, (mUp I 0 9 ((I 0 9) + 1)), L))) rfl ?_
          refine mRt (r := (some (.int (-2)))) (h := (mSH, (mUp I 0 9 ((I 0 9) + 1)), L)) rfl (mRet_int rfl) ?_
          show mWP mTb_ mFT ro (d + 7, 83, 18, [some (.ref 0), some (.int v0), some (.int v1), none], [.int (-2)], 0, 0, (mSH, (mUp I 0 9 ((I 0 9) + 1)), L)) _
          refine mRt (r := (some (.int (-2)))) (h := (mSH, (mUp I 0 9 ((I 0 9) + 1)), L)) rfl (mRet_int rfl) ?_
          exact hq _ _ (mFr.up (by rfl) mFr.rf) ⟨hI.1, hI.2.1, hI.2.2.1, hI.2.2.2.1, hI.2.2.2.2.1, hI.2.2.2.2.2.1, (mRk.up hI.2.2.2.2.2.2 (by rfl) (by rfl))⟩ (if_neg (by have b0 : (v0).toInt = 2 := (by have z := c2; rw [z]; rfl); have a0 := c0; have a1 := c1; have a2 := of_decide_eq_true c3; simp only [hro1, hro1_0, hro1_1, hro1_2, hro2, hro2_0, hro2_1, hro2_2, mTn0, mTn1, mTn2, c2, Int32.lt_iff_toInt_lt, Int32.le_iff_toInt_le, ← Int32.toInt_inj, mLi0, mLi1, mLi2, mLi3, mLi4, mLi5, mLi6, mLi7, mLi8, mLi9, mLi10, mLi16, mLi32, mLi48, mLi57, mLi59, mLi65, mLi90, mLi97, mLi99, mLi120, mLi122, mLi127, mLi1584, mLi999999, mLim] at a0 a1 a2 <;> omega)).symm (mJd0 (by have b0 : (v0).toInt = 2 := (by have z := c2; rw [z]; rfl); have a0 := c0; have a1 := c1; have a2 := of_decide_eq_true c3; simp only [hro1, hro1_0, hro1_1, hro1_2, hro2, hro2_0, hro2_1, hro2_2, mTn0, mTn1, mTn2, c2, Int32.lt_iff_toInt_lt, Int32.le_iff_toInt_le, ← Int32.toInt_inj, mLi0, mLi1, mLi2, mLi3, mLi4, mLi5, mLi6, mLi7, mLi8, mLi9, mLi10, mLi16, mLi32, mLi48, mLi57, mLi59, mLi65, mLi90, mLi97, mLi99, mLi120, mLi122, mLi127, mLi1584, mLi999999, mLim] at a0 a1 a2 <;> omega))
        · refine mB 3 (s2 := (d + 6, 9, 22, [some (.ref 8), some (.int v0), some (.int v1)], [.int v0, .ref 1002, .int v1], 0, 0, (mSH, I, L))) rfl ?_
          refine mRq (s2 := (d + 6, 9, 23, [some (.ref 8), some (.int v0), some (.int v1)], [.int ((ro 2).2 v0.toNatClampNeg), .int v1], 0, 0, (mSH, I, L))) rfl (by first | (simp only [hro1, hro1_0, hro1_1, hro1_2, hro2, hro2_0, hro2_1, hro2_2, mTn0, mTn1, mTn2, c2]; first | decide | rfl) | decide | rfl) ?_
          refine mBr (s2 := (d + 6, 9, 30, [some (.ref 8), some (.int v0), some (.int v1)], [], 0, 0, (mSH, I, L))) (s3 := (d + 6, 9, 26, [some (.ref 8), some (.int v0), some (.int v1)], [], 0, 0, (mSH, I, L))) rfl (fun c4 => ?_) (fun c4 => ?_)
          · refine mB 1 (s2 := (d + 6, 9, 31, [some (.ref 8), some (.int v0), some (.int v1)], [.int 0], 0, 0, (mSH, I, L))) rfl ?_
            refine mRt (r := (some (.int 0))) (h := (mSH, I, L)) rfl rfl ?_
            show mWP mTb_ mFT ro (d + 7, 83, 9, [some (.ref 0), some (.int v0), some (.int v1), none], [.int 0], 0, 0, (mSH, I, L)) _
            refine mBT (s2 := (d + 7, 83, 12, [some (.ref 0), some (.int v0), some (.int v1), none], [], 0, 0, (mSH, I, L))) rfl (by decide) ?_
            refine mB 2 (s2 := (d + 7, 83, 15, [some (.ref 0), some (.int v0), some (.int v1), none], [.int (-2), .ref 0], 0, 0, (mSH, I, L))) rfl ?_
            refine mCall (s2 := (d + 6, 103, 0, [some (.ref 0), some (.int (-2))], [], 0, 0, (mSH, I, L))) rfl ?_
            refine mB 2 (s2 := (d + 6, 103, 3, [some (.ref 0), some (.int (-2))], [.int (-2), .int (-2)], 0, 0, (mSH, I, L))) rfl ?_
            refine mBT (s2 := (d + 6, 103, 6, [some (.ref 0), some (.int (-2))], [], 0, 0, (mSH, I, L))) rfl (by decide) ?_
            refine mB 8 (s2 := (d + 6, 103, 49, [some (.ref 0), some (.int (-2))], [.int (-2)], 0, 0, (mSH, (mUp I 0 9 ((I 0 9) + 1)), L))) rfl ?_
            refine mRt (r := (some (.int (-2)))) (h := (mSH, (mUp I 0 9 ((I 0 9) + 1)), L)) rfl (mRet_int rfl) ?_
            show mWP mTb_ mFT ro (d + 7, 83, 18, [some (.ref 0), some (.int v0), some (.int v1), none], [.int (-2)], 0, 0, (mSH, (mUp I 0 9 ((I 0 9) + 1)), L)) _
            refine mRt (r := (some (.int (-2)))) (h := (mSH, (mUp I 0 9 ((I 0 9) + 1)), L)) rfl (mRet_int rfl) ?_
            exact hq _ _ (mFr.up (by rfl) mFr.rf) ⟨hI.1, hI.2.1, hI.2.2.1, hI.2.2.2.1, hI.2.2.2.2.1, hI.2.2.2.2.2.1, (mRk.up hI.2.2.2.2.2.2 (by rfl) (by rfl))⟩ (if_neg (by have b0 : (v0).toInt = 2 := (by have z := c2; rw [z]; rfl); have a0 := c0; have a1 := c1; have a2 := of_decide_eq_false c3; have a3 := of_decide_eq_true c4; simp only [hro1, hro1_0, hro1_1, hro1_2, hro2, hro2_0, hro2_1, hro2_2, mTn0, mTn1, mTn2, c2, Int32.lt_iff_toInt_lt, Int32.le_iff_toInt_le, ← Int32.toInt_inj, mLi0, mLi1, mLi2, mLi3, mLi4, mLi5, mLi6, mLi7, mLi8, mLi9, mLi10, mLi16, mLi32, mLi48, mLi57, mLi59, mLi65, mLi90, mLi97, mLi99, mLi120, mLi122, mLi127, mLi1584, mLi999999, mLim] at a0 a1 a2 a3 <;> omega)).symm (mJd0 (by have b0 : (v0).toInt = 2 := (by have z := c2; rw [z]; rfl); have a0 := c0; have a1 := c1; have a2 := of_decide_eq_false c3; have a3 := of_decide_eq_true c4; simp only [hro1, hro1_0, hro1_1, hro1_2, hro2, hro2_0, hro2_1, hro2_2, mTn0, mTn1, mTn2, c2, Int32.lt_iff_toInt_lt, Int32.le_iff_toInt_le, ← Int32.toInt_inj, mLi0, mLi1, mLi2, mLi3, mLi4, mLi5, mLi6, mLi7, mLi8, mLi9, mLi10, mLi16, mLi32, mLi48, mLi57, mLi59, mLi65, mLi90, mLi97, mLi99, mLi120, mLi122, mLi127, mLi1584, mLi999999, mLim] at a0 a1 a2 a3 <;> omega))
          · refine mB 2 (s2 := (d + 6, 9, 31, [some (.ref 8), some (.int v0), some (.int v1)], [.int 1], 0, 0, (mSH, I, L))) rfl ?_
            refine mRt (r := (some (.int 1))) (h := (mSH, I, L)) rfl rfl ?_
            show mWP mTb_ mFT ro (d + 7, 83, 9, [some (.ref 0), some (.int v0), some (.int v1), none], [.int 1], 0, 0, (mSH, I, L)) _
            refine mBF (s3 := (d + 7, 83, 19, [some (.ref 0), some (.int v0), some (.int v1), none], [], 0, 0, (mSH, I, L))) rfl (by decide) ?_
            refine mB 3 (s2 := (d + 7, 83, 24, [some (.ref 0), some (.int v0), some (.int v1), none], [.int v0, .ref 8], 0, 0, (mSH, I, L))) rfl ?_
            refine mCall (s2 := (d + 6, 10, 0, [some (.ref 8), some (.int v0)], [], 0, 0, (mSH, I, L))) rfl ?_
            refine mB 2 (s2 := (d + 6, 10, 2, [some (.ref 8), some (.int v0)], [.int v0, .ref 8], 0, 0, (mSH, I, L))) rfl ?_
            refine mCall (s2 := (d + 5, 8, 0, [some (.ref 8), some (.int v0)], [], 0, 0, (mSH, I, L))) rfl ?_
            refine mB 1 (s2 := (d + 5, 8, 1, [some (.ref 8), some (.int v0)], [.int v0], 0, 0, (mSH, I, L))) rfl ?_
            refine mBF (s3 := (d + 5, 8, 4, [some (.ref 8), some (.int v0)], [], 0, 0, (mSH, I, L))) rfl (by first | (simp only [hro1, hro1_0, hro1_1, hro1_2, hro2, hro2_0, hro2_1, hro2_2, mTn0, mTn1, mTn2, c2]; first | decide | rfl) | decide | rfl) ?_
            refine mB 4 (s2 := (d + 5, 8, 10, [some (.ref 8), some (.int v0)], [.int 3, .int v0], 0, 0, (mSH, I, L))) rfl ?_
            refine mBF (s3 := (d + 5, 8, 13, [some (.ref 8), some (.int v0)], [], 0, 0, (mSH, I, L))) rfl (by first | (simp only [hro1, hro1_0, hro1_1, hro1_2, hro2, hro2_0, hro2_1, hro2_2, mTn0, mTn1, mTn2, c2]; first | decide | rfl) | decide | rfl) ?_
            refine mB 2 (s2 := (d + 5, 8, 18, [some (.ref 8), some (.int v0)], [.int 1], 0, 0, (mSH, I, L))) rfl ?_
            refine mRt (r := (some (.int 1))) (h := (mSH, I, L)) rfl rfl ?_
            show mWP mTb_ mFT ro (d + 6, 10, 5, [some (.ref 8), some (.int v0)], [.int 1], 0, 0, (mSH, I, L)) _
            refine mBF (s3 := (d + 6, 10, 8, [some (.ref 8), some (.int v0)], [], 0, 0, (mSH, I, L))) rfl (by decide) ?_
            refine mB 3 (s2 := (d + 6, 10, 13, [some (.ref 8), some (.int v0)], [.int v0, .ref 9], 0, 0, (mSH, I, L))) rfl ?_
            refine mRq (s2 := (d + 6, 10, 14, [some (.ref 8), some (.int v0)], [.int (I 9 v0.toNatClampNeg)], 0, 0, (mSH, I, L))) rfl (by first | (simp only [hro1, hro1_0, hro1_1, hro1_2, hro2, hro2_0, hro2_1, hro2_2, mTn0, mTn1, mTn2, c2]; first | decide | rfl) | decide | rfl) ?_
            refine mB 1 (s2 := (d + 6, 10, 18, [some (.ref 8), some (.int v0)], [.int (I 9 v0.toNatClampNeg)], 0, 0, (mSH, I, L))) rfl ?_
            refine mRt (r := (some (.int (I 9 v0.toNatClampNeg)))) (h := (mSH, I, L)) rfl (mRet_int rfl) ?_
            show mWP mTb_ mFT ro (d + 7, 83, 27, [some (.ref 0), some (.int v0), some (.int v1), none], [.int (I 9 v0.toNatClampNeg)], 0, 0, (mSH, I, L)) _
            refine mB 5 (s2 := (d + 7, 83, 34, [some (.ref 0), some (.int v0), some (.int v1), some (.int (I 9 v0.toNatClampNeg))], [.int v1, .int v0, .ref 8], 0, 0, (mSH, I, L))) rfl ?_
            refine mCall (s2 := (d + 6, 11, 0, [some (.ref 8), some (.int v0), some (.int v1)], [], 0, 0, (mSH, I, L))) rfl ?_
            refine mB 2 (s2 := (d + 6, 11, 2, [some (.ref 8), some (.int v0), some (.int v1)], [.int v0, .ref 8], 0, 0, (mSH, I, L))) rfl ?_
            refine mCall (s2 := (d + 5, 8, 0, [some (.ref 8), some (.int v0)], [], 0, 0, (mSH, I, L))) rfl ?_
            refine mB 1 (s2 := (d + 5, 8, 1, [some (.ref 8), some (.int v0)], [.int v0], 0, 0, (mSH, I, L))) rfl ?_
            refine mBF (s3 := (d + 5, 8, 4, [some (.ref 8), some (.int v0)], [], 0, 0, (mSH, I, L))) rfl (by first | (simp only [hro1, hro1_0, hro1_1, hro1_2, hro2, hro2_0, hro2_1, hro2_2, mTn0, mTn1, mTn2, c2]; first | decide | rfl) | decide | rfl) ?_
            refine mB 4 (s2 := (d + 5, 8, 10, [some (.ref 8), some (.int v0)], [.int 3, .int v0], 0, 0, (mSH, I, L))) rfl ?_
            refine mBF (s3 := (d + 5, 8, 13, [some (.ref 8), some (.int v0)], [], 0, 0, (mSH, I, L))) rfl (by first | (simp only [hro1, hro1_0, hro1_1, hro1_2, hro2, hro2_0, hro2_1, hro2_2, mTn0, mTn1, mTn2, c2]; first | decide | rfl) | decide | rfl) ?_
            refine mB 2 (s2 := (d + 5, 8, 18, [some (.ref 8), some (.int v0)], [.int 1], 0, 0, (mSH, I, L))) rfl ?_
            refine mRt (r := (some (.int 1))) (h := (mSH, I, L)) rfl rfl ?_
            show mWP mTb_ mFT ro (d + 6, 11, 5, [some (.ref 8), some (.int v0), some (.int v1)], [.int 1], 0, 0, (mSH, I, L)) _
            refine mBF (s3 := (d + 6, 11, 8, [some (.ref 8), some (.int v0), some (.int v1)], [], 0, 0, (mSH, I, L))) rfl (by decide) ?_
            refine mB 4 (s2 := (d + 6, 11, 14, [some (.ref 8), some (.int v0), some (.int v1)], [.int v1, .int v0, .ref 9], 0, 0, (mSH, I, L))) rfl ?_
            refine mRq (s2 := (d + 6, 11, 15, [some (.ref 8), some (.int v0), some (.int v1)], [], 0, 0, (mSH, (mUp I 9 v0.toNatClampNeg v1), L))) rfl (by first | (simp only [hro1, hro1_0, hro1_1, hro1_2, hro2, hro2_0, hro2_1, hro2_2, mTn0, mTn1, mTn2, c2]; first | decide | rfl) | decide | rfl) ?_
            refine mRt (r := none) (h := (mSH, (mUp I 9 v0.toNatClampNeg v1), L)) rfl rfl ?_
            show mWP mTb_ mFT ro (d + 7, 83, 37, [some (.ref 0), some (.int v0), some (.int v1), some (.int (I 9 v0.toNatClampNeg))], [], 0, 0, (mSH, (mUp I 9 v0.toNatClampNeg v1), L)) _
            refine mB 1 (s2 := (d + 7, 83, 38, [some (.ref 0), some (.int v0), some (.int v1), some (.int (I 9 v0.toNatClampNeg))], [.int (I 9 v0.toNatClampNeg)], 0, 0, (mSH, (mUp I 9 v0.toNatClampNeg v1), L))) rfl ?_
            refine mRt (r := (some (.int (I 9 v0.toNatClampNeg)))) (h := (mSH, (mUp I 9 v0.toNatClampNeg v1), L)) rfl (mRet_int rfl) ?_
            exact hq _ _ (mFr.up (by rfl) mFr.rf) ⟨hI.1, hI.2.1, hI.2.2.1, hI.2.2.2.1, hI.2.2.2.2.1, hI.2.2.2.2.2.1, (mRk.up hI.2.2.2.2.2.2 (by rfl) (by rfl))⟩ (if_pos (by have b0 : (v0).toInt = 2 := (by have z := c2; rw [z]; rfl); have a0 := c0; have a1 := c1; have a2 := of_decide_eq_false c3; have a3 := of_decide_eq_false c4; simp only [hro1, hro1_0, hro1_1, hro1_2, hro2, hro2_0, hro2_1, hro2_2, mTn0, mTn1, mTn2, c2, Int32.lt_iff_toInt_lt, Int32.le_iff_toInt_le, ← Int32.toInt_inj, mLi0, mLi1, mLi2, mLi3, mLi4, mLi5, mLi6, mLi7, mLi8, mLi9, mLi10, mLi16, mLi32, mLi48, mLi57, mLi59, mLi65, mLi90, mLi97, mLi99, mLi120, mLi122, mLi127, mLi1584, mLi999999, mLim] at a0 a1 a2 a3 <;> omega)).symm (mJd1 (by have b0 : (v0).toInt = 2 := (by have z := c2; rw [z]; rfl); have a0 := c0; have a1 := c1; have a2 := of_decide_eq_false c3; have a3 := of_decide_eq_false c4; simp only [hro1, hro1_0, hro1_1, hro1_2, hro2, hro2_0, hro2_1, hro2_2, mTn0, mTn1, mTn2, c2, Int32.lt_iff_toInt_lt, Int32.le_iff_toInt_le, ← Int32.toInt_inj, mLi0, mLi1, mLi2, mLi3, mLi4, mLi5, mLi6, mLi7, mLi8, mLi9, mLi10, mLi16, mLi32, mLi48, mLi57, mLi59, mLi65, mLi90, mLi97, mLi99, mLi120, mLi122, mLi127, mLi1584, mLi999999, mLim] at a0 a1 a2 a3 <;> omega))
      · refine mCall (s2 := (d + 6, 9, 0, [some (.ref 8), some (.int v0), some (.int v1)], [], 0, 0, (mSH, I, L))) rfl ?_
        refine mB 2 (s2 := (d + 6, 9, 2, [some (.ref 8), some (.int v0), some (.int v1)], [.int v0, .ref 8], 0, 0, (mSH, I, L))) rfl ?_
        refine mCall (s2 := (d + 5, 8, 0, [some (.ref 8), some (.int v0)], [], 0, 0, (mSH, I, L))) rfl ?_
        refine mB 1 (s2 := (d + 5, 8, 1, [some (.ref 8), some (.int v0)], [.int v0], 0, 0, (mSH, I, L))) rfl ?_
        refine mBr (s2 := (d + 5, 8, 17, [some (.ref 8), some (.int v0)], [], 0, 0, (mSH, I, L))) (s3 := (d + 5, 8, 4, [some (.ref 8), some (.int v0)], [], 0, 0, (mSH, I, L))) rfl (fun c3 => ?_) (fun c3 => ?_)
        · refine mB 1 (s2 := (d + 5, 8, 18, [some (.ref 8), some (.int v0)], [.int 0], 0, 0, (mSH, I, L))) rfl ?_
          refine mRt (r := (some (.int 0))) (h := (mSH, I, L)) rfl rfl ?_
          show mWP mTb_ mFT ro (d + 6, 9, 5, [some (.ref 8), some (.int v0), some (.int v1)], [.int 0], 0, 0, (mSH, I, L)) _
          refine mBT (s2 := (d + 6, 9, 30, [some (.ref 8), some (.int v0), some (.int v1)], [], 0, 0, (mSH, I, L))) rfl (by decide) ?_
          refine mB 1 (s2 := (d + 6, 9, 31, [some (.ref 8), some (.int v0), some (.int v1)], [.int 0], 0, 0, (mSH, I, L))) rfl ?_
          refine mRt (r := (some (.int 0))) (h := (mSH, I, L)) rfl rfl ?_
          show mWP mTb_ mFT ro (d + 7, 83, 9, [some (.ref 0), some (.int v0), some (.int v1), none], [.int 0], 0, 0, (mSH, I, L)) _
          refine mBT (s2 := (d + 7, 83, 12, [some (.ref 0), some (.int v0), some (.int v1), none], [], 0, 0, (mSH, I, L))) rfl (by decide) ?_
          refine mB 2 (s2 := (d + 7, 83, 15, [some (.ref 0), some (.int v0), some (.int v1), none], [.int (-2), .ref 0], 0, 0, (mSH, I, L))) rfl ?_
          refine mCall (s2 := (d + 6, 103, 0, [some (.ref 0), some (.int (-2))], [], 0, 0, (mSH, I, L))) rfl ?_
          refine mB 2 (s2 := (d + 6, 103, 3, [some (.ref 0), some (.int (-2))], [.int (-2), .int (-2)], 0, 0, (mSH, I, L))) rfl ?_
          refine mBT (s2 := (d + 6, 103, 6, [some (.ref 0), some (.int (-2))], [], 0, 0, (mSH, I, L))) rfl (by decide) ?_
          refine mB 8 (s2 := (d + 6, 103, 49, [some (.ref 0), some (.int (-2))], [.int (-2)], 0, 0, (mSH, (mUp I 0 9 ((I 0 9) + 1)), L))) rfl ?_
          refine mRt (r := (some (.int (-2)))) (h := (mSH, (mUp I 0 9 ((I 0 9) + 1)), L)) rfl (mRet_int rfl) ?_
          show mWP mTb_ mFT ro (d + 7, 83, 18, [some (.ref 0), some (.int v0), some (.int v1), none], [.int (-2)], 0, 0, (mSH, (mUp I 0 9 ((I 0 9) + 1)), L)) _
          refine mRt (r := (some (.int (-2)))) (h := (mSH, (mUp I 0 9 ((I 0 9) + 1)), L)) rfl (mRet_int rfl) ?_
          exact hq _ _ (mFr.up (by rfl) mFr.rf) ⟨hI.1, hI.2.1, hI.2.2.1, hI.2.2.2.1, hI.2.2.2.2.1, hI.2.2.2.2.2.1, (mRk.up hI.2.2.2.2.2.2 (by rfl) (by rfl))⟩ (if_neg (by have a0 := c0; have a1 := c1; have a2 := c2; have a3 := of_decide_eq_true c3; simp only [hro1, hro1_0, hro1_1, hro1_2, hro2, hro2_0, hro2_1, hro2_2, mTn0, mTn1, mTn2, Int32.lt_iff_toInt_lt, Int32.le_iff_toInt_le, ← Int32.toInt_inj, mLi0, mLi1, mLi2, mLi3, mLi4, mLi5, mLi6, mLi7, mLi8, mLi9, mLi10, mLi16, mLi32, mLi48, mLi57, mLi59, mLi65, mLi90, mLi97, mLi99, mLi120, mLi122, mLi127, mLi1584, mLi999999, mLim] at a0 a1 a2 a3 <;> omega)).symm (mJd0 (by have a0 := c0; have a1 := c1; have a2 := c2; have a3 := of_decide_eq_true c3; simp only [hro1, hro1_0, hro1_1, hro1_2, hro2, hro2_0, hro2_1, hro2_2, mTn0, mTn1, mTn2, Int32.lt_iff_toInt_lt, Int32.le_iff_toInt_le, ← Int32.toInt_inj, mLi0, mLi1, mLi2, mLi3, mLi4, mLi5, mLi6, mLi7, mLi8, mLi9, mLi10, mLi16, mLi32, mLi48, mLi57, mLi59, mLi65, mLi90, mLi97, mLi99, mLi120, mLi122, mLi127, mLi1584, mLi999999, mLim] at a0 a1 a2 a3 <;> omega))
        · refine mB 4 (s2 := (d + 5, 8, 10, [some (.ref 8), some (.int v0)], [.int 3, .int v0], 0, 0, (mSH, I, L))) rfl ?_
          refine mBT (c := decide ((3 : Int32) ≤ v0)) (s2 := (d + 5, 8, 17, [some (.ref 8), some (.int v0)], [], 0, 0, (mSH, I, L))) rfl (decide_eq_true (by have a0 := c0; have a1 := c1; have a2 := c2; have a3 := of_decide_eq_false c3; simp only [hro1, hro1_0, hro1_1, hro1_2, hro2, hro2_0, hro2_1, hro2_2, mTn0, mTn1, mTn2, Int32.lt_iff_toInt_lt, Int32.le_iff_toInt_le, ← Int32.toInt_inj, mLi0, mLi1, mLi2, mLi3, mLi4, mLi5, mLi6, mLi7, mLi8, mLi9, mLi10, mLi16, mLi32, mLi48, mLi57, mLi59, mLi65, mLi90, mLi97, mLi99, mLi120, mLi122, mLi127, mLi1584, mLi999999, mLim] at a0 a1 a2 a3 ⊢; omega)) ?_
          refine mB 1 (s2 := (d + 5, 8, 18, [some (.ref 8), some (.int v0)], [.int 0], 0, 0, (mSH, I, L))) rfl ?_
          refine mRt (r := (some (.int 0))) (h := (mSH, I, L)) rfl rfl ?_
          show mWP mTb_ mFT ro (d + 6, 9, 5, [some (.ref 8), some (.int v0), some (.int v1)], [.int 0], 0, 0, (mSH, I, L)) _
          refine mBT (s2 := (d + 6, 9, 30, [some (.ref 8), some (.int v0), some (.int v1)], [], 0, 0, (mSH, I, L))) rfl (by decide) ?_
          refine mB 1 (s2 := (d + 6, 9, 31, [some (.ref 8), some (.int v0), some (.int v1)], [.int 0], 0, 0, (mSH, I, L))) rfl ?_
          refine mRt (r := (some (.int 0))) (h := (mSH, I, L)) rfl rfl ?_
          show mWP mTb_ mFT ro (d + 7, 83, 9, [some (.ref 0), some (.int v0), some (.int v1), none], [.int 0], 0, 0, (mSH, I, L)) _
          refine mBT (s2 := (d + 7, 83, 12, [some (.ref 0), some (.int v0), some (.int v1), none], [], 0, 0, (mSH, I, L))) rfl (by decide) ?_
          refine mB 2 (s2 := (d + 7, 83, 15, [some (.ref 0), some (.int v0), some (.int v1), none], [.int (-2), .ref 0], 0, 0, (mSH, I, L))) rfl ?_
          refine mCall (s2 := (d + 6, 103, 0, [some (.ref 0), some (.int (-2))], [], 0, 0, (mSH, I, L))) rfl ?_
          refine mB 2 (s2 := (d + 6, 103, 3, [some (.ref 0), some (.int (-2))], [.int (-2), .int (-2)], 0, 0, (mSH, I, L))) rfl ?_
          refine mBT (s2 := (d + 6, 103, 6, [some (.ref 0), some (.int (-2))], [], 0, 0, (mSH, I, L))) rfl (by decide) ?_
          refine mB 8 (s2 := (d + 6, 103, 49, [some (.ref 0), some (.int (-2))], [.int (-2)], 0, 0, (mSH, (mUp I 0 9 ((I 0 9) + 1)), L))) rfl ?_
          refine mRt (r := (some (.int (-2)))) (h := (mSH, (mUp I 0 9 ((I 0 9) + 1)), L)) rfl (mRet_int rfl) ?_
          show mWP mTb_ mFT ro (d + 7, 83, 18, [some (.ref 0), some (.int v0), some (.int v1), none], [.int (-2)], 0, 0, (mSH, (mUp I 0 9 ((I 0 9) + 1)), L)) _
          refine mRt (r := (some (.int (-2)))) (h := (mSH, (mUp I 0 9 ((I 0 9) + 1)), L)) rfl (mRet_int rfl) ?_
          exact hq _ _ (mFr.up (by rfl) mFr.rf) ⟨hI.1, hI.2.1, hI.2.2.1, hI.2.2.2.1, hI.2.2.2.2.1, hI.2.2.2.2.2.1, (mRk.up hI.2.2.2.2.2.2 (by rfl) (by rfl))⟩ (if_neg (by have a0 := c0; have a1 := c1; have a2 := c2; have a3 := of_decide_eq_false c3; simp only [hro1, hro1_0, hro1_1, hro1_2, hro2, hro2_0, hro2_1, hro2_2, mTn0, mTn1, mTn2, Int32.lt_iff_toInt_lt, Int32.le_iff_toInt_le, ← Int32.toInt_inj, mLi0, mLi1, mLi2, mLi3, mLi4, mLi5, mLi6, mLi7, mLi8, mLi9, mLi10, mLi16, mLi32, mLi48, mLi57, mLi59, mLi65, mLi90, mLi97, mLi99, mLi120, mLi122, mLi127, mLi1584, mLi999999, mLim] at a0 a1 a2 a3 <;> omega)).symm (mJd0 (by have a0 := c0; have a1 := c1; have a2 := c2; have a3 := of_decide_eq_false c3; simp only [hro1, hro1_0, hro1_1, hro1_2, hro2, hro2_0, hro2_1, hro2_2, mTn0, mTn1, mTn2, Int32.lt_iff_toInt_lt, Int32.le_iff_toInt_le, ← Int32.toInt_inj, mLi0, mLi1, mLi2, mLi3, mLi4, mLi5, mLi6, mLi7, mLi8, mLi9, mLi10, mLi16, mLi32, mLi48, mLi57, mLi59, mLi65, mLi90, mLi97, mLi99, mLi120, mLi122, mLi127, mLi1584, mLi999999, mLim] at a0 a1 a2 a3 <;> omega))
theorem t_reads {ro : Nat → Nat × (Nat → Int32)} {Q : mPo} {d : Nat} {I : Nat → Nat → Int32} {L : Nat → Nat → Int64} (hI : mIC I) (hB : mRB ro) (hq : ∀ r I1, mFr mSA I I1 → mIC I1 → Q (some (.int r)) (mSH, I1, L))   : mWP mTb_ mFT ro (d + 7, 100, 0, [some (.ref 0)], [], 0, 0, (mSH, I, L)) Q := by
  refine mB 2 (s2 := (d + 7, 100, 4, [some (.ref 0)], [.ref 28], 0, 0, (mSH, I, L))) rfl ?_
  refine mCall (s2 := (d + 6, 28, 0, [some (.ref 28)], [], 0, 0, (mSH, I, L))) rfl ?_
  refine w_readsAll hI.2.2.2.1 hB ?_ ?_
  · intro K1 hK1
    show mWP mTb_ mFT ro (d + 7, 100, 7, [some (.ref 0)], [.int 0], 0, 0, (mSH, (mMix mSR I K1), L)) _
    refine mBT (s2 := (d + 7, 100, 10, [some (.ref 0)], [], 0, 0, (mSH, (mMix mSR I K1), L))) rfl (by decide) ?_
    refine mB 5 (s2 := (d + 7, 100, 20, [some (.ref 0)], [.int ((-10) - (K1 28 2))], 0, 0, (mSH, (mMix mSR I K1), L))) rfl ?_
    refine mRt (r := (some (.int ((-10) - (K1 28 2))))) (h := (mSH, (mMix mSR I K1), L)) rfl (mRet_int rfl) ?_
    exact hq _ _ (mFr.mix (by decide) mFr.rf) ⟨hI.1, hI.2.1, hI.2.2.1, hI.2.2.2.1, hK1.1, hK1.2, hI.2.2.2.2.2.2⟩
  · intro K1 hK1
    show mWP mTb_ mFT ro (d + 7, 100, 7, [some (.ref 0)], [.int 1], 0, 0, (mSH, (mMix mSR I K1), L)) _
    refine mBF (s3 := (d + 7, 100, 21, [some (.ref 0)], [], 0, 0, (mSH, (mMix mSR I K1), L))) rfl (by decide) ?_
    refine mB 5 (s2 := (d + 7, 100, 32, [some (.ref 0)], [.ref 29, .ref 1], 0, 0, (mSH, (mMix mSR I K1), L))) rfl ?_
    refine mCall (s2 := (d + 6, 70, 0, [some (.ref 1), some (.ref 29)], [], 0, 0, (mSH, (mMix mSR I K1), L))) rfl ?_
    refine mB 4 (s2 := (d + 6, 70, 8, [some (.ref 1), some (.ref 29)], [.ref 30, .ref 2], 0, 0, (mSH, (mMix mSR I K1), L))) rfl ?_
    refine mCall (s2 := (d + 5, 46, 0, [some (.ref 2), some (.ref 30), none], [], 0, 0, (mSH, (mMix mSR I K1), L))) rfl ?_
    refine w_like_2 hK1.1 (fun K2 hK2 => ?_)
    show mWP mTb_ mFT ro (d + 6, 70, 11, [some (.ref 1), some (.ref 29)], [], 0, 0, (mSH, (mMix [2, 3] (mMix mSR I K1) K2), L)) _
    refine mB 4 (s2 := (d + 6, 70, 19, [some (.ref 1), some (.ref 29)], [.ref 32, .ref 4], 0, 0, (mSH, (mMix [2, 3] (mMix mSR I K1) K2), L))) rfl ?_
    refine mCall (s2 := (d + 5, 46, 0, [some (.ref 4), some (.ref 32), none], [], 0, 0, (mSH, (mMix [2, 3] (mMix mSR I K1) K2), L))) rfl ?_
    refine w_like_4 hK1.2 (fun K3 hK3 => ?_)
    show mWP mTb_ mFT ro (d + 6, 70, 22, [some (.ref 1), some (.ref 29)], [], 0, 0, (mSH, (mMix [4, 5] (mMix [2, 3] (mMix mSR I K1) K2) K3), L)) _
    refine mB 4 (s2 := (d + 6, 70, 30, [some (.ref 1), some (.ref 29)], [], 0, 0, (mSH, (mUp (mMix [4, 5] (mMix [2, 3] (mMix mSR I K1) K2) K3) 1 2 (K1 29 2)), L))) rfl ?_
    refine mRt (r := none) (h := (mSH, (mUp (mMix [4, 5] (mMix [2, 3] (mMix mSR I K1) K2) K3) 1 2 (K1 29 2)), L)) rfl rfl ?_
    show mWP mTb_ mFT ro (d + 7, 100, 35, [some (.ref 0)], [], 0, 0, (mSH, (mUp (mMix [4, 5] (mMix [2, 3] (mMix mSR I K1) K2) K3) 1 2 (K1 29 2)), L)) _
    refine mB 3 (s2 := (d + 7, 100, 42, [some (.ref 0)], [.ref 2], 0, 0, (mSH, (mUp (mMix [4, 5] (mMix [2, 3] (mMix mSR I K1) K2) K3) 1 2 (K1 29 2)), L))) rfl ?_
    refine mCall (s2 := (d + 6, 39, 0, [some (.ref 2)], [], 0, 0, (mSH, (mUp (mMix [4, 5] (mMix [2, 3] (mMix mSR I K1) K2) K3) 1 2 (K1 29 2)), L))) rfl ?_
    refine mB 2 (s2 := (d + 6, 39, 4, [some (.ref 2)], [.int (K2 2 1)], 0, 0, (mSH, (mUp (mMix [4, 5] (mMix [2, 3] (mMix mSR I K1) K2) K3) 1 2 (K1 29 2)), L))) rfl ?_
    refine mRt (r := (some (.int (K2 2 1)))) (h := (mSH, (mUp (mMix [4, 5] (mMix [2, 3] (mMix mSR I K1) K2) K3) 1 2 (K1 29 2)), L)) rfl (mRet_int rfl) ?_
    show mWP mTb_ mFT ro (d + 7, 100, 45, [some (.ref 0)], [.int (K2 2 1)], 0, 0, (mSH, (mUp (mMix [4, 5] (mMix [2, 3] (mMix mSR I K1) K2) K3) 1 2 (K1 29 2)), L)) _
    refine mB 3 (s2 := (d + 7, 100, 52, [some (.ref 0)], [.ref 4, .int (K2 2 1)], 0, 0, (mSH, (mUp (mMix [4, 5] (mMix [2, 3] (mMix mSR I K1) K2) K3) 1 2 (K1 29 2)), L))) rfl ?_
    refine mCall (s2 := (d + 6, 39, 0, [some (.ref 4)], [], 0, 0, (mSH, (mUp (mMix [4, 5] (mMix [2, 3] (mMix mSR I K1) K2) K3) 1 2 (K1 29 2)), L))) rfl ?_
    refine mB 2 (s2 := (d + 6, 39, 4, [some (.ref 4)], [.int (K3 4 1)], 0, 0, (mSH, (mUp (mMix [4, 5] (mMix [2, 3] (mMix mSR I K1) K2) K3) 1 2 (K1 29 2)), L))) rfl ?_
    refine mRt (r := (some (.int (K3 4 1)))) (h := (mSH, (mUp (mMix [4, 5] (mMix [2, 3] (mMix mSR I K1) K2) K3) 1 2 (K1 29 2)), L)) rfl (mRet_int rfl) ?_
    show mWP mTb_ mFT ro (d + 7, 100, 55, [some (.ref 0)], [.int (K3 4 1), .int (K2 2 1)], 0, 0, (mSH, (mUp (mMix [4, 5] (mMix [2, 3] (mMix mSR I K1) K2) K3) 1 2 (K1 29 2)), L)) _
    refine mB 1 (s2 := (d + 7, 100, 56, [some (.ref 0)], [.int ((K2 2 1) + (K3 4 1))], 0, 0, (mSH, (mUp (mMix [4, 5] (mMix [2, 3] (mMix mSR I K1) K2) K3) 1 2 (K1 29 2)), L))) rfl ?_
    refine mRt (r := (some (.int ((K2 2 1) + (K3 4 1))))) (h := (mSH, (mUp (mMix [4, 5] (mMix [2, 3] (mMix mSR I K1) K2) K3) 1 2 (K1 29 2)), L)) rfl (mRet_int rfl) ?_
    exact hq _ _ (mFr.up (by rfl) (mFr.mix (by decide) (mFr.mix (by decide) (mFr.mix (by decide) mFr.rf)))) ⟨hK2, hK3, hI.2.2.1, hI.2.2.2.1, hK1.1, hK1.2, (mRk.up hI.2.2.2.2.2.2 (by rfl) (by rfl))⟩
theorem t_digest {ro : Nat → Nat × (Nat → Int32)} {Q : mPo} {d : Nat} {I : Nat → Nat → Int32} {L : Nat → Nat → Int64} (hI : mIC I) (hq : ∀ r I1, mFr mSA I I1 → mIC I1 → Q (some (.long r)) (mSH, I1, L))   : mWP mTb_ mFT ro (d + 7, 102, 0, [some (.ref 0), none, none, none], [], 0, 0, (mSH, I, L)) Q := by
  refine mB 6 (s2 := (d + 7, 102, 9, [some (.ref 0), some (.long 2003), none, some (.int 0)], [.int 9, .int 0], 0, 0, (mSH, I, L))) rfl ?_
  refine mBF (s3 := (d + 7, 102, 12, [some (.ref 0), some (.long 2003), none, some (.int 0)], [], 0, 0, (mSH, I, L))) rfl (by decide) ?_
  refine mB 5 (s2 := (d + 7, 102, 19, [some (.ref 0), some (.long 2003), none, some (.int 0)], [.int 0, .ref 0, .long 62093], 0, 0, (mSH, I, L))) rfl ?_
  refine mCall (s2 := (d + 6, 107, 0, [some (.ref 0), some (.int 0)], [], 0, 0, (mSH, I, L))) rfl ?_
  refine mB 1 (s2 := (d + 6, 107, 1, [some (.ref 0), some (.int 0)], [.int 0], 0, 0, (mSH, I, L))) rfl ?_
  refine mSw1 (t := (d + 6, 107, 44, [some (.ref 0), some (.int 0)], [], 0, 0, (mSH, I, L))) rfl rfl ?_
  refine mB 2 (s2 := (d + 6, 107, 48, [some (.ref 0), some (.int 0)], [.int (I 0 9)], 0, 0, (mSH, I, L))) rfl ?_
  refine mRt (r := (some (.int (I 0 9)))) (h := (mSH, I, L)) rfl (mRet_int rfl) ?_
  show mWP mTb_ mFT ro (d + 7, 102, 22, [some (.ref 0), some (.long 2003), none, some (.int 0)], [.int (I 0 9), .long 62093], 0, 0, (mSH, I, L)) _
  refine mB 7 (s2 := (d + 7, 102, 9, [some (.ref 0), some (.long (62093 + ((I 0 9 : Int32).toInt64))), none, some (.int 1)], [.int 9, .int 1], 0, 0, (mSH, I, L))) rfl ?_
  refine mBF (s3 := (d + 7, 102, 12, [some (.ref 0), some (.long (62093 + ((I 0 9 : Int32).toInt64))), none, some (.int 1)], [], 0, 0, (mSH, I, L))) rfl (by decide) ?_
  refine mB 5 (s2 := (d + 7, 102, 19, [some (.ref 0), some (.long (62093 + ((I 0 9 : Int32).toInt64))), none, some (.int 1)], [.int 1, .ref 0, .long (31 * (62093 + ((I 0 9 : Int32).toInt64)))], 0, 0, (mSH, I, L))) rfl ?_
  refine mCall (s2 := (d + 6, 107, 0, [some (.ref 0), some (.int 1)], [], 0, 0, (mSH, I, L))) rfl ?_
  refine mB 1 (s2 := (d + 6, 107, 1, [some (.ref 0), some (.int 1)], [.int 1], 0, 0, (mSH, I, L))) rfl ?_
  refine mSw1 (t := (d + 6, 107, 49, [some (.ref 0), some (.int 1)], [], 0, 0, (mSH, I, L))) rfl rfl ?_
  refine mB 2 (s2 := (d + 6, 107, 53, [some (.ref 0), some (.int 1)], [.int (I 0 10)], 0, 0, (mSH, I, L))) rfl ?_
  refine mRt (r := (some (.int (I 0 10)))) (h := (mSH, I, L)) rfl (mRet_int rfl) ?_
  show mWP mTb_ mFT ro (d + 7, 102, 22, [some (.ref 0), some (.long (62093 + ((I 0 9 : Int32).toInt64))), none, some (.int 1)], [.int (I 0 10), .long (31 * (62093 + ((I 0 9 : Int32).toInt64)))], 0, 0, (mSH, I, L)) _
  refine mB 7 (s2 := (d + 7, 102, 9, [some (.ref 0), some (.long ((31 * (62093 + ((I 0 9 : Int32).toInt64))) + ((I 0 10 : Int32).toInt64))), none, some (.int 2)], [.int 9, .int 2], 0, 0, (mSH, I, L))) rfl ?_
  refine mBF (s3 := (d + 7, 102, 12, [some (.ref 0), some (.long ((31 * (62093 + ((I 0 9 : Int32).toInt64))) + ((I 0 10 : Int32).toInt64))), none, some (.int 2)], [], 0, 0, (mSH, I, L))) rfl (by decide) ?_
  refine mB 5 (s2 := (d + 7, 102, 19, [some (.ref 0), some (.long ((31 * (62093 + ((I 0 9 : Int32).toInt64))) + ((I 0 10 : Int32).toInt64))), none, some (.int 2)], [.int 2, .ref 0, .long (31 * ((31 * (62093 + ((I 0 9 : Int32).toInt64))) + ((I 0 10 : Int32).toInt64)))], 0, 0, (mSH, I, L))) rfl ?_
  refine mCall (s2 := (d + 6, 107, 0, [some (.ref 0), some (.int 2)], [], 0, 0, (mSH, I, L))) rfl ?_
  refine mB 1 (s2 := (d + 6, 107, 1, [some (.ref 0), some (.int 2)], [.int 2], 0, 0, (mSH, I, L))) rfl ?_
  refine mSw1 (t := (d + 6, 107, 54, [some (.ref 0), some (.int 2)], [], 0, 0, (mSH, I, L))) rfl rfl ?_
  refine mB 2 (s2 := (d + 6, 107, 58, [some (.ref 0), some (.int 2)], [.int (I 0 11)], 0, 0, (mSH, I, L))) rfl ?_
  refine mRt (r := (some (.int (I 0 11)))) (h := (mSH, I, L)) rfl (mRet_int rfl) ?_
  show mWP mTb_ mFT ro (d + 7, 102, 22, [some (.ref 0), some (.long ((31 * (62093 + ((I 0 9 : Int32).toInt64))) + ((I 0 10 : Int32).toInt64))), none, some (.int 2)], [.int (I 0 11), .long (31 * ((31 * (62093 + ((I 0 9 : Int32).toInt64))) + ((I 0 10 : Int32).toInt64)))], 0, 0, (mSH, I, L)) _
  refine mB 7 (s2 := (d + 7, 102, 9, [some (.ref 0), some (.long ((31 * ((31 * (62093 + ((I 0 9 : Int32).toInt64))) + ((I 0 10 : Int32).toInt64))) + ((I 0 11 : Int32).toInt64))), none, some (.int 3)], [.int 9, .int 3], 0, 0, (mSH, I, L))) rfl ?_
  refine mBF (s3 := (d + 7, 102, 12, [some (.ref 0), some (.long ((31 * ((31 * (62093 + ((I 0 9 : Int32).toInt64))) + ((I 0 10 : Int32).toInt64))) + ((I 0 11 : Int32).toInt64))), none, some (.int 3)], [], 0, 0, (mSH, I, L))) rfl (by decide) ?_
  refine mB 5 (s2 := (d + 7, 102, 19, [some (.ref 0), some (.long ((31 * ((31 * (62093 + ((I 0 9 : Int32).toInt64))) + ((I 0 10 : Int32).toInt64))) + ((I 0 11 : Int32).toInt64))), none, some (.int 3)], [.int 3, .ref 0, .long (31 * ((31 * ((31 * (62093 + ((I 0 9 : Int32).toInt64))) + ((I 0 10 : Int32).toInt64))) + ((I 0 11 : Int32).toInt64)))], 0, 0, (mSH, I, L))) rfl ?_
  refine mCall (s2 := (d + 6, 107, 0, [some (.ref 0), some (.int 3)], [], 0, 0, (mSH, I, L))) rfl ?_
  refine mB 1 (s2 := (d + 6, 107, 1, [some (.ref 0), some (.int 3)], [.int 3], 0, 0, (mSH, I, L))) rfl ?_
  refine mSw1 (t := (d + 6, 107, 59, [some (.ref 0), some (.int 3)], [], 0, 0, (mSH, I, L))) rfl rfl ?_
  refine mB 2 (s2 := (d + 6, 107, 63, [some (.ref 0), some (.int 3)], [.ref 26], 0, 0, (mSH, I, L))) rfl ?_
  refine mCall (s2 := (d + 5, 39, 0, [some (.ref 26)], [], 0, 0, (mSH, I, L))) rfl ?_
  refine mB 2 (s2 := (d + 5, 39, 4, [some (.ref 26)], [.int (I 26 1)], 0, 0, (mSH, I, L))) rfl ?_
  refine mRt (r := (some (.int (I 26 1)))) (h := (mSH, I, L)) rfl (mRet_int rfl) ?_
  show mWP mTb_ mFT ro (d + 6, 107, 66, [some (.ref 0), some (.int 3)], [.int (I 26 1)], 0, 0, (mSH, I, L)) _
  refine mRt (r := (some (.int (I 26 1)))) (h := (mSH, I, L)) rfl (mRet_int rfl) ?_
  show mWP mTb_ mFT ro (d + 7, 102, 22, [some (.ref 0), some (.long ((31 * ((31 * (62093 + ((I 0 9 : Int32).toInt64))) + ((I 0 10 : Int32).toInt64))) + ((I 0 11 : Int32).toInt64))), none, some (.int 3)], [.int (I 26 1), .long (31 * ((31 * ((31 * (62093 + ((I 0 9 : Int32).toInt64))) + ((I 0 10 : Int32).toInt64))) + ((I 0 11 : Int32).toInt64)))], 0, 0, (mSH, I, L)) _
  refine mB 7 (s2 := (d + 7, 102, 9, [some (.ref 0), some (.long ((31 * ((31 * ((31 * (62093 + ((I 0 9 : Int32).toInt64))) + ((I 0 10 : Int32).toInt64))) + ((I 0 11 : Int32).toInt64))) + ((I 26 1 : Int32).toInt64))), none, some (.int 4)], [.int 9, .int 4], 0, 0, (mSH, I, L))) rfl ?_
  refine mBF (s3 := (d + 7, 102, 12, [some (.ref 0), some (.long ((31 * ((31 * ((31 * (62093 + ((I 0 9 : Int32).toInt64))) + ((I 0 10 : Int32).toInt64))) + ((I 0 11 : Int32).toInt64))) + ((I 26 1 : Int32).toInt64))), none, some (.int 4)], [], 0, 0, (mSH, I, L))) rfl (by decide) ?_
  refine mB 5 (s2 := (d + 7, 102, 19, [some (.ref 0), some (.long ((31 * ((31 * ((31 * (62093 + ((I 0 9 : Int32).toInt64))) + ((I 0 10 : Int32).toInt64))) + ((I 0 11 : Int32).toInt64))) + ((I 26 1 : Int32).toInt64))), none, some (.int 4)], [.int 4, .ref 0, .long (31 * ((31 * ((31 * ((31 * (62093 + ((I 0 9 : Int32).toInt64))) + ((I 0 10 : Int32).toInt64))) + ((I 0 11 : Int32).toInt64))) + ((I 26 1 : Int32).toInt64)))], 0, 0, (mSH, I, L))) rfl ?_
  refine mCall (s2 := (d + 6, 107, 0, [some (.ref 0), some (.int 4)], [], 0, 0, (mSH, I, L))) rfl ?_
  refine mB 1 (s2 := (d + 6, 107, 1, [some (.ref 0), some (.int 4)], [.int 4], 0, 0, (mSH, I, L))) rfl ?_
  refine mSw1 (t := (d + 6, 107, 67, [some (.ref 0), some (.int 4)], [], 0, 0, (mSH, I, L))) rfl rfl ?_
  refine mB 3 (s2 := (d + 6, 107, 74, [some (.ref 0), some (.int 4)], [.ref 2], 0, 0, (mSH, I, L))) rfl ?_
  refine mCall (s2 := (d + 5, 39, 0, [some (.ref 2)], [], 0, 0, (mSH, I, L))) rfl ?_
  refine mB 2 (s2 := (d + 5, 39, 4, [some (.ref 2)], [.int (I 2 1)], 0, 0, (mSH, I, L))) rfl ?_
  refine mRt (r := (some (.int (I 2 1)))) (h := (mSH, I, L)) rfl (mRet_int rfl) ?_
  show mWP mTb_ mFT ro (d + 6, 107, 77, [some (.ref 0), some (.int 4)], [.int (I 2 1)], 0, 0, (mSH, I, L)) _
  refine mRt (r := (some (.int (I 2 1)))) (h := (mSH, I, L)) rfl (mRet_int rfl) ?_
  show mWP mTb_ mFT ro (d + 7, 102, 22, [some (.ref 0), some (.long ((31 * ((31 * ((31 * (62093 + ((I 0 9 : Int32).toInt64))) + ((I 0 10 : Int32).toInt64))) + ((I 0 11 : Int32).toInt64))) + ((I 26 1 : Int32).toInt64))), none, some (.int 4)], [.int (I 2 1), .long (31 * ((31 * ((31 * ((31 * (62093 + ((I 0 9 : Int32).toInt64))) + ((I 0 10 : Int32).toInt64))) + ((I 0 11 : Int32).toInt64))) + ((I 26 1 : Int32).toInt64)))], 0, 0, (mSH, I, L)) _
  refine mB 7 (s2 := (d + 7, 102, 9, [some (.ref 0), some (.long ((31 * ((31 * ((31 * ((31 * (62093 + ((I 0 9 : Int32).toInt64))) + ((I 0 10 : Int32).toInt64))) + ((I 0 11 : Int32).toInt64))) + ((I 26 1 : Int32).toInt64))) + ((I 2 1 : Int32).toInt64))), none, some (.int 5)], [.int 9, .int 5], 0, 0, (mSH, I, L))) rfl ?_
  refine mBF (s3 := (d + 7, 102, 12, [some (.ref 0), some (.long ((31 * ((31 * ((31 * ((31 * (62093 + ((I 0 9 : Int32).toInt64))) + ((I 0 10 : Int32).toInt64))) + ((I 0 11 : Int32).toInt64))) + ((I 26 1 : Int32).toInt64))) + ((I 2 1 : Int32).toInt64))), none, some (.int 5)], [], 0, 0, (mSH, I, L))) rfl (by decide) ?_
  refine mB 5 (s2 := (d + 7, 102, 19, [some (.ref 0), some (.long ((31 * ((31 * ((31 * ((31 * (62093 + ((I 0 9 : Int32).toInt64))) + ((I 0 10 : Int32).toInt64))) + ((I 0 11 : Int32).toInt64))) + ((I 26 1 : Int32).toInt64))) + ((I 2 1 : Int32).toInt64))), none, some (.int 5)], [.int 5, .ref 0, .long (31 * ((31 * ((31 * ((31 * ((31 * (62093 + ((I 0 9 : Int32).toInt64))) + ((I 0 10 : Int32).toInt64))) + ((I 0 11 : Int32).toInt64))) + ((I 26 1 : Int32).toInt64))) + ((I 2 1 : Int32).toInt64)))], 0, 0, (mSH, I, L))) rfl ?_
  refine mCall (s2 := (d + 6, 107, 0, [some (.ref 0), some (.int 5)], [], 0, 0, (mSH, I, L))) rfl ?_
  refine mB 1 (s2 := (d + 6, 107, 1, [some (.ref 0), some (.int 5)], [.int 5], 0, 0, (mSH, I, L))) rfl ?_
  refine mSw1 (t := (d + 6, 107, 78, [some (.ref 0), some (.int 5)], [], 0, 0, (mSH, I, L))) rfl rfl ?_
  refine mB 3 (s2 := (d + 6, 107, 85, [some (.ref 0), some (.int 5)], [.ref 4], 0, 0, (mSH, I, L))) rfl ?_
  refine mCall (s2 := (d + 5, 39, 0, [some (.ref 4)], [], 0, 0, (mSH, I, L))) rfl ?_
  refine mB 2 (s2 := (d + 5, 39, 4, [some (.ref 4)], [.int (I 4 1)], 0, 0, (mSH, I, L))) rfl ?_
  refine mRt (r := (some (.int (I 4 1)))) (h := (mSH, I, L)) rfl (mRet_int rfl) ?_
  show mWP mTb_ mFT ro (d + 6, 107, 88, [some (.ref 0), some (.int 5)], [.int (I 4 1)], 0, 0, (mSH, I, L)) _
  refine mRt (r := (some (.int (I 4 1)))) (h := (mSH, I, L)) rfl (mRet_int rfl) ?_
  show mWP mTb_ mFT ro (d + 7, 102, 22, [some (.ref 0), some (.long ((31 * ((31 * ((31 * ((31 * (62093 + ((I 0 9 : Int32).toInt64))) + ((I 0 10 : Int32).toInt64))) + ((I 0 11 : Int32).toInt64))) + ((I 26 1 : Int32).toInt64))) + ((I 2 1 : Int32).toInt64))), none, some (.int 5)], [.int (I 4 1), .long (31 * ((31 * ((31 * ((31 * ((31 * (62093 + ((I 0 9 : Int32).toInt64))) + ((I 0 10 : Int32).toInt64))) + ((I 0 11 : Int32).toInt64))) + ((I 26 1 : Int32).toInt64))) + ((I 2 1 : Int32).toInt64)))], 0, 0, (mSH, I, L)) _
  refine mB 7 (s2 := (d + 7, 102, 9, [some (.ref 0), some (.long ((31 * ((31 * ((31 * ((31 * ((31 * (62093 + ((I 0 9 : Int32).toInt64))) + ((I 0 10 : Int32).toInt64))) + ((I 0 11 : Int32).toInt64))) + ((I 26 1 : Int32).toInt64))) + ((I 2 1 : Int32).toInt64))) + ((I 4 1 : Int32).toInt64))), none, some (.int 6)], [.int 9, .int 6], 0, 0, (mSH, I, L))) rfl ?_
  refine mBF (s3 := (d + 7, 102, 12, [some (.ref 0), some (.long ((31 * ((31 * ((31 * ((31 * ((31 * (62093 + ((I 0 9 : Int32).toInt64))) + ((I 0 10 : Int32).toInt64))) + ((I 0 11 : Int32).toInt64))) + ((I 26 1 : Int32).toInt64))) + ((I 2 1 : Int32).toInt64))) + ((I 4 1 : Int32).toInt64))), none, some (.int 6)], [], 0, 0, (mSH, I, L))) rfl (by decide) ?_
  refine mB 5 (s2 := (d + 7, 102, 19, [some (.ref 0), some (.long ((31 * ((31 * ((31 * ((31 * ((31 * (62093 + ((I 0 9 : Int32).toInt64))) + ((I 0 10 : Int32).toInt64))) + ((I 0 11 : Int32).toInt64))) + ((I 26 1 : Int32).toInt64))) + ((I 2 1 : Int32).toInt64))) + ((I 4 1 : Int32).toInt64))), none, some (.int 6)], [.int 6, .ref 0, .long (31 * ((31 * ((31 * ((31 * ((31 * ((31 * (62093 + ((I 0 9 : Int32).toInt64))) + ((I 0 10 : Int32).toInt64))) + ((I 0 11 : Int32).toInt64))) + ((I 26 1 : Int32).toInt64))) + ((I 2 1 : Int32).toInt64))) + ((I 4 1 : Int32).toInt64)))], 0, 0, (mSH, I, L))) rfl ?_
  refine mCall (s2 := (d + 6, 107, 0, [some (.ref 0), some (.int 6)], [], 0, 0, (mSH, I, L))) rfl ?_
  refine mB 1 (s2 := (d + 6, 107, 1, [some (.ref 0), some (.int 6)], [.int 6], 0, 0, (mSH, I, L))) rfl ?_
  refine mSw1 (t := (d + 6, 107, 89, [some (.ref 0), some (.int 6)], [], 0, 0, (mSH, I, L))) rfl rfl ?_
  refine mB 3 (s2 := (d + 6, 107, 96, [some (.ref 0), some (.int 6)], [.int (I 1 2)], 0, 0, (mSH, I, L))) rfl ?_
  refine mRt (r := (some (.int (I 1 2)))) (h := (mSH, I, L)) rfl (mRet_int rfl) ?_
  show mWP mTb_ mFT ro (d + 7, 102, 22, [some (.ref 0), some (.long ((31 * ((31 * ((31 * ((31 * ((31 * (62093 + ((I 0 9 : Int32).toInt64))) + ((I 0 10 : Int32).toInt64))) + ((I 0 11 : Int32).toInt64))) + ((I 26 1 : Int32).toInt64))) + ((I 2 1 : Int32).toInt64))) + ((I 4 1 : Int32).toInt64))), none, some (.int 6)], [.int (I 1 2), .long (31 * ((31 * ((31 * ((31 * ((31 * ((31 * (62093 + ((I 0 9 : Int32).toInt64))) + ((I 0 10 : Int32).toInt64))) + ((I 0 11 : Int32).toInt64))) + ((I 26 1 : Int32).toInt64))) + ((I 2 1 : Int32).toInt64))) + ((I 4 1 : Int32).toInt64)))], 0, 0, (mSH, I, L)) _
  refine mB 7 (s2 := (d + 7, 102, 9, [some (.ref 0), some (.long ((31 * ((31 * ((31 * ((31 * ((31 * ((31 * (62093 + ((I 0 9 : Int32).toInt64))) + ((I 0 10 : Int32).toInt64))) + ((I 0 11 : Int32).toInt64))) + ((I 26 1 : Int32).toInt64))) + ((I 2 1 : Int32).toInt64))) + ((I 4 1 : Int32).toInt64))) + ((I 1 2 : Int32).toInt64))), none, some (.int 7)], [.int 9, .int 7], 0, 0, (mSH, I, L))) rfl ?_
  refine mBF (s3 := (d + 7, 102, 12, [some (.ref 0), some (.long ((31 * ((31 * ((31 * ((31 * ((31 * ((31 * (62093 + ((I 0 9 : Int32).toInt64))) + ((I 0 10 : Int32).toInt64))) + ((I 0 11 : Int32).toInt64))) + ((I 26 1 : Int32).toInt64))) + ((I 2 1 : Int32).toInt64))) + ((I 4 1 : Int32).toInt64))) + ((I 1 2 : Int32).toInt64))), none, some (.int 7)], [], 0, 0, (mSH, I, L))) rfl (by decide) ?_
  refine mB 5 (s2 := (d + 7, 102, 19, [some (.ref 0), some (.long ((31 * ((31 * ((31 * ((31 * ((31 * ((31 * (62093 + ((I 0 9 : Int32).toInt64))) + ((I 0 10 : Int32).toInt64))) + ((I 0 11 : Int32).toInt64))) + ((I 26 1 : Int32).toInt64))) + ((I 2 1 : Int32).toInt64))) + ((I 4 1 : Int32).toInt64))) + ((I 1 2 : Int32).toInt64))), none, some (.int 7)], [.int 7, .ref 0, .long (31 * ((31 * ((31 * ((31 * ((31 * ((31 * ((31 * (62093 + ((I 0 9 : Int32).toInt64))) + ((I 0 10 : Int32).toInt64))) + ((I 0 11 : Int32).toInt64))) + ((I 26 1 : Int32).toInt64))) + ((I 2 1 : Int32).toInt64))) + ((I 4 1 : Int32).toInt64))) + ((I 1 2 : Int32).toInt64)))], 0, 0, (mSH, I, L))) rfl ?_
  refine mCall (s2 := (d + 6, 107, 0, [some (.ref 0), some (.int 7)], [], 0, 0, (mSH, I, L))) rfl ?_
  refine mB 1 (s2 := (d + 6, 107, 1, [some (.ref 0), some (.int 7)], [.int 7], 0, 0, (mSH, I, L))) rfl ?_
  refine mSw1 (t := (d + 6, 107, 97, [some (.ref 0), some (.int 7)], [], 0, 0, (mSH, I, L))) rfl rfl ?_
  refine mB 5 (s2 := (d + 6, 107, 105, [some (.ref 0), some (.int 7)], [.int 0, .ref 8], 0, 0, (mSH, I, L))) rfl ?_
  refine mCall (s2 := (d + 5, 10, 0, [some (.ref 8), some (.int 0)], [], 0, 0, (mSH, I, L))) rfl ?_
  refine mB 2 (s2 := (d + 5, 10, 2, [some (.ref 8), some (.int 0)], [.int 0, .ref 8], 0, 0, (mSH, I, L))) rfl ?_
  refine mCall (s2 := (d + 4, 8, 0, [some (.ref 8), some (.int 0)], [], 0, 0, (mSH, I, L))) rfl ?_
  refine mB 1 (s2 := (d + 4, 8, 1, [some (.ref 8), some (.int 0)], [.int 0], 0, 0, (mSH, I, L))) rfl ?_
  refine mBF (s3 := (d + 4, 8, 4, [some (.ref 8), some (.int 0)], [], 0, 0, (mSH, I, L))) rfl (by decide) ?_
  refine mB 4 (s2 := (d + 4, 8, 10, [some (.ref 8), some (.int 0)], [.int 3, .int 0], 0, 0, (mSH, I, L))) rfl ?_
  refine mBF (s3 := (d + 4, 8, 13, [some (.ref 8), some (.int 0)], [], 0, 0, (mSH, I, L))) rfl (by decide) ?_
  refine mB 2 (s2 := (d + 4, 8, 18, [some (.ref 8), some (.int 0)], [.int 1], 0, 0, (mSH, I, L))) rfl ?_
  refine mRt (r := (some (.int 1))) (h := (mSH, I, L)) rfl rfl ?_
  show mWP mTb_ mFT ro (d + 5, 10, 5, [some (.ref 8), some (.int 0)], [.int 1], 0, 0, (mSH, I, L)) _
  refine mBF (s3 := (d + 5, 10, 8, [some (.ref 8), some (.int 0)], [], 0, 0, (mSH, I, L))) rfl (by decide) ?_
  refine mB 3 (s2 := (d + 5, 10, 13, [some (.ref 8), some (.int 0)], [.int 0, .ref 9], 0, 0, (mSH, I, L))) rfl ?_
  refine mRq (s2 := (d + 5, 10, 14, [some (.ref 8), some (.int 0)], [.int (I 9 0)], 0, 0, (mSH, I, L))) rfl (by decide) ?_
  refine mB 1 (s2 := (d + 5, 10, 18, [some (.ref 8), some (.int 0)], [.int (I 9 0)], 0, 0, (mSH, I, L))) rfl ?_
  refine mRt (r := (some (.int (I 9 0)))) (h := (mSH, I, L)) rfl (mRet_int rfl) ?_
  show mWP mTb_ mFT ro (d + 6, 107, 108, [some (.ref 0), some (.int 7)], [.int (I 9 0)], 0, 0, (mSH, I, L)) _
  refine mRt (r := (some (.int (I 9 0)))) (h := (mSH, I, L)) rfl (mRet_int rfl) ?_
  show mWP mTb_ mFT ro (d + 7, 102, 22, [some (.ref 0), some (.long ((31 * ((31 * ((31 * ((31 * ((31 * ((31 * (62093 + ((I 0 9 : Int32).toInt64))) + ((I 0 10 : Int32).toInt64))) + ((I 0 11 : Int32).toInt64))) + ((I 26 1 : Int32).toInt64))) + ((I 2 1 : Int32).toInt64))) + ((I 4 1 : Int32).toInt64))) + ((I 1 2 : Int32).toInt64))), none, some (.int 7)], [.int (I 9 0), .long (31 * ((31 * ((31 * ((31 * ((31 * ((31 * ((31 * (62093 + ((I 0 9 : Int32).toInt64))) + ((I 0 10 : Int32).toInt64))) + ((I 0 11 : Int32).toInt64))) + ((I 26 1 : Int32).toInt64))) + ((I 2 1 : Int32).toInt64))) + ((I 4 1 : Int32).toInt64))) + ((I 1 2 : Int32).toInt64)))], 0, 0, (mSH, I, L)) _
  refine mB 7 (s2 := (d + 7, 102, 9, [some (.ref 0), some (.long ((31 * ((31 * ((31 * ((31 * ((31 * ((31 * ((31 * (62093 + ((I 0 9 : Int32).toInt64))) + ((I 0 10 : Int32).toInt64))) + ((I 0 11 : Int32).toInt64))) + ((I 26 1 : Int32).toInt64))) + ((I 2 1 : Int32).toInt64))) + ((I 4 1 : Int32).toInt64))) + ((I 1 2 : Int32).toInt64))) + ((I 9 0 : Int32).toInt64))), none, some (.int 8)], [.int 9, .int 8], 0, 0, (mSH, I, L))) rfl ?_
  refine mBF (s3 := (d + 7, 102, 12, [some (.ref 0), some (.long ((31 * ((31 * ((31 * ((31 * ((31 * ((31 * ((31 * (62093 + ((I 0 9 : Int32).toInt64))) + ((I 0 10 : Int32).toInt64))) + ((I 0 11 : Int32).toInt64))) + ((I 26 1 : Int32).toInt64))) + ((I 2 1 : Int32).toInt64))) + ((I 4 1 : Int32).toInt64))) + ((I 1 2 : Int32).toInt64))) + ((I 9 0 : Int32).toInt64))), none, some (.int 8)], [], 0, 0, (mSH, I, L))) rfl (by decide) ?_
  refine mB 5 (s2 := (d + 7, 102, 19, [some (.ref 0), some (.long ((31 * ((31 * ((31 * ((31 * ((31 * ((31 * ((31 * (62093 + ((I 0 9 : Int32).toInt64))) + ((I 0 10 : Int32).toInt64))) + ((I 0 11 : Int32).toInt64))) + ((I 26 1 : Int32).toInt64))) + ((I 2 1 : Int32).toInt64))) + ((I 4 1 : Int32).toInt64))) + ((I 1 2 : Int32).toInt64))) + ((I 9 0 : Int32).toInt64))), none, some (.int 8)], [.int 8, .ref 0, .long (31 * ((31 * ((31 * ((31 * ((31 * ((31 * ((31 * ((31 * (62093 + ((I 0 9 : Int32).toInt64))) + ((I 0 10 : Int32).toInt64))) + ((I 0 11 : Int32).toInt64))) + ((I 26 1 : Int32).toInt64))) + ((I 2 1 : Int32).toInt64))) + ((I 4 1 : Int32).toInt64))) + ((I 1 2 : Int32).toInt64))) + ((I 9 0 : Int32).toInt64)))], 0, 0, (mSH, I, L))) rfl ?_
  refine mCall (s2 := (d + 6, 107, 0, [some (.ref 0), some (.int 8)], [], 0, 0, (mSH, I, L))) rfl ?_
  refine mB 1 (s2 := (d + 6, 107, 1, [some (.ref 0), some (.int 8)], [.int 8], 0, 0, (mSH, I, L))) rfl ?_
  refine mSw1 (t := (d + 6, 107, 97, [some (.ref 0), some (.int 8)], [], 0, 0, (mSH, I, L))) rfl rfl ?_
  refine mB 5 (s2 := (d + 6, 107, 105, [some (.ref 0), some (.int 8)], [.int 1, .ref 8], 0, 0, (mSH, I, L))) rfl ?_
  refine mCall (s2 := (d + 5, 10, 0, [some (.ref 8), some (.int 1)], [], 0, 0, (mSH, I, L))) rfl ?_
  refine mB 2 (s2 := (d + 5, 10, 2, [some (.ref 8), some (.int 1)], [.int 1, .ref 8], 0, 0, (mSH, I, L))) rfl ?_
  refine mCall (s2 := (d + 4, 8, 0, [some (.ref 8), some (.int 1)], [], 0, 0, (mSH, I, L))) rfl ?_
  refine mB 1 (s2 := (d + 4, 8, 1, [some (.ref 8), some (.int 1)], [.int 1], 0, 0, (mSH, I, L))) rfl ?_
  refine mBF (s3 := (d + 4, 8, 4, [some (.ref 8), some (.int 1)], [], 0, 0, (mSH, I, L))) rfl (by decide) ?_
  refine mB 4 (s2 := (d + 4, 8, 10, [some (.ref 8), some (.int 1)], [.int 3, .int 1], 0, 0, (mSH, I, L))) rfl ?_
  refine mBF (s3 := (d + 4, 8, 13, [some (.ref 8), some (.int 1)], [], 0, 0, (mSH, I, L))) rfl (by decide) ?_
  refine mB 2 (s2 := (d + 4, 8, 18, [some (.ref 8), some (.int 1)], [.int 1], 0, 0, (mSH, I, L))) rfl ?_
  refine mRt (r := (some (.int 1))) (h := (mSH, I, L)) rfl rfl ?_
  show mWP mTb_ mFT ro (d + 5, 10, 5, [some (.ref 8), some (.int 1)], [.int 1], 0, 0, (mSH, I, L)) _
  refine mBF (s3 := (d + 5, 10, 8, [some (.ref 8), some (.int 1)], [], 0, 0, (mSH, I, L))) rfl (by decide) ?_
  refine mB 3 (s2 := (d + 5, 10, 13, [some (.ref 8), some (.int 1)], [.int 1, .ref 9], 0, 0, (mSH, I, L))) rfl ?_
  refine mRq (s2 := (d + 5, 10, 14, [some (.ref 8), some (.int 1)], [.int (I 9 1)], 0, 0, (mSH, I, L))) rfl (by decide) ?_
  refine mB 1 (s2 := (d + 5, 10, 18, [some (.ref 8), some (.int 1)], [.int (I 9 1)], 0, 0, (mSH, I, L))) rfl ?_
  refine mRt (r := (some (.int (I 9 1)))) (h := (mSH, I, L)) rfl (mRet_int rfl) ?_
  show mWP mTb_ mFT ro (d + 6, 107, 108, [some (.ref 0), some (.int 8)], [.int (I 9 1)], 0, 0, (mSH, I, L)) _
  refine mRt (r := (some (.int (I 9 1)))) (h := (mSH, I, L)) rfl (mRet_int rfl) ?_
  show mWP mTb_ mFT ro (d + 7, 102, 22, [some (.ref 0), some (.long ((31 * ((31 * ((31 * ((31 * ((31 * ((31 * ((31 * (62093 + ((I 0 9 : Int32).toInt64))) + ((I 0 10 : Int32).toInt64))) + ((I 0 11 : Int32).toInt64))) + ((I 26 1 : Int32).toInt64))) + ((I 2 1 : Int32).toInt64))) + ((I 4 1 : Int32).toInt64))) + ((I 1 2 : Int32).toInt64))) + ((I 9 0 : Int32).toInt64))), none, some (.int 8)], [.int (I 9 1), .long (31 * ((31 * ((31 * ((31 * ((31 * ((31 * ((31 * ((31 * (62093 + ((I 0 9 : Int32).toInt64))) + ((I 0 10 : Int32).toInt64))) + ((I 0 11 : Int32).toInt64))) + ((I 26 1 : Int32).toInt64))) + ((I 2 1 : Int32).toInt64))) + ((I 4 1 : Int32).toInt64))) + ((I 1 2 : Int32).toInt64))) + ((I 9 0 : Int32).toInt64)))], 0, 0, (mSH, I, L)) _
  refine mB 7 (s2 := (d + 7, 102, 9, [some (.ref 0), some (.long ((31 * ((31 * ((31 * ((31 * ((31 * ((31 * ((31 * ((31 * (62093 + ((I 0 9 : Int32).toInt64))) + ((I 0 10 : Int32).toInt64))) + ((I 0 11 : Int32).toInt64))) + ((I 26 1 : Int32).toInt64))) + ((I 2 1 : Int32).toInt64))) + ((I 4 1 : Int32).toInt64))) + ((I 1 2 : Int32).toInt64))) + ((I 9 0 : Int32).toInt64))) + ((I 9 1 : Int32).toInt64))), none, some (.int 9)], [.int 9, .int 9], 0, 0, (mSH, I, L))) rfl ?_
  refine mBF (s3 := (d + 7, 102, 12, [some (.ref 0), some (.long ((31 * ((31 * ((31 * ((31 * ((31 * ((31 * ((31 * ((31 * (62093 + ((I 0 9 : Int32).toInt64))) + ((I 0 10 : Int32).toInt64))) + ((I 0 11 : Int32).toInt64))) + ((I 26 1 : Int32).toInt64))) + ((I 2 1 : Int32).toInt64))) + ((I 4 1 : Int32).toInt64))) + ((I 1 2 : Int32).toInt64))) + ((I 9 0 : Int32).toInt64))) + ((I 9 1 : Int32).toInt64))), none, some (.int 9)], [], 0, 0, (mSH, I, L))) rfl (by decide) ?_
  refine mB 5 (s2 := (d + 7, 102, 19, [some (.ref 0), some (.long ((31 * ((31 * ((31 * ((31 * ((31 * ((31 * ((31 * ((31 * (62093 + ((I 0 9 : Int32).toInt64))) + ((I 0 10 : Int32).toInt64))) + ((I 0 11 : Int32).toInt64))) + ((I 26 1 : Int32).toInt64))) + ((I 2 1 : Int32).toInt64))) + ((I 4 1 : Int32).toInt64))) + ((I 1 2 : Int32).toInt64))) + ((I 9 0 : Int32).toInt64))) + ((I 9 1 : Int32).toInt64))), none, some (.int 9)], [.int 9, .ref 0, .long (31 * ((31 * ((31 * ((31 * ((31 * ((31 * ((31 * ((31 * ((31 * (62093 + ((I 0 9 : Int32).toInt64))) + ((I 0 10 : Int32).toInt64))) + ((I 0 11 : Int32).toInt64))) + ((I 26 1 : Int32).toInt64))) + ((I 2 1 : Int32).toInt64))) + ((I 4 1 : Int32).toInt64))) + ((I 1 2 : Int32).toInt64))) + ((I 9 0 : Int32).toInt64))) + ((I 9 1 : Int32).toInt64)))], 0, 0, (mSH, I, L))) rfl ?_
  refine mCall (s2 := (d + 6, 107, 0, [some (.ref 0), some (.int 9)], [], 0, 0, (mSH, I, L))) rfl ?_
  refine mB 1 (s2 := (d + 6, 107, 1, [some (.ref 0), some (.int 9)], [.int 9], 0, 0, (mSH, I, L))) rfl ?_
  refine mSw1 (t := (d + 6, 107, 97, [some (.ref 0), some (.int 9)], [], 0, 0, (mSH, I, L))) rfl rfl ?_
  refine mB 5 (s2 := (d + 6, 107, 105, [some (.ref 0), some (.int 9)], [.int 2, .ref 8], 0, 0, (mSH, I, L))) rfl ?_
  refine mCall (s2 := (d + 5, 10, 0, [some (.ref 8), some (.int 2)], [], 0, 0, (mSH, I, L))) rfl ?_
  refine mB 2 (s2 := (d + 5, 10, 2, [some (.ref 8), some (.int 2)], [.int 2, .ref 8], 0, 0, (mSH, I, L))) rfl ?_
  refine mCall (s2 := (d + 4, 8, 0, [some (.ref 8), some (.int 2)], [], 0, 0, (mSH, I, L))) rfl ?_
  refine mB 1 (s2 := (d + 4, 8, 1, [some (.ref 8), some (.int 2)], [.int 2], 0, 0, (mSH, I, L))) rfl ?_
  refine mBF (s3 := (d + 4, 8, 4, [some (.ref 8), some (.int 2)], [], 0, 0, (mSH, I, L))) rfl (by decide) ?_
  refine mB 4 (s2 := (d + 4, 8, 10, [some (.ref 8), some (.int 2)], [.int 3, .int 2], 0, 0, (mSH, I, L))) rfl ?_
  refine mBF (s3 := (d + 4, 8, 13, [some (.ref 8), some (.int 2)], [], 0, 0, (mSH, I, L))) rfl (by decide) ?_
  refine mB 2 (s2 := (d + 4, 8, 18, [some (.ref 8), some (.int 2)], [.int 1], 0, 0, (mSH, I, L))) rfl ?_
  refine mRt (r := (some (.int 1))) (h := (mSH, I, L)) rfl rfl ?_
  show mWP mTb_ mFT ro (d + 5, 10, 5, [some (.ref 8), some (.int 2)], [.int 1], 0, 0, (mSH, I, L)) _
  refine mBF (s3 := (d + 5, 10, 8, [some (.ref 8), some (.int 2)], [], 0, 0, (mSH, I, L))) rfl (by decide) ?_
  refine mB 3 (s2 := (d + 5, 10, 13, [some (.ref 8), some (.int 2)], [.int 2, .ref 9], 0, 0, (mSH, I, L))) rfl ?_
  refine mRq (s2 := (d + 5, 10, 14, [some (.ref 8), some (.int 2)], [.int (I 9 2)], 0, 0, (mSH, I, L))) rfl (by decide) ?_
  refine mB 1 (s2 := (d + 5, 10, 18, [some (.ref 8), some (.int 2)], [.int (I 9 2)], 0, 0, (mSH, I, L))) rfl ?_
  refine mRt (r := (some (.int (I 9 2)))) (h := (mSH, I, L)) rfl (mRet_int rfl) ?_
  show mWP mTb_ mFT ro (d + 6, 107, 108, [some (.ref 0), some (.int 9)], [.int (I 9 2)], 0, 0, (mSH, I, L)) _
  refine mRt (r := (some (.int (I 9 2)))) (h := (mSH, I, L)) rfl (mRet_int rfl) ?_
  show mWP mTb_ mFT ro (d + 7, 102, 22, [some (.ref 0), some (.long ((31 * ((31 * ((31 * ((31 * ((31 * ((31 * ((31 * ((31 * (62093 + ((I 0 9 : Int32).toInt64))) + ((I 0 10 : Int32).toInt64))) + ((I 0 11 : Int32).toInt64))) + ((I 26 1 : Int32).toInt64))) + ((I 2 1 : Int32).toInt64))) + ((I 4 1 : Int32).toInt64))) + ((I 1 2 : Int32).toInt64))) + ((I 9 0 : Int32).toInt64))) + ((I 9 1 : Int32).toInt64))), none, some (.int 9)], [.int (I 9 2), .long (31 * ((31 * ((31 * ((31 * ((31 * ((31 * ((31 * ((31 * ((31 * (62093 + ((I 0 9 : Int32).toInt64))) + ((I 0 10 : Int32).toInt64))) + ((I 0 11 : Int32).toInt64))) + ((I 26 1 : Int32).toInt64))) + ((I 2 1 : Int32).toInt64))) + ((I 4 1 : Int32).toInt64))) + ((I 1 2 : Int32).toInt64))) + ((I 9 0 : Int32).toInt64))) + ((I 9 1 : Int32).toInt64)))], 0, 0, (mSH, I, L)) _
  refine mB 7 (s2 := (d + 7, 102, 9, [some (.ref 0), some (.long ((31 * ((31 * ((31 * ((31 * ((31 * ((31 * ((31 * ((31 * ((31 * (62093 + ((I 0 9 : Int32).toInt64))) + ((I 0 10 : Int32).toInt64))) + ((I 0 11 : Int32).toInt64))) + ((I 26 1 : Int32).toInt64))) + ((I 2 1 : Int32).toInt64))) + ((I 4 1 : Int32).toInt64))) + ((I 1 2 : Int32).toInt64))) + ((I 9 0 : Int32).toInt64))) + ((I 9 1 : Int32).toInt64))) + ((I 9 2 : Int32).toInt64))), none, some (.int 10)], [.int 9, .int 10], 0, 0, (mSH, I, L))) rfl ?_
  refine mBT (s2 := (d + 7, 102, 31, [some (.ref 0), some (.long ((31 * ((31 * ((31 * ((31 * ((31 * ((31 * ((31 * ((31 * ((31 * (62093 + ((I 0 9 : Int32).toInt64))) + ((I 0 10 : Int32).toInt64))) + ((I 0 11 : Int32).toInt64))) + ((I 26 1 : Int32).toInt64))) + ((I 2 1 : Int32).toInt64))) + ((I 4 1 : Int32).toInt64))) + ((I 1 2 : Int32).toInt64))) + ((I 9 0 : Int32).toInt64))) + ((I 9 1 : Int32).toInt64))) + ((I 9 2 : Int32).toInt64))), none, some (.int 10)], [], 0, 0, (mSH, I, L))) rfl (by decide) ?_
  refine mB 4 (s2 := (d + 7, 102, 39, [some (.ref 0), some (.long ((31 * ((31 * ((31 * ((31 * ((31 * ((31 * ((31 * ((31 * ((31 * (62093 + ((I 0 9 : Int32).toInt64))) + ((I 0 10 : Int32).toInt64))) + ((I 0 11 : Int32).toInt64))) + ((I 26 1 : Int32).toInt64))) + ((I 2 1 : Int32).toInt64))) + ((I 4 1 : Int32).toInt64))) + ((I 1 2 : Int32).toInt64))) + ((I 9 0 : Int32).toInt64))) + ((I 9 1 : Int32).toInt64))) + ((I 9 2 : Int32).toInt64))), none, some (.int 10)], [.long ((31 * ((31 * ((31 * ((31 * ((31 * ((31 * ((31 * ((31 * ((31 * (62093 + ((I 0 9 : Int32).toInt64))) + ((I 0 10 : Int32).toInt64))) + ((I 0 11 : Int32).toInt64))) + ((I 26 1 : Int32).toInt64))) + ((I 2 1 : Int32).toInt64))) + ((I 4 1 : Int32).toInt64))) + ((I 1 2 : Int32).toInt64))) + ((I 9 0 : Int32).toInt64))) + ((I 9 1 : Int32).toInt64))) + ((I 9 2 : Int32).toInt64)), .ref 2], 0, 0, (mSH, I, L))) rfl ?_
  refine mCall (s2 := (d + 6, 49, 0, [some (.ref 2), some (.long ((31 * ((31 * ((31 * ((31 * ((31 * ((31 * ((31 * ((31 * ((31 * (62093 + ((I 0 9 : Int32).toInt64))) + ((I 0 10 : Int32).toInt64))) + ((I 0 11 : Int32).toInt64))) + ((I 26 1 : Int32).toInt64))) + ((I 2 1 : Int32).toInt64))) + ((I 4 1 : Int32).toInt64))) + ((I 1 2 : Int32).toInt64))) + ((I 9 0 : Int32).toInt64))) + ((I 9 1 : Int32).toInt64))) + ((I 9 2 : Int32).toInt64))), none, none, none, none], [], 0, 0, (mSH, I, L))) rfl ?_
  refine w_mixed_2 hI.1 (fun r1 => ?_)
  show mWP mTb_ mFT ro (d + 7, 102, 42, [some (.ref 0), some (.long ((31 * ((31 * ((31 * ((31 * ((31 * ((31 * ((31 * ((31 * ((31 * (62093 + ((I 0 9 : Int32).toInt64))) + ((I 0 10 : Int32).toInt64))) + ((I 0 11 : Int32).toInt64))) + ((I 26 1 : Int32).toInt64))) + ((I 2 1 : Int32).toInt64))) + ((I 4 1 : Int32).toInt64))) + ((I 1 2 : Int32).toInt64))) + ((I 9 0 : Int32).toInt64))) + ((I 9 1 : Int32).toInt64))) + ((I 9 2 : Int32).toInt64))), none, some (.int 10)], [.long r1], 0, 0, (mSH, I, L)) _
  refine mB 5 (s2 := (d + 7, 102, 51, [some (.ref 0), some (.long r1), none, some (.int 10)], [.long r1, .ref 4], 0, 0, (mSH, I, L))) rfl ?_
  refine mCall (s2 := (d + 6, 49, 0, [some (.ref 4), some (.long r1), none, none, none, none], [], 0, 0, (mSH, I, L))) rfl ?_
  refine w_mixed_4 hI.2.1 (fun r2 => ?_)
  show mWP mTb_ mFT ro (d + 7, 102, 54, [some (.ref 0), some (.long r1), none, some (.int 10)], [.long r2], 0, 0, (mSH, I, L)) _
  refine mB 4 (s2 := (d + 7, 102, 60, [some (.ref 0), some (.long r2), none, some (.int 10)], [.long r2, .ref 6], 0, 0, (mSH, I, L))) rfl ?_
  refine mCall (s2 := (d + 6, 3, 0, [some (.ref 6), some (.long r2), none, none, none], [], 0, 0, (mSH, I, L))) rfl ?_
  refine mB 31 (s2 := (d + 6, 3, 47, [some (.ref 6), some (.long r2), none, some (.long ((31 * ((31 * ((31 * r2) + ((I 6 0 : Int32).toInt64))) + ((I 6 1 : Int32).toInt64))) + ((I 6 2 : Int32).toInt64))), none], [.long ((31 * ((31 * ((31 * ((31 * r2) + ((I 6 0 : Int32).toInt64))) + ((I 6 1 : Int32).toInt64))) + ((I 6 2 : Int32).toInt64))) + ((I 6 3 : Int32).toInt64))], 0, 0, (mSH, I, L))) rfl ?_
  refine mRt (r := (some (.long ((31 * ((31 * ((31 * ((31 * r2) + ((I 6 0 : Int32).toInt64))) + ((I 6 1 : Int32).toInt64))) + ((I 6 2 : Int32).toInt64))) + ((I 6 3 : Int32).toInt64))))) (h := (mSH, I, L)) rfl rfl ?_
  show mWP mTb_ mFT ro (d + 7, 102, 63, [some (.ref 0), some (.long r2), none, some (.int 10)], [.long ((31 * ((31 * ((31 * ((31 * r2) + ((I 6 0 : Int32).toInt64))) + ((I 6 1 : Int32).toInt64))) + ((I 6 2 : Int32).toInt64))) + ((I 6 3 : Int32).toInt64))], 0, 0, (mSH, I, L)) _
  refine mB 20 (s2 := (d + 7, 102, 95, [some (.ref 0), some (.long ((31 * ((31 * ((31 * ((31 * ((31 * ((31 * r2) + ((I 6 0 : Int32).toInt64))) + ((I 6 1 : Int32).toInt64))) + ((I 6 2 : Int32).toInt64))) + ((I 6 3 : Int32).toInt64))) + ((I 25 0 : Int32).toInt64))) + ((I 25 1 : Int32).toInt64))), none, some (.int 10)], [.ref 0], 0, 0, (mSH, I, L))) rfl ?_
  refine mCall (s2 := (d + 6, 105, 0, [some (.ref 0)], [], 0, 0, (mSH, I, L))) rfl ?_
  refine mB 7 (s2 := (d + 6, 105, 13, [some (.ref 0)], [.int 0, .ref 8, .ref 6, .ref 10], 0, 0, (mSH, I, L))) rfl ?_
  refine mCall (s2 := (d + 5, 10, 0, [some (.ref 8), some (.int 0)], [], 0, 0, (mSH, I, L))) rfl ?_
  refine mB 2 (s2 := (d + 5, 10, 2, [some (.ref 8), some (.int 0)], [.int 0, .ref 8], 0, 0, (mSH, I, L))) rfl ?_
  refine mCall (s2 := (d + 4, 8, 0, [some (.ref 8), some (.int 0)], [], 0, 0, (mSH, I, L))) rfl ?_
  refine mB 1 (s2 := (d + 4, 8, 1, [some (.ref 8), some (.int 0)], [.int 0], 0, 0, (mSH, I, L))) rfl ?_
  refine mBF (s3 := (d + 4, 8, 4, [some (.ref 8), some (.int 0)], [], 0, 0, (mSH, I, L))) rfl (by decide) ?_
  refine mB 4 (s2 := (d + 4, 8, 10, [some (.ref 8), some (.int 0)], [.int 3, .int 0], 0, 0, (mSH, I, L))) rfl ?_
  refine mBF (s3 := (d + 4, 8, 13, [some (.ref 8), some (.int 0)], [], 0, 0, (mSH, I, L))) rfl (by decide) ?_
  refine mB 2 (s2 := (d + 4, 8, 18, [some (.ref 8), some (.int 0)], [.int 1], 0, 0, (mSH, I, L))) rfl ?_
  refine mRt (r := (some (.int 1))) (h := (mSH, I, L)) rfl rfl ?_
  show mWP mTb_ mFT ro (d + 5, 10, 5, [some (.ref 8), some (.int 0)], [.int 1], 0, 0, (mSH, I, L)) _
  refine mBF (s3 := (d + 5, 10, 8, [some (.ref 8), some (.int 0)], [], 0, 0, (mSH, I, L))) rfl (by decide) ?_
  refine mB 3 (s2 := (d + 5, 10, 13, [some (.ref 8), some (.int 0)], [.int 0, .ref 9], 0, 0, (mSH, I, L))) rfl ?_
  refine mRq (s2 := (d + 5, 10, 14, [some (.ref 8), some (.int 0)], [.int (I 9 0)], 0, 0, (mSH, I, L))) rfl (by decide) ?_
  refine mB 1 (s2 := (d + 5, 10, 18, [some (.ref 8), some (.int 0)], [.int (I 9 0)], 0, 0, (mSH, I, L))) rfl ?_
  refine mRt (r := (some (.int (I 9 0)))) (h := (mSH, I, L)) rfl (mRet_int rfl) ?_
  show mWP mTb_ mFT ro (d + 6, 105, 16, [some (.ref 0)], [.int (I 9 0), .ref 6, .ref 10], 0, 0, (mSH, I, L)) _
  refine mCall (s2 := (d + 5, 52, 0, [some (.ref 10), some (.ref 6), some (.int (I 9 0)), none, none, none], [], 0, 0, (mSH, I, L))) rfl ?_
  refine w_fill_L6 hI.1 hI.2.1 hI.2.2.2.2.2.2 (fun K3 hK3 => ?_)
  show mWP mTb_ mFT ro (d + 6, 105, 19, [some (.ref 0)], [], 0, 0, (mSH, (mMix mSS I K3), L)) _
  refine mRt (r := none) (h := (mSH, (mMix mSS I K3), L)) rfl rfl ?_
  show mWP mTb_ mFT ro (d + 7, 102, 98, [some (.ref 0), some (.long ((31 * ((31 * ((31 * ((31 * ((31 * ((31 * r2) + ((I 6 0 : Int32).toInt64))) + ((I 6 1 : Int32).toInt64))) + ((I 6 2 : Int32).toInt64))) + ((I 6 3 : Int32).toInt64))) + ((I 25 0 : Int32).toInt64))) + ((I 25 1 : Int32).toInt64))), none, some (.int 10)], [], 0, 0, (mSH, (mMix mSS I K3), L)) _
  refine mB 5 (s2 := (d + 7, 102, 107, [some (.ref 0), some (.long ((31 * ((31 * ((31 * ((31 * ((31 * ((31 * r2) + ((I 6 0 : Int32).toInt64))) + ((I 6 1 : Int32).toInt64))) + ((I 6 2 : Int32).toInt64))) + ((I 6 3 : Int32).toInt64))) + ((I 25 0 : Int32).toInt64))) + ((I 25 1 : Int32).toInt64))), none, some (.int 10)], [.ref 10, .long (31 * ((31 * ((31 * ((31 * ((31 * ((31 * ((31 * r2) + ((I 6 0 : Int32).toInt64))) + ((I 6 1 : Int32).toInt64))) + ((I 6 2 : Int32).toInt64))) + ((I 6 3 : Int32).toInt64))) + ((I 25 0 : Int32).toInt64))) + ((I 25 1 : Int32).toInt64)))], 0, 0, (mSH, (mMix mSS I K3), L))) rfl ?_
  refine mCall (s2 := (d + 6, 61, 0, [some (.ref 10)], [], 0, 0, (mSH, (mMix mSS I K3), L))) rfl ?_
  refine mB 2 (s2 := (d + 6, 61, 4, [some (.ref 10)], [.int 153, .ref 10], 0, 0, (mSH, (mMix mSS I K3), L))) rfl ?_
  refine mCall (s2 := (d + 5, 60, 0, [some (.ref 10), some (.int 153)], [], 0, 0, (mSH, (mMix mSS I K3), L))) rfl ?_
  refine mB 3 (s2 := (d + 5, 60, 5, [some (.ref 10), some (.int 153)], [.int 0, .ref 11], 0, 0, (mSH, (mMix mSS I K3), L))) rfl ?_
  refine mRq (s2 := (d + 5, 60, 6, [some (.ref 10), some (.int 153)], [.ref 12], 0, 0, (mSH, (mMix mSS I K3), L))) rfl (by decide) ?_
  refine mB 1 (s2 := (d + 5, 60, 7, [some (.ref 10), some (.int 153)], [.int 153, .ref 12], 0, 0, (mSH, (mMix mSS I K3), L))) rfl ?_
  refine mRq (s2 := (d + 5, 60, 8, [some (.ref 10), some (.int 153)], [.int (K3 12 153)], 0, 0, (mSH, (mMix mSS I K3), L))) rfl (by decide) ?_
  refine mB 1 (s2 := (d + 5, 60, 10, [some (.ref 10), some (.int 153)], [.int 1000000000, .int (K3 12 153)], 0, 0, (mSH, (mMix mSS I K3), L))) rfl ?_
  refine mBr (s2 := (d + 5, 60, 13, [some (.ref 10), some (.int 153)], [], 0, 0, (mSH, (mMix mSS I K3), L))) (s3 := (d + 5, 60, 17, [some (.ref 10), some (.int 153)], [], 0, 0, (mSH, (mMix mSS I K3), L))) rfl (fun c4 => ?_) (fun c4 => ?_)
  · refine mB 2 (s2 := (d + 5, 60, 25, [some (.ref 10), some (.int 153)], [.int (-1)], 0, 0, (mSH, (mMix mSS I K3), L))) rfl ?_
    refine mRt (r := (some (.int (-1)))) (h := (mSH, (mMix mSS I K3), L)) rfl (mRet_int rfl) ?_
    show mWP mTb_ mFT ro (d + 6, 61, 7, [some (.ref 10)], [.int (-1)], 0, 0, (mSH, (mMix mSS I K3), L)) _
    refine mRt (r := (some (.int (-1)))) (h := (mSH, (mMix mSS I K3), L)) rfl (mRet_int rfl) ?_
    show mWP mTb_ mFT ro (d + 7, 102, 110, [some (.ref 0), some (.long ((31 * ((31 * ((31 * ((31 * ((31 * ((31 * r2) + ((I 6 0 : Int32).toInt64))) + ((I 6 1 : Int32).toInt64))) + ((I 6 2 : Int32).toInt64))) + ((I 6 3 : Int32).toInt64))) + ((I 25 0 : Int32).toInt64))) + ((I 25 1 : Int32).toInt64))), none, some (.int 10)], [.int (-1), .long (31 * ((31 * ((31 * ((31 * ((31 * ((31 * ((31 * r2) + ((I 6 0 : Int32).toInt64))) + ((I 6 1 : Int32).toInt64))) + ((I 6 2 : Int32).toInt64))) + ((I 6 3 : Int32).toInt64))) + ((I 25 0 : Int32).toInt64))) + ((I 25 1 : Int32).toInt64)))], 0, 0, (mSH, (mMix mSS I K3), L)) _
    refine mB 2 (s2 := (d + 7, 102, 112, [some (.ref 0), some (.long ((31 * ((31 * ((31 * ((31 * ((31 * ((31 * r2) + ((I 6 0 : Int32).toInt64))) + ((I 6 1 : Int32).toInt64))) + ((I 6 2 : Int32).toInt64))) + ((I 6 3 : Int32).toInt64))) + ((I 25 0 : Int32).toInt64))) + ((I 25 1 : Int32).toInt64))), none, some (.int 10)], [.long ((31 * ((31 * ((31 * ((31 * ((31 * ((31 * ((31 * r2) + ((I 6 0 : Int32).toInt64))) + ((I 6 1 : Int32).toInt64))) + ((I 6 2 : Int32).toInt64))) + ((I 6 3 : Int32).toInt64))) + ((I 25 0 : Int32).toInt64))) + ((I 25 1 : Int32).toInt64))) + (((-1) : Int32).toInt64))], 0, 0, (mSH, (mMix mSS I K3), L))) rfl ?_
    refine mRt (r := (some (.long ((31 * ((31 * ((31 * ((31 * ((31 * ((31 * ((31 * r2) + ((I 6 0 : Int32).toInt64))) + ((I 6 1 : Int32).toInt64))) + ((I 6 2 : Int32).toInt64))) + ((I 6 3 : Int32).toInt64))) + ((I 25 0 : Int32).toInt64))) + ((I 25 1 : Int32).toInt64))) + (((-1) : Int32).toInt64))))) (h := (mSH, (mMix mSS I K3), L)) rfl rfl ?_
    exact hq _ _ (mFr.mix (by decide) mFr.rf) ⟨hI.1, hI.2.1, hI.2.2.1, hI.2.2.2.1, hI.2.2.2.2.1, hI.2.2.2.2.2.1, hK3⟩
  · refine mB 3 (s2 := (d + 5, 60, 22, [some (.ref 10), some (.int 153)], [.int 0, .ref 11], 0, 0, (mSH, (mMix mSS I K3), L))) rfl ?_
    refine mRq (s2 := (d + 5, 60, 23, [some (.ref 10), some (.int 153)], [.ref 12], 0, 0, (mSH, (mMix mSS I K3), L))) rfl (by decide) ?_
    refine mB 1 (s2 := (d + 5, 60, 24, [some (.ref 10), some (.int 153)], [.int 153, .ref 12], 0, 0, (mSH, (mMix mSS I K3), L))) rfl ?_
    refine mRq (s2 := (d + 5, 60, 25, [some (.ref 10), some (.int 153)], [.int (K3 12 153)], 0, 0, (mSH, (mMix mSS I K3), L))) rfl (by decide) ?_
    refine mRt (r := (some (.int (K3 12 153)))) (h := (mSH, (mMix mSS I K3), L)) rfl (mRet_int rfl) ?_
    show mWP mTb_ mFT ro (d + 6, 61, 7, [some (.ref 10)], [.int (K3 12 153)], 0, 0, (mSH, (mMix mSS I K3), L)) _
    refine mRt (r := (some (.int (K3 12 153)))) (h := (mSH, (mMix mSS I K3), L)) rfl (mRet_int rfl) ?_
    show mWP mTb_ mFT ro (d + 7, 102, 110, [some (.ref 0), some (.long ((31 * ((31 * ((31 * ((31 * ((31 * ((31 * r2) + ((I 6 0 : Int32).toInt64))) + ((I 6 1 : Int32).toInt64))) + ((I 6 2 : Int32).toInt64))) + ((I 6 3 : Int32).toInt64))) + ((I 25 0 : Int32).toInt64))) + ((I 25 1 : Int32).toInt64))), none, some (.int 10)], [.int (K3 12 153), .long (31 * ((31 * ((31 * ((31 * ((31 * ((31 * ((31 * r2) + ((I 6 0 : Int32).toInt64))) + ((I 6 1 : Int32).toInt64))) + ((I 6 2 : Int32).toInt64))) + ((I 6 3 : Int32).toInt64))) + ((I 25 0 : Int32).toInt64))) + ((I 25 1 : Int32).toInt64)))], 0, 0, (mSH, (mMix mSS I K3), L)) _
    refine mB 2 (s2 := (d + 7, 102, 112, [some (.ref 0), some (.long ((31 * ((31 * ((31 * ((31 * ((31 * ((31 * r2) + ((I 6 0 : Int32).toInt64))) + ((I 6 1 : Int32).toInt64))) + ((I 6 2 : Int32).toInt64))) + ((I 6 3 : Int32).toInt64))) + ((I 25 0 : Int32).toInt64))) + ((I 25 1 : Int32).toInt64))), none, some (.int 10)], [.long ((31 * ((31 * ((31 * ((31 * ((31 * ((31 * ((31 * r2) + ((I 6 0 : Int32).toInt64))) + ((I 6 1 : Int32).toInt64))) + ((I 6 2 : Int32).toInt64))) + ((I 6 3 : Int32).toInt64))) + ((I 25 0 : Int32).toInt64))) + ((I 25 1 : Int32).toInt64))) + ((K3 12 153 : Int32).toInt64))], 0, 0, (mSH, (mMix mSS I K3), L))) rfl ?_
    refine mRt (r := (some (.long ((31 * ((31 * ((31 * ((31 * ((31 * ((31 * ((31 * r2) + ((I 6 0 : Int32).toInt64))) + ((I 6 1 : Int32).toInt64))) + ((I 6 2 : Int32).toInt64))) + ((I 6 3 : Int32).toInt64))) + ((I 25 0 : Int32).toInt64))) + ((I 25 1 : Int32).toInt64))) + ((K3 12 153 : Int32).toInt64))))) (h := (mSH, (mMix mSS I K3), L)) rfl rfl ?_
    exact hq _ _ (mFr.mix (by decide) mFr.rf) ⟨hI.1, hI.2.1, hI.2.2.1, hI.2.2.2.1, hI.2.2.2.2.1, hI.2.2.2.2.2.1, hK3⟩
theorem s_begins {ro : Nat → Nat × (Nat → Int32)} {Q : mPo} {d : Nat} {I : Nat → Nat → Int32} {L : Nat → Nat → Int64} {K : Nat → Nat → Int32} {x0 : Int32} {b : Int32} (hI : mIC I) (hK : mRk K) (hq : ∀ r I1, mFr mSA I I1 → mIC I1 → Q (some (.int r)) (mSH, I1, L)) (ih : ¬ (I 2 1) ≤ x0 → ∀ (K : Nat → Nat → Int32) (b : Int32), mRk K → mWP mTb_ mFT ro (d + 7, 89, 8, [some (.ref 0), some (.int b), some (.int (x0 + 1))], [], 0, 0, (mSH, (mMix mSS I K), L)) Q)  : mWP mTb_ mFT ro (d + 7, 89, 8, [some (.ref 0), some (.int b), some (.int x0)], [], 0, 0, (mSH, (mMix mSS I K), L)) Q := by
  refine mB 4 (s2 := (d + 7, 89, 16, [some (.ref 0), some (.int b), some (.int x0)], [.ref 2, .int x0], 0, 0, (mSH, (mMix mSS I K), L))) rfl ?_
  refine mCall (s2 := (d + 6, 39, 0, [some (.ref 2)], [], 0, 0, (mSH, (mMix mSS I K), L))) rfl ?_
  refine mB 2 (s2 := (d + 6, 39, 4, [some (.ref 2)], [.int (I 2 1)], 0, 0, (mSH, (mMix mSS I K), L))) rfl ?_
  refine mRt (r := (some (.int (I 2 1)))) (h := (mSH, (mMix mSS I K), L)) rfl (mRet_int rfl) ?_
  show mWP mTb_ mFT ro (d + 7, 89, 19, [some (.ref 0), some (.int b), some (.int x0)], [.int (I 2 1), .int x0], 0, 0, (mSH, (mMix mSS I K), L)) _
  refine mBr (s2 := (d + 7, 89, 46, [some (.ref 0), some (.int b), some (.int x0)], [], 0, 0, (mSH, (mMix mSS I K), L))) (s3 := (d + 7, 89, 22, [some (.ref 0), some (.int b), some (.int x0)], [], 0, 0, (mSH, (mMix mSS I K), L))) rfl (fun c0 => ?_) (fun c0 => ?_)
  · refine mB 1 (s2 := (d + 7, 89, 47, [some (.ref 0), some (.int b), some (.int x0)], [.int b], 0, 0, (mSH, (mMix mSS I K), L))) rfl ?_
    refine mRt (r := (some (.int b))) (h := (mSH, (mMix mSS I K), L)) rfl (mRet_int rfl) ?_
    exact hq _ _ (mFr.mix (by decide) mFr.rf) ⟨hI.1, hI.2.1, hI.2.2.1, hI.2.2.2.1, hI.2.2.2.2.1, hI.2.2.2.2.2.1, hK⟩
  · refine mB 3 (s2 := (d + 7, 89, 27, [some (.ref 0), some (.int b), some (.int x0)], [.int x0, .ref 10], 0, 0, (mSH, (mMix mSS I K), L))) rfl ?_
    refine mCall (s2 := (d + 6, 62, 0, [some (.ref 10), some (.int x0)], [], 0, 0, (mSH, (mMix mSS I K), L))) rfl ?_
    refine mB 3 (s2 := (d + 6, 62, 3, [some (.ref 10), some (.int x0)], [.int x0, .int 0, .ref 10], 0, 0, (mSH, (mMix mSS I K), L))) rfl ?_
    refine mCall (s2 := (d + 5, 59, 0, [some (.int 0), some (.int x0), none], [], 0, 0, (mSH, (mMix mSS I K), L))) rfl ?_
    refine w_cellOf (fun x1 hx1 => ?_)
    show mWP mTb_ mFT ro (d + 6, 62, 6, [some (.ref 10), some (.int x0)], [.int x1, .ref 10], 0, 0, (mSH, (mMix mSS I K), L)) _
    refine mCall (s2 := (d + 5, 60, 0, [some (.ref 10), some (.int x1)], [], 0, 0, (mSH, (mMix mSS I K), L))) rfl ?_
    refine mB 3 (s2 := (d + 5, 60, 5, [some (.ref 10), some (.int x1)], [.int 0, .ref 11], 0, 0, (mSH, (mMix mSS I K), L))) rfl ?_
    refine mRq (s2 := (d + 5, 60, 6, [some (.ref 10), some (.int x1)], [.ref 12], 0, 0, (mSH, (mMix mSS I K), L))) rfl (by decide) ?_
    refine mB 1 (s2 := (d + 5, 60, 7, [some (.ref 10), some (.int x1)], [.int x1, .ref 12], 0, 0, (mSH, (mMix mSS I K), L))) rfl ?_
    refine mRq (s2 := (d + 5, 60, 8, [some (.ref 10), some (.int x1)], [.int (K 12 x1.toNatClampNeg)], 0, 0, (mSH, (mMix mSS I K), L))) rfl (mVp_of hx1) ?_
    refine mB 1 (s2 := (d + 5, 60, 10, [some (.ref 10), some (.int x1)], [.int 1000000000, .int (K 12 x1.toNatClampNeg)], 0, 0, (mSH, (mMix mSS I K), L))) rfl ?_
    refine mBr (s2 := (d + 5, 60, 13, [some (.ref 10), some (.int x1)], [], 0, 0, (mSH, (mMix mSS I K), L))) (s3 := (d + 5, 60, 17, [some (.ref 10), some (.int x1)], [], 0, 0, (mSH, (mMix mSS I K), L))) rfl (fun c3 => ?_) (fun c3 => ?_)
    · refine mB 2 (s2 := (d + 5, 60, 25, [some (.ref 10), some (.int x1)], [.int (-1)], 0, 0, (mSH, (mMix mSS I K), L))) rfl ?_
      refine mRt (r := (some (.int (-1)))) (h := (mSH, (mMix mSS I K), L)) rfl (mRet_int rfl) ?_
      show mWP mTb_ mFT ro (d + 6, 62, 9, [some (.ref 10), some (.int x0)], [.int (-1)], 0, 0, (mSH, (mMix mSS I K), L)) _
      refine mRt (r := (some (.int (-1)))) (h := (mSH, (mMix mSS I K), L)) rfl (mRet_int rfl) ?_
      show mWP mTb_ mFT ro (d + 7, 89, 30, [some (.ref 0), some (.int b), some (.int x0)], [.int (-1)], 0, 0, (mSH, (mMix mSS I K), L)) _
      refine mB 1 (s2 := (d + 7, 89, 31, [some (.ref 0), some (.int b), some (.int x0)], [.int (-1), .int (-1)], 0, 0, (mSH, (mMix mSS I K), L))) rfl ?_
      refine mBT (s2 := (d + 7, 89, 40, [some (.ref 0), some (.int b), some (.int x0)], [], 0, 0, (mSH, (mMix mSS I K), L))) rfl (by decide) ?_
      refine mB 2 (s2 := (d + 7, 89, 8, [some (.ref 0), some (.int b), some (.int (x0 + 1))], [], 0, 0, (mSH, (mMix mSS I K), L))) rfl ?_
      (rw [← ((mFr.mix (by decide) mFr.rf) : mFr mSS I (mMix mSS I K)).eq]; exact ih (of_decide_eq_false c0) _ _ hK)
    · refine mB 3 (s2 := (d + 5, 60, 22, [some (.ref 10), some (.int x1)], [.int 0, .ref 11], 0, 0, (mSH, (mMix mSS I K), L))) rfl ?_
      refine mRq (s2 := (d + 5, 60, 23, [some (.ref 10), some (.int x1)], [.ref 12], 0, 0, (mSH, (mMix mSS I K), L))) rfl (by decide) ?_
      refine mB 1 (s2 := (d + 5, 60, 24, [some (.ref 10), some (.int x1)], [.int x1, .ref 12], 0, 0, (mSH, (mMix mSS I K), L))) rfl ?_
      refine mRq (s2 := (d + 5, 60, 25, [some (.ref 10), some (.int x1)], [.int (K 12 x1.toNatClampNeg)], 0, 0, (mSH, (mMix mSS I K), L))) rfl (mVp_of hx1) ?_
      refine mRt (r := (some (.int (K 12 x1.toNatClampNeg)))) (h := (mSH, (mMix mSS I K), L)) rfl (mRet_int rfl) ?_
      show mWP mTb_ mFT ro (d + 6, 62, 9, [some (.ref 10), some (.int x0)], [.int (K 12 x1.toNatClampNeg)], 0, 0, (mSH, (mMix mSS I K), L)) _
      refine mRt (r := (some (.int (K 12 x1.toNatClampNeg)))) (h := (mSH, (mMix mSS I K), L)) rfl (mRet_int rfl) ?_
      show mWP mTb_ mFT ro (d + 7, 89, 30, [some (.ref 0), some (.int b), some (.int x0)], [.int (K 12 x1.toNatClampNeg)], 0, 0, (mSH, (mMix mSS I K), L)) _
      refine mB 1 (s2 := (d + 7, 89, 31, [some (.ref 0), some (.int b), some (.int x0)], [.int (-1), .int (K 12 x1.toNatClampNeg)], 0, 0, (mSH, (mMix mSS I K), L))) rfl ?_
      refine mBr (s2 := (d + 7, 89, 40, [some (.ref 0), some (.int b), some (.int x0)], [], 0, 0, (mSH, (mMix mSS I K), L))) (s3 := (d + 7, 89, 34, [some (.ref 0), some (.int b), some (.int x0)], [], 0, 0, (mSH, (mMix mSS I K), L))) rfl (fun c4 => ?_) (fun c4 => ?_)
      · refine mB 2 (s2 := (d + 7, 89, 8, [some (.ref 0), some (.int b), some (.int (x0 + 1))], [], 0, 0, (mSH, (mMix mSS I K), L))) rfl ?_
        (rw [← ((mFr.mix (by decide) mFr.rf) : mFr mSS I (mMix mSS I K)).eq]; exact ih (of_decide_eq_false c0) _ _ hK)
      · refine mB 8 (s2 := (d + 7, 89, 8, [some (.ref 0), some (.int (b ||| (1 <<< (x0 &&& 31)))), some (.int (x0 + 1))], [], 0, 0, (mSH, (mMix mSS I K), L))) rfl ?_
        (rw [← ((mFr.mix (by decide) mFr.rf) : mFr mSS I (mMix mSS I K)).eq]; exact ih (of_decide_eq_false c0) _ _ hK)
theorem l_begins {ro : Nat → Nat × (Nat → Int32)} {Q : mPo} {d : Nat} {I : Nat → Nat → Int32} {L : Nat → Nat → Int64} (hI : mIC I) (hq : ∀ r I1, mFr mSA I I1 → mIC I1 → Q (some (.int r)) (mSH, I1, L)) (m : Nat) : ∀ (x0 : Int32) (K : Nat → Nat → Int32) (b : Int32), (I 2 1).toInt ≤ x0.toInt + m → mRk K → mWP mTb_ mFT ro (d + 7, 89, 8, [some (.ref 0), some (.int b), some (.int x0)], [], 0, 0, (mSH, (mMix mSS I K), L)) Q := by
  induction m with
  | zero =>
    intro x0 K b hm hK
    exact s_begins hI hK hq (fun c => absurd (Int32.le_iff_toInt_le.mpr (by omega)) c)
  | succ m ih =>
    intro x0 K b hm hK
    refine s_begins hI hK hq (fun c K b hK => ih _ K b ?_ hK)
    rw [mSucc c]
    omega
theorem t_begins {ro : Nat → Nat × (Nat → Int32)} {Q : mPo} {d : Nat} {I : Nat → Nat → Int32} {L : Nat → Nat → Int64} (hI : mIC I) (hq : ∀ r I1, mFr mSA I I1 → mIC I1 → Q (some (.int r)) (mSH, I1, L))   : mWP mTb_ mFT ro (d + 7, 89, 0, [some (.ref 0), none, none], [], 0, 0, (mSH, I, L)) Q := by
  refine mB 1 (s2 := (d + 7, 89, 1, [some (.ref 0), none, none], [.ref 0], 0, 0, (mSH, I, L))) rfl ?_
  refine mCall (s2 := (d + 6, 105, 0, [some (.ref 0)], [], 0, 0, (mSH, I, L))) rfl ?_
  refine mB 7 (s2 := (d + 6, 105, 13, [some (.ref 0)], [.int 0, .ref 8, .ref 6, .ref 10], 0, 0, (mSH, I, L))) rfl ?_
  refine mCall (s2 := (d + 5, 10, 0, [some (.ref 8), some (.int 0)], [], 0, 0, (mSH, I, L))) rfl ?_
  refine mB 2 (s2 := (d + 5, 10, 2, [some (.ref 8), some (.int 0)], [.int 0, .ref 8], 0, 0, (mSH, I, L))) rfl ?_
  refine mCall (s2 := (d + 4, 8, 0, [some (.ref 8), some (.int 0)], [], 0, 0, (mSH, I, L))) rfl ?_
  refine mB 1 (s2 := (d + 4, 8, 1, [some (.ref 8), some (.int 0)], [.int 0], 0, 0, (mSH, I, L))) rfl ?_
  refine mBF (s3 := (d + 4, 8, 4, [some (.ref 8), some (.int 0)], [], 0, 0, (mSH, I, L))) rfl (by decide) ?_
  refine mB 4 (s2 := (d + 4, 8, 10, [some (.ref 8), some (.int 0)], [.int 3, .int 0], 0, 0, (mSH, I, L))) rfl ?_
  refine mBF (s3 := (d + 4, 8, 13, [some (.ref 8), some (.int 0)], [], 0, 0, (mSH, I, L))) rfl (by decide) ?_
  refine mB 2 (s2 := (d + 4, 8, 18, [some (.ref 8), some (.int 0)], [.int 1], 0, 0, (mSH, I, L))) rfl ?_
  refine mRt (r := (some (.int 1))) (h := (mSH, I, L)) rfl rfl ?_
  show mWP mTb_ mFT ro (d + 5, 10, 5, [some (.ref 8), some (.int 0)], [.int 1], 0, 0, (mSH, I, L)) _
  refine mBF (s3 := (d + 5, 10, 8, [some (.ref 8), some (.int 0)], [], 0, 0, (mSH, I, L))) rfl (by decide) ?_
  refine mB 3 (s2 := (d + 5, 10, 13, [some (.ref 8), some (.int 0)], [.int 0, .ref 9], 0, 0, (mSH, I, L))) rfl ?_
  refine mRq (s2 := (d + 5, 10, 14, [some (.ref 8), some (.int 0)], [.int (I 9 0)], 0, 0, (mSH, I, L))) rfl (by decide) ?_
  refine mB 1 (s2 := (d + 5, 10, 18, [some (.ref 8), some (.int 0)], [.int (I 9 0)], 0, 0, (mSH, I, L))) rfl ?_
  refine mRt (r := (some (.int (I 9 0)))) (h := (mSH, I, L)) rfl (mRet_int rfl) ?_
  show mWP mTb_ mFT ro (d + 6, 105, 16, [some (.ref 0)], [.int (I 9 0), .ref 6, .ref 10], 0, 0, (mSH, I, L)) _
  refine mCall (s2 := (d + 5, 52, 0, [some (.ref 10), some (.ref 6), some (.int (I 9 0)), none, none, none], [], 0, 0, (mSH, I, L))) rfl ?_
  refine w_fill_L6 hI.1 hI.2.1 hI.2.2.2.2.2.2 (fun K1 hK1 => ?_)
  show mWP mTb_ mFT ro (d + 6, 105, 19, [some (.ref 0)], [], 0, 0, (mSH, (mMix mSS I K1), L)) _
  refine mRt (r := none) (h := (mSH, (mMix mSS I K1), L)) rfl rfl ?_
  show mWP mTb_ mFT ro (d + 7, 89, 4, [some (.ref 0), none, none], [], 0, 0, (mSH, (mMix mSS I K1), L)) _
  refine mB 4 (s2 := (d + 7, 89, 8, [some (.ref 0), some (.int 0), some (.int 0)], [], 0, 0, (mSH, (mMix mSS I K1), L))) rfl ?_
  (rw [← ((mFr.mix (by decide) mFr.rf) : mFr mSS I (mMix mSS I K1)).eq]; exact l_begins hI hq 4294967296 _ _ _ (by have := (I 2 1).toInt_lt; have := (0 : Int32).le_toInt; omega) hK1)
theorem s_mild {ro : Nat → Nat × (Nat → Int32)} {Q : mPo} {d : Nat} {I : Nat → Nat → Int32} {L : Nat → Nat → Int64} {K : Nat → Nat → Int32} {x0 : Int32} {a : Int32} {b : Int32} {o5 : Option Value} {v0 : Int32} (hI : mIC I) (hK : mRk K) (hq : ∀ r I1, mFr mSA I I1 → mIC I1 → Q (some (.int r)) (mSH, I1, L)) (ih : ¬ ((4 : Int32)) ≤ x0 → ∀ (K : Nat → Nat → Int32) (a : Int32) (b : Int32) (o5 : Option Value), mRk K → mWP mTb_ mFT ro (d + 7, 91, 21, [some (.ref 0), some (.int v0), some (.int a), some (.int b), some (.int (x0 + 1)), o5], [], 0, 0, (mSH, (mMix mSS I K), L)) Q)  : mWP mTb_ mFT ro (d + 7, 91, 21, [some (.ref 0), some (.int v0), some (.int a), some (.int b), some (.int x0), o5], [], 0, 0, (mSH, (mMix mSS I K), L)) Q := by
  refine mB 2 (s2 := (d + 7, 91, 24, [some (.ref 0), some (.int v0), some (.int a), some (.int b), some (.int x0), o5], [.int 4, .int x0], 0, 0, (mSH, (mMix mSS I K), L))) rfl ?_
  refine mBr (s2 := (d + 7, 91, 78, [some (.ref 0), some (.int v0), some (.int a), some (.int b), some (.int x0), o5], [], 0, 0, (mSH, (mMix mSS I K), L))) (s3 := (d + 7, 91, 27, [some (.ref 0), some (.int v0), some (.int a), some (.int b), some (.int x0), o5], [], 0, 0, (mSH, (mMix mSS I K), L))) rfl (fun c0 => ?_) (fun c0 => ?_)
  · refine mB 2 (s2 := (d + 7, 91, 80, [some (.ref 0), some (.int v0), some (.int a), some (.int b), some (.int x0), o5], [.int (-1), .int b], 0, 0, (mSH, (mMix mSS I K), L))) rfl ?_
    refine mBr (s2 := (d + 7, 91, 83, [some (.ref 0), some (.int v0), some (.int a), some (.int b), some (.int x0), o5], [], 0, 0, (mSH, (mMix mSS I K), L))) (s3 := (d + 7, 91, 90, [some (.ref 0), some (.int v0), some (.int a), some (.int b), some (.int x0), o5], [], 0, 0, (mSH, (mMix mSS I K), L))) rfl (fun c1 => ?_) (fun c1 => ?_)
    · refine mB 2 (s2 := (d + 7, 91, 86, [some (.ref 0), some (.int v0), some (.int a), some (.int b), some (.int x0), o5], [.int (-3), .ref 0], 0, 0, (mSH, (mMix mSS I K), L))) rfl ?_
      refine mCall (s2 := (d + 6, 103, 0, [some (.ref 0), some (.int (-3))], [], 0, 0, (mSH, (mMix mSS I K), L))) rfl ?_
      refine mB 2 (s2 := (d + 6, 103, 3, [some (.ref 0), some (.int (-3))], [.int (-2), .int (-3)], 0, 0, (mSH, (mMix mSS I K), L))) rfl ?_
      refine mBF (s3 := (d + 6, 103, 19, [some (.ref 0), some (.int (-3))], [], 0, 0, (mSH, (mMix mSS I K), L))) rfl (by decide) ?_
      refine mB 2 (s2 := (d + 6, 103, 22, [some (.ref 0), some (.int (-3))], [.int (-3), .int (-3)], 0, 0, (mSH, (mMix mSS I K), L))) rfl ?_
      refine mBT (s2 := (d + 6, 103, 25, [some (.ref 0), some (.int (-3))], [], 0, 0, (mSH, (mMix mSS I K), L))) rfl (by decide) ?_
      refine mB 8 (s2 := (d + 6, 103, 49, [some (.ref 0), some (.int (-3))], [.int (-3)], 0, 0, (mSH, (mUp (mMix mSS I K) 0 10 ((I 0 10) + 1)), L))) rfl ?_
      refine mRt (r := (some (.int (-3)))) (h := (mSH, (mUp (mMix mSS I K) 0 10 ((I 0 10) + 1)), L)) rfl (mRet_int rfl) ?_
      show mWP mTb_ mFT ro (d + 7, 91, 89, [some (.ref 0), some (.int v0), some (.int a), some (.int b), some (.int x0), o5], [.int (-3)], 0, 0, (mSH, (mUp (mMix mSS I K) 0 10 ((I 0 10) + 1)), L)) _
      refine mRt (r := (some (.int (-3)))) (h := (mSH, (mUp (mMix mSS I K) 0 10 ((I 0 10) + 1)), L)) rfl (mRet_int rfl) ?_
      exact hq _ _ (mFr.up (by rfl) (mFr.mix (by decide) mFr.rf)) ⟨hI.1, hI.2.1, hI.2.2.1, hI.2.2.2.1, hI.2.2.2.2.1, hI.2.2.2.2.2.1, (mRk.up hK (by rfl) (by rfl))⟩
    · refine mB 1 (s2 := (d + 7, 91, 91, [some (.ref 0), some (.int v0), some (.int a), some (.int b), some (.int x0), o5], [.int v0], 0, 0, (mSH, (mMix mSS I K), L))) rfl ?_
      refine mBr (s2 := (d + 7, 91, 94, [some (.ref 0), some (.int v0), some (.int a), some (.int b), some (.int x0), o5], [], 0, 0, (mSH, (mMix mSS I K), L))) (s3 := (d + 7, 91, 98, [some (.ref 0), some (.int v0), some (.int a), some (.int b), some (.int x0), o5], [], 0, 0, (mSH, (mMix mSS I K), L))) rfl (fun c2 => ?_) (fun c2 => ?_)
      · refine mB 2 (s2 := (d + 7, 91, 99, [some (.ref 0), some (.int v0), some (.int a), some (.int b), some (.int x0), o5], [.int a], 0, 0, (mSH, (mMix mSS I K), L))) rfl ?_
        refine mRt (r := (some (.int a))) (h := (mSH, (mMix mSS I K), L)) rfl (mRet_int rfl) ?_
        exact hq _ _ (mFr.mix (by decide) mFr.rf) ⟨hI.1, hI.2.1, hI.2.2.1, hI.2.2.2.1, hI.2.2.2.2.1, hI.2.2.2.2.2.1, hK⟩
      · refine mB 1 (s2 := (d + 7, 91, 99, [some (.ref 0), some (.int v0), some (.int a), some (.int b), some (.int x0), o5], [.int b], 0, 0, (mSH, (mMix mSS I K), L))) rfl ?_
        refine mRt (r := (some (.int b))) (h := (mSH, (mMix mSS I K), L)) rfl (mRet_int rfl) ?_
        exact hq _ _ (mFr.mix (by decide) mFr.rf) ⟨hI.1, hI.2.1, hI.2.2.1, hI.2.2.2.1, hI.2.2.2.2.1, hI.2.2.2.2.2.1, hK⟩
  · refine mB 5 (s2 := (d + 7, 91, 37, [some (.ref 0), some (.int v0), some (.int a), some (.int b), some (.int x0), o5], [.int x0, .ref 6, .ref 10], 0, 0, (mSH, (mMix mSS I K), L))) rfl ?_
    refine mCall (s2 := (d + 6, 52, 0, [some (.ref 10), some (.ref 6), some (.int x0), none, none, none], [], 0, 0, (mSH, (mMix mSS I K), L))) rfl ?_
    refine w_fill_L6 hI.1 hI.2.1 hK (fun K1 hK1 => ?_)
    show mWP mTb_ mFT ro (d + 7, 91, 40, [some (.ref 0), some (.int v0), some (.int a), some (.int b), some (.int x0), o5], [], 0, 0, (mSH, (mMix mSS (mMix mSS I K) K1), L)) _
    refine mB 2 (s2 := (d + 7, 91, 44, [some (.ref 0), some (.int v0), some (.int a), some (.int b), some (.int x0), o5], [.ref 10], 0, 0, (mSH, (mMix mSS (mMix mSS I K) K1), L))) rfl ?_
    refine mCall (s2 := (d + 6, 61, 0, [some (.ref 10)], [], 0, 0, (mSH, (mMix mSS (mMix mSS I K) K1), L))) rfl ?_
    refine mB 2 (s2 := (d + 6, 61, 4, [some (.ref 10)], [.int 153, .ref 10], 0, 0, (mSH, (mMix mSS (mMix mSS I K) K1), L))) rfl ?_
    refine mCall (s2 := (d + 5, 60, 0, [some (.ref 10), some (.int 153)], [], 0, 0, (mSH, (mMix mSS (mMix mSS I K) K1), L))) rfl ?_
    refine mB 3 (s2 := (d + 5, 60, 5, [some (.ref 10), some (.int 153)], [.int 0, .ref 11], 0, 0, (mSH, (mMix mSS (mMix mSS I K) K1), L))) rfl ?_
    refine mRq (s2 := (d + 5, 60, 6, [some (.ref 10), some (.int 153)], [.ref 12], 0, 0, (mSH, (mMix mSS (mMix mSS I K) K1), L))) rfl (by decide) ?_
    refine mB 1 (s2 := (d + 5, 60, 7, [some (.ref 10), some (.int 153)], [.int 153, .ref 12], 0, 0, (mSH, (mMix mSS (mMix mSS I K) K1), L))) rfl ?_
    refine mRq (s2 := (d + 5, 60, 8, [some (.ref 10), some (.int 153)], [.int (K1 12 153)], 0, 0, (mSH, (mMix mSS (mMix mSS I K) K1), L))) rfl (by decide) ?_
    refine mB 1 (s2 := (d + 5, 60, 10, [some (.ref 10), some (.int 153)], [.int 1000000000, .int (K1 12 153)], 0, 0, (mSH, (mMix mSS (mMix mSS I K) K1), L))) rfl ?_
    refine mBr (s2 := (d + 5, 60, 13, [some (.ref 10), some (.int 153)], [], 0, 0, (mSH, (mMix mSS (mMix mSS I K) K1), L))) (s3 := (d + 5, 60, 17, [some (.ref 10), some (.int 153)], [], 0, 0, (mSH, (mMix mSS (mMix mSS I K) K1), L))) rfl (fun c3 => ?_) (fun c3 => ?_)
    · refine mB 2 (s2 := (d + 5, 60, 25, [some (.ref 10), some (.int 153)], [.int (-1)], 0, 0, (mSH, (mMix mSS (mMix mSS I K) K1), L))) rfl ?_
      refine mRt (r := (some (.int (-1)))) (h := (mSH, (mMix mSS (mMix mSS I K) K1), L)) rfl (mRet_int rfl) ?_
      show mWP mTb_ mFT ro (d + 6, 61, 7, [some (.ref 10)], [.int (-1)], 0, 0, (mSH, (mMix mSS (mMix mSS I K) K1), L)) _
      refine mRt (r := (some (.int (-1)))) (h := (mSH, (mMix mSS (mMix mSS I K) K1), L)) rfl (mRet_int rfl) ?_
      show mWP mTb_ mFT ro (d + 7, 91, 47, [some (.ref 0), some (.int v0), some (.int a), some (.int b), some (.int x0), o5], [.int (-1)], 0, 0, (mSH, (mMix mSS (mMix mSS I K) K1), L)) _
      refine mB 3 (s2 := (d + 7, 91, 52, [some (.ref 0), some (.int v0), some (.int a), some (.int b), some (.int x0), some (.int (-1))], [.int (-1), .int (-1)], 0, 0, (mSH, (mMix mSS (mMix mSS I K) K1), L))) rfl ?_
      refine mBT (s2 := (d + 7, 91, 72, [some (.ref 0), some (.int v0), some (.int a), some (.int b), some (.int x0), some (.int (-1))], [], 0, 0, (mSH, (mMix mSS (mMix mSS I K) K1), L))) rfl (by decide) ?_
      refine mB 2 (s2 := (d + 7, 91, 21, [some (.ref 0), some (.int v0), some (.int a), some (.int b), some (.int (x0 + 1)), some (.int (-1))], [], 0, 0, (mSH, (mMix mSS (mMix mSS I K) K1), L))) rfl ?_
      (rw [← ((mFr.mix (by decide) (mFr.mix (by decide) mFr.rf)) : mFr mSS I (mMix mSS (mMix mSS I K) K1)).eq]; exact ih (of_decide_eq_false c0) _ _ _ _ hK1)
    · refine mB 3 (s2 := (d + 5, 60, 22, [some (.ref 10), some (.int 153)], [.int 0, .ref 11], 0, 0, (mSH, (mMix mSS (mMix mSS I K) K1), L))) rfl ?_
      refine mRq (s2 := (d + 5, 60, 23, [some (.ref 10), some (.int 153)], [.ref 12], 0, 0, (mSH, (mMix mSS (mMix mSS I K) K1), L))) rfl (by decide) ?_
      refine mB 1 (s2 := (d + 5, 60, 24, [some (.ref 10), some (.int 153)], [.int 153, .ref 12], 0, 0, (mSH, (mMix mSS (mMix mSS I K) K1), L))) rfl ?_
      refine mRq (s2 := (d + 5, 60, 25, [some (.ref 10), some (.int 153)], [.int (K1 12 153)], 0, 0, (mSH, (mMix mSS (mMix mSS I K) K1), L))) rfl (by decide) ?_
      refine mRt (r := (some (.int (K1 12 153)))) (h := (mSH, (mMix mSS (mMix mSS I K) K1), L)) rfl (mRet_int rfl) ?_
      show mWP mTb_ mFT ro (d + 6, 61, 7, [some (.ref 10)], [.int (K1 12 153)], 0, 0, (mSH, (mMix mSS (mMix mSS I K) K1), L)) _
      refine mRt (r := (some (.int (K1 12 153)))) (h := (mSH, (mMix mSS (mMix mSS I K) K1), L)) rfl (mRet_int rfl) ?_
      show mWP mTb_ mFT ro (d + 7, 91, 47, [some (.ref 0), some (.int v0), some (.int a), some (.int b), some (.int x0), o5], [.int (K1 12 153)], 0, 0, (mSH, (mMix mSS (mMix mSS I K) K1), L)) _
      refine mB 3 (s2 := (d + 7, 91, 52, [some (.ref 0), some (.int v0), some (.int a), some (.int b), some (.int x0), some (.int (K1 12 153))], [.int (-1), .int (K1 12 153)], 0, 0, (mSH, (mMix mSS (mMix mSS I K) K1), L))) rfl ?_
      refine mBr (s2 := (d + 7, 91, 72, [some (.ref 0), some (.int v0), some (.int a), some (.int b), some (.int x0), some (.int (K1 12 153))], [], 0, 0, (mSH, (mMix mSS (mMix mSS I K) K1), L))) (s3 := (d + 7, 91, 55, [some (.ref 0), some (.int v0), some (.int a), some (.int b), some (.int x0), some (.int (K1 12 153))], [], 0, 0, (mSH, (mMix mSS (mMix mSS I K) K1), L))) rfl (fun c4 => ?_) (fun c4 => ?_)
      · refine mB 2 (s2 := (d + 7, 91, 21, [some (.ref 0), some (.int v0), some (.int a), some (.int b), some (.int (x0 + 1)), some (.int (K1 12 153))], [], 0, 0, (mSH, (mMix mSS (mMix mSS I K) K1), L))) rfl ?_
        (rw [← ((mFr.mix (by decide) (mFr.mix (by decide) mFr.rf)) : mFr mSS I (mMix mSS (mMix mSS I K) K1)).eq]; exact ih (of_decide_eq_false c0) _ _ _ _ hK1)
      · refine mB 2 (s2 := (d + 7, 91, 57, [some (.ref 0), some (.int v0), some (.int a), some (.int b), some (.int x0), some (.int (K1 12 153))], [.int (-1), .int b], 0, 0, (mSH, (mMix mSS (mMix mSS I K) K1), L))) rfl ?_
        refine mBr (s2 := (d + 7, 91, 66, [some (.ref 0), some (.int v0), some (.int a), some (.int b), some (.int x0), some (.int (K1 12 153))], [], 0, 0, (mSH, (mMix mSS (mMix mSS I K) K1), L))) (s3 := (d + 7, 91, 60, [some (.ref 0), some (.int v0), some (.int a), some (.int b), some (.int x0), some (.int (K1 12 153))], [], 0, 0, (mSH, (mMix mSS (mMix mSS I K) K1), L))) rfl (fun c5 => ?_) (fun c5 => ?_)
        · refine mB 6 (s2 := (d + 7, 91, 21, [some (.ref 0), some (.int v0), some (.int x0), some (.int (K1 12 153)), some (.int (x0 + 1)), some (.int (K1 12 153))], [], 0, 0, (mSH, (mMix mSS (mMix mSS I K) K1), L))) rfl ?_
          (rw [← ((mFr.mix (by decide) (mFr.mix (by decide) mFr.rf)) : mFr mSS I (mMix mSS (mMix mSS I K) K1)).eq]; exact ih (of_decide_eq_false c0) _ _ _ _ hK1)
        · refine mB 2 (s2 := (d + 7, 91, 63, [some (.ref 0), some (.int v0), some (.int a), some (.int b), some (.int x0), some (.int (K1 12 153))], [.int b, .int (K1 12 153)], 0, 0, (mSH, (mMix mSS (mMix mSS I K) K1), L))) rfl ?_
          refine mBr (s2 := (d + 7, 91, 72, [some (.ref 0), some (.int v0), some (.int a), some (.int b), some (.int x0), some (.int (K1 12 153))], [], 0, 0, (mSH, (mMix mSS (mMix mSS I K) K1), L))) (s3 := (d + 7, 91, 66, [some (.ref 0), some (.int v0), some (.int a), some (.int b), some (.int x0), some (.int (K1 12 153))], [], 0, 0, (mSH, (mMix mSS (mMix mSS I K) K1), L))) rfl (fun c6 => ?_) (fun c6 => ?_)
          · refine mB 2 (s2 := (d + 7, 91, 21, [some (.ref 0), some (.int v0), some (.int a), some (.int b), some (.int (x0 + 1)), some (.int (K1 12 153))], [], 0, 0, (mSH, (mMix mSS (mMix mSS I K) K1), L))) rfl ?_
            (rw [← ((mFr.mix (by decide) (mFr.mix (by decide) mFr.rf)) : mFr mSS I (mMix mSS (mMix mSS I K) K1)).eq]; exact ih (of_decide_eq_false c0) _ _ _ _ hK1)
          · refine mB 6 (s2 := (d + 7, 91, 21, [some (.ref 0), some (.int v0), some (.int x0), some (.int (K1 12 153)), some (.int (x0 + 1)), some (.int (K1 12 153))], [], 0, 0, (mSH, (mMix mSS (mMix mSS I K) K1), L))) rfl ?_
            (rw [← ((mFr.mix (by decide) (mFr.mix (by decide) mFr.rf)) : mFr mSS I (mMix mSS (mMix mSS I K) K1)).eq]; exact ih (of_decide_eq_false c0) _ _ _ _ hK1)
theorem l_mild {ro : Nat → Nat × (Nat → Int32)} {Q : mPo} {d : Nat} {I : Nat → Nat → Int32} {L : Nat → Nat → Int64} {v0 : Int32} (hI : mIC I) (hq : ∀ r I1, mFr mSA I I1 → mIC I1 → Q (some (.int r)) (mSH, I1, L)) (m : Nat) : ∀ (x0 : Int32) (K : Nat → Nat → Int32) (a : Int32) (b : Int32) (o5 : Option Value), ((4 : Int32)).toInt ≤ x0.toInt + m → mRk K → mWP mTb_ mFT ro (d + 7, 91, 21, [some (.ref 0), some (.int v0), some (.int a), some (.int b), some (.int x0), o5], [], 0, 0, (mSH, (mMix mSS I K), L)) Q := by
  induction m with
  | zero =>
    intro x0 K a b o5 hm hK
    exact s_mild hI hK hq (fun c => absurd (Int32.le_iff_toInt_le.mpr (by omega)) c)
  | succ m ih =>
    intro x0 K a b o5 hm hK
    refine s_mild hI hK hq (fun c K a b o5 hK => ih _ K a b o5 ?_ hK)
    rw [mSucc c]
    omega
theorem t_mildest {ro : Nat → Nat × (Nat → Int32)} {Q : mPo} {d : Nat} {I : Nat → Nat → Int32} {L : Nat → Nat → Int64} {v0 : Int32} (hI : mIC I) (hq : ∀ r I1, mFr mSA I I1 → mIC I1 → Q (some (.int r)) (mSH, I1, L))   : mWP mTb_ mFT ro (d + 7, 91, 0, [some (.ref 0), some (.int v0), none, none, none, none], [], 0, 0, (mSH, I, L)) Q := by
  refine mB 1 (s2 := (d + 7, 91, 1, [some (.ref 0), some (.int v0), none, none, none, none], [.int v0], 0, 0, (mSH, I, L))) rfl ?_
  refine mCall (s2 := (d + 6, 108, 0, [some (.int v0)], [], 0, 0, (mSH, I, L))) rfl ?_
  refine mB 1 (s2 := (d + 6, 108, 1, [some (.int v0)], [.int v0], 0, 0, (mSH, I, L))) rfl ?_
  refine mBr (s2 := (d + 6, 108, 9, [some (.int v0)], [], 0, 0, (mSH, I, L))) (s3 := (d + 6, 108, 4, [some (.int v0)], [], 0, 0, (mSH, I, L))) rfl (fun c0 => ?_) (fun c0 => ?_)
  · refine mB 2 (s2 := (d + 6, 108, 14, [some (.int v0)], [.int 1], 0, 0, (mSH, I, L))) rfl ?_
    refine mRt (r := (some (.int 1))) (h := (mSH, I, L)) rfl rfl ?_
    show mWP mTb_ mFT ro (d + 7, 91, 4, [some (.ref 0), some (.int v0), none, none, none, none], [.int 1], 0, 0, (mSH, I, L)) _
    refine mBF (s3 := (d + 7, 91, 14, [some (.ref 0), some (.int v0), none, none, none, none], [], 0, 0, (mSH, I, L))) rfl (by decide) ?_
    refine mB 6 (s2 := (d + 7, 91, 21, [some (.ref 0), some (.int v0), some (.int (-1)), some (.int (-1)), some (.int 0), none], [], 0, 0, (mSH, I, L))) rfl ?_
    (rw [← (mFr.rf : mFr mSS I I).eq]; exact l_mild hI hq 4294967296 _ _ _ _ _ (by have := (0 : Int32).le_toInt; have := (4 : Int32).toInt_lt; omega) hI.2.2.2.2.2.2)
  · refine mB 2 (s2 := (d + 6, 108, 6, [some (.int v0)], [.int 1, .int v0], 0, 0, (mSH, I, L))) rfl ?_
    refine mBr (s2 := (d + 6, 108, 9, [some (.int v0)], [], 0, 0, (mSH, I, L))) (s3 := (d + 6, 108, 13, [some (.int v0)], [], 0, 0, (mSH, I, L))) rfl (fun c1 => ?_) (fun c1 => ?_)
    · refine mB 2 (s2 := (d + 6, 108, 14, [some (.int v0)], [.int 1], 0, 0, (mSH, I, L))) rfl ?_
      refine mRt (r := (some (.int 1))) (h := (mSH, I, L)) rfl rfl ?_
      show mWP mTb_ mFT ro (d + 7, 91, 4, [some (.ref 0), some (.int v0), none, none, none, none], [.int 1], 0, 0, (mSH, I, L)) _
      refine mBF (s3 := (d + 7, 91, 14, [some (.ref 0), some (.int v0), none, none, none, none], [], 0, 0, (mSH, I, L))) rfl (by decide) ?_
      refine mB 6 (s2 := (d + 7, 91, 21, [some (.ref 0), some (.int v0), some (.int (-1)), some (.int (-1)), some (.int 0), none], [], 0, 0, (mSH, I, L))) rfl ?_
      (rw [← (mFr.rf : mFr mSS I I).eq]; exact l_mild hI hq 4294967296 _ _ _ _ _ (by have := (0 : Int32).le_toInt; have := (4 : Int32).toInt_lt; omega) hI.2.2.2.2.2.2)
    · refine mB 1 (s2 := (d + 6, 108, 14, [some (.int v0)], [.int 0], 0, 0, (mSH, I, L))) rfl ?_
      refine mRt (r := (some (.int 0))) (h := (mSH, I, L)) rfl rfl ?_
      show mWP mTb_ mFT ro (d + 7, 91, 4, [some (.ref 0), some (.int v0), none, none, none, none], [.int 0], 0, 0, (mSH, I, L)) _
      refine mBT (s2 := (d + 7, 91, 7, [some (.ref 0), some (.int v0), none, none, none, none], [], 0, 0, (mSH, I, L))) rfl (by decide) ?_
      refine mB 2 (s2 := (d + 7, 91, 10, [some (.ref 0), some (.int v0), none, none, none, none], [.int (-2), .ref 0], 0, 0, (mSH, I, L))) rfl ?_
      refine mCall (s2 := (d + 6, 103, 0, [some (.ref 0), some (.int (-2))], [], 0, 0, (mSH, I, L))) rfl ?_
      refine mB 2 (s2 := (d + 6, 103, 3, [some (.ref 0), some (.int (-2))], [.int (-2), .int (-2)], 0, 0, (mSH, I, L))) rfl ?_
      refine mBT (s2 := (d + 6, 103, 6, [some (.ref 0), some (.int (-2))], [], 0, 0, (mSH, I, L))) rfl (by decide) ?_
      refine mB 8 (s2 := (d + 6, 103, 49, [some (.ref 0), some (.int (-2))], [.int (-2)], 0, 0, (mSH, (mUp I 0 9 ((I 0 9) + 1)), L))) rfl ?_
      refine mRt (r := (some (.int (-2)))) (h := (mSH, (mUp I 0 9 ((I 0 9) + 1)), L)) rfl (mRet_int rfl) ?_
      show mWP mTb_ mFT ro (d + 7, 91, 13, [some (.ref 0), some (.int v0), none, none, none, none], [.int (-2)], 0, 0, (mSH, (mUp I 0 9 ((I 0 9) + 1)), L)) _
      refine mRt (r := (some (.int (-2)))) (h := (mSH, (mUp I 0 9 ((I 0 9) + 1)), L)) rfl (mRet_int rfl) ?_
      exact hq _ _ (mFr.up (by rfl) mFr.rf) ⟨hI.1, hI.2.1, hI.2.2.1, hI.2.2.2.1, hI.2.2.2.2.1, hI.2.2.2.2.2.1, (mRk.up hI.2.2.2.2.2.2 (by rfl) (by rfl))⟩
