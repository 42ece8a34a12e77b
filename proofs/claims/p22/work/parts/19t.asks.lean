/-! What the class answers when asked: it changes no site. Written by a program (wip/mk_c.py). -/
abbrev mSQ : List Nat := [0, 12, 13, 15, 16, 18, 19, 20, 21, 22, 23, 24, 25]
theorem u_misfit {ro : Nat → Nat × (Nat → Int32)} {Q : mPo} {d : Nat} {I : Nat → Nat → Int32} {L : Nat → Nat → Int64} {v0 v1 v2 : Int32} (hI : mIC I) (hq : ∀ r I1, mFr mSQ I I1 → mIC I1 → Q (some (.int r)) (mSH, I1, L))   : mWP mTb_ mFT ro (d + 7, 84, 0, [some (.ref 0), some (.int v0), some (.int v1), some (.int v2)], [], 0, 0, (mSH, I, L)) Q := by
  refine mB 4 (s2 := (d + 7, 84, 8, [some (.ref 0), some (.int v0), some (.int v1), some (.int v2)], [.int v0, .ref 4], 0, 0, (mSH, I, L))) rfl ?_
  refine mCall (s2 := (d + 6, 41, 0, [some (.ref 4), some (.int v0)], [], 0, 0, (mSH, I, L))) rfl ?_
  refine mB 1 (s2 := (d + 6, 41, 1, [some (.ref 4), some (.int v0)], [.int v0], 0, 0, (mSH, I, L))) rfl ?_
  refine mBr (s2 := (d + 6, 41, 16, [some (.ref 4), some (.int v0)], [], 0, 0, (mSH, I, L))) (s3 := (d + 6, 41, 4, [some (.ref 4), some (.int v0)], [], 0, 0, (mSH, I, L))) rfl (fun c0 => ?_) (fun c0 => ?_)
  · refine mB 1 (s2 := (d + 6, 41, 17, [some (.ref 4), some (.int v0)], [.int 0], 0, 0, (mSH, I, L))) rfl ?_
    refine mRt (r := (some (.int 0))) (h := (mSH, I, L)) rfl rfl ?_
    show mWP mTb_ mFT ro (d + 7, 84, 11, [some (.ref 0), some (.int v0), some (.int v1), some (.int v2)], [.int 0], 0, 0, (mSH, I, L)) _
    refine mBT (s2 := (d + 7, 84, 35, [some (.ref 0), some (.int v0), some (.int v1), some (.int v2)], [], 0, 0, (mSH, I, L))) rfl (by decide) ?_
    refine mB 2 (s2 := (d + 7, 84, 38, [some (.ref 0), some (.int v0), some (.int v1), some (.int v2)], [.int (-2), .ref 0], 0, 0, (mSH, I, L))) rfl ?_
    refine mCall (s2 := (d + 6, 103, 0, [some (.ref 0), some (.int (-2))], [], 0, 0, (mSH, I, L))) rfl ?_
    refine mB 2 (s2 := (d + 6, 103, 3, [some (.ref 0), some (.int (-2))], [.int (-2), .int (-2)], 0, 0, (mSH, I, L))) rfl ?_
    refine mBT (s2 := (d + 6, 103, 6, [some (.ref 0), some (.int (-2))], [], 0, 0, (mSH, I, L))) rfl (by decide) ?_
    refine mB 8 (s2 := (d + 6, 103, 49, [some (.ref 0), some (.int (-2))], [.int (-2)], 0, 0, (mSH, (mUp I 0 9 ((I 0 9) + 1)), L))) rfl ?_
    refine mRt (r := (some (.int (-2)))) (h := (mSH, (mUp I 0 9 ((I 0 9) + 1)), L)) rfl (mRet_int rfl) ?_
    show mWP mTb_ mFT ro (d + 7, 84, 41, [some (.ref 0), some (.int v0), some (.int v1), some (.int v2)], [.int (-2)], 0, 0, (mSH, (mUp I 0 9 ((I 0 9) + 1)), L)) _
    refine mRt (r := (some (.int (-2)))) (h := (mSH, (mUp I 0 9 ((I 0 9) + 1)), L)) rfl (mRet_int rfl) ?_
    exact hq _ _ (mFr.up (by rfl) mFr.rf) ⟨hI.1, hI.2.1, hI.2.2.1, hI.2.2.2.1, hI.2.2.2.2.1, hI.2.2.2.2.2.1, (mRk.up hI.2.2.2.2.2.2 (by rfl) (by rfl))⟩
  · refine mB 3 (s2 := (d + 6, 41, 9, [some (.ref 4), some (.int v0)], [.int (I 4 1), .int v0], 0, 0, (mSH, I, L))) rfl ?_
    refine mBr (s2 := (d + 6, 41, 16, [some (.ref 4), some (.int v0)], [], 0, 0, (mSH, I, L))) (s3 := (d + 6, 41, 12, [some (.ref 4), some (.int v0)], [], 0, 0, (mSH, I, L))) rfl (fun c1 => ?_) (fun c1 => ?_)
    · refine mB 1 (s2 := (d + 6, 41, 17, [some (.ref 4), some (.int v0)], [.int 0], 0, 0, (mSH, I, L))) rfl ?_
      refine mRt (r := (some (.int 0))) (h := (mSH, I, L)) rfl rfl ?_
      show mWP mTb_ mFT ro (d + 7, 84, 11, [some (.ref 0), some (.int v0), some (.int v1), some (.int v2)], [.int 0], 0, 0, (mSH, I, L)) _
      refine mBT (s2 := (d + 7, 84, 35, [some (.ref 0), some (.int v0), some (.int v1), some (.int v2)], [], 0, 0, (mSH, I, L))) rfl (by decide) ?_
      refine mB 2 (s2 := (d + 7, 84, 38, [some (.ref 0), some (.int v0), some (.int v1), some (.int v2)], [.int (-2), .ref 0], 0, 0, (mSH, I, L))) rfl ?_
      refine mCall (s2 := (d + 6, 103, 0, [some (.ref 0), some (.int (-2))], [], 0, 0, (mSH, I, L))) rfl ?_
      refine mB 2 (s2 := (d + 6, 103, 3, [some (.ref 0), some (.int (-2))], [.int (-2), .int (-2)], 0, 0, (mSH, I, L))) rfl ?_
      refine mBT (s2 := (d + 6, 103, 6, [some (.ref 0), some (.int (-2))], [], 0, 0, (mSH, I, L))) rfl (by decide) ?_
      refine mB 8 (s2 := (d + 6, 103, 49, [some (.ref 0), some (.int (-2))], [.int (-2)], 0, 0, (mSH, (mUp I 0 9 ((I 0 9) + 1)), L))) rfl ?_
      refine mRt (r := (some (.int (-2)))) (h := (mSH, (mUp I 0 9 ((I 0 9) + 1)), L)) rfl (mRet_int rfl) ?_
      show mWP mTb_ mFT ro (d + 7, 84, 41, [some (.ref 0), some (.int v0), some (.int v1), some (.int v2)], [.int (-2)], 0, 0, (mSH, (mUp I 0 9 ((I 0 9) + 1)), L)) _
      refine mRt (r := (some (.int (-2)))) (h := (mSH, (mUp I 0 9 ((I 0 9) + 1)), L)) rfl (mRet_int rfl) ?_
      exact hq _ _ (mFr.up (by rfl) mFr.rf) ⟨hI.1, hI.2.1, hI.2.2.1, hI.2.2.2.1, hI.2.2.2.2.1, hI.2.2.2.2.2.1, (mRk.up hI.2.2.2.2.2.2 (by rfl) (by rfl))⟩
    · refine mB 2 (s2 := (d + 6, 41, 17, [some (.ref 4), some (.int v0)], [.int 1], 0, 0, (mSH, I, L))) rfl ?_
      refine mRt (r := (some (.int 1))) (h := (mSH, I, L)) rfl rfl ?_
      show mWP mTb_ mFT ro (d + 7, 84, 11, [some (.ref 0), some (.int v0), some (.int v1), some (.int v2)], [.int 1], 0, 0, (mSH, I, L)) _
      refine mBF (s3 := (d + 7, 84, 14, [some (.ref 0), some (.int v0), some (.int v1), some (.int v2)], [], 0, 0, (mSH, I, L))) rfl (by decide) ?_
      refine mB 4 (s2 := (d + 7, 84, 22, [some (.ref 0), some (.int v0), some (.int v1), some (.int v2)], [.int v1, .ref 2], 0, 0, (mSH, I, L))) rfl ?_
      refine mCall (s2 := (d + 6, 41, 0, [some (.ref 2), some (.int v1)], [], 0, 0, (mSH, I, L))) rfl ?_
      refine mB 1 (s2 := (d + 6, 41, 1, [some (.ref 2), some (.int v1)], [.int v1], 0, 0, (mSH, I, L))) rfl ?_
      refine mBr (s2 := (d + 6, 41, 16, [some (.ref 2), some (.int v1)], [], 0, 0, (mSH, I, L))) (s3 := (d + 6, 41, 4, [some (.ref 2), some (.int v1)], [], 0, 0, (mSH, I, L))) rfl (fun c2 => ?_) (fun c2 => ?_)
      · refine mB 1 (s2 := (d + 6, 41, 17, [some (.ref 2), some (.int v1)], [.int 0], 0, 0, (mSH, I, L))) rfl ?_
        refine mRt (r := (some (.int 0))) (h := (mSH, I, L)) rfl rfl ?_
        show mWP mTb_ mFT ro (d + 7, 84, 25, [some (.ref 0), some (.int v0), some (.int v1), some (.int v2)], [.int 0], 0, 0, (mSH, I, L)) _
        refine mBT (s2 := (d + 7, 84, 35, [some (.ref 0), some (.int v0), some (.int v1), some (.int v2)], [], 0, 0, (mSH, I, L))) rfl (by decide) ?_
        refine mB 2 (s2 := (d + 7, 84, 38, [some (.ref 0), some (.int v0), some (.int v1), some (.int v2)], [.int (-2), .ref 0], 0, 0, (mSH, I, L))) rfl ?_
        refine mCall (s2 := (d + 6, 103, 0, [some (.ref 0), some (.int (-2))], [], 0, 0, (mSH, I, L))) rfl ?_
        refine mB 2 (s2 := (d + 6, 103, 3, [some (.ref 0), some (.int (-2))], [.int (-2), .int (-2)], 0, 0, (mSH, I, L))) rfl ?_
        refine mBT (s2 := (d + 6, 103, 6, [some (.ref 0), some (.int (-2))], [], 0, 0, (mSH, I, L))) rfl (by decide) ?_
        refine mB 8 (s2 := (d + 6, 103, 49, [some (.ref 0), some (.int (-2))], [.int (-2)], 0, 0, (mSH, (mUp I 0 9 ((I 0 9) + 1)), L))) rfl ?_
        refine mRt (r := (some (.int (-2)))) (h := (mSH, (mUp I 0 9 ((I 0 9) + 1)), L)) rfl (mRet_int rfl) ?_
        show mWP mTb_ mFT ro (d + 7, 84, 41, [some (.ref 0), some (.int v0), some (.int v1), some (.int v2)], [.int (-2)], 0, 0, (mSH, (mUp I 0 9 ((I 0 9) + 1)), L)) _
        refine mRt (r := (some (.int (-2)))) (h := (mSH, (mUp I 0 9 ((I 0 9) + 1)), L)) rfl (mRet_int rfl) ?_
        exact hq _ _ (mFr.up (by rfl) mFr.rf) ⟨hI.1, hI.2.1, hI.2.2.1, hI.2.2.2.1, hI.2.2.2.2.1, hI.2.2.2.2.2.1, (mRk.up hI.2.2.2.2.2.2 (by rfl) (by rfl))⟩
      · refine mB 3 (s2 := (d + 6, 41, 9, [some (.ref 2), some (.int v1)], [.int (I 2 1), .int v1], 0, 0, (mSH, I, L))) rfl ?_
        refine mBr (s2 := (d + 6, 41, 16, [some (.ref 2), some (.int v1)], [], 0, 0, (mSH, I, L))) (s3 := (d + 6, 41, 12, [some (.ref 2), some (.int v1)], [], 0, 0, (mSH, I, L))) rfl (fun c3 => ?_) (fun c3 => ?_)
        · refine mB 1 (s2 := (d + 6, 41, 17, [some (.ref 2), some (.int v1)], [.int 0], 0, 0, (mSH, I, L))) rfl ?_
          refine mRt (r := (some (.int 0))) (h := (mSH, I, L)) rfl rfl ?_
          show mWP mTb_ mFT ro (d + 7, 84, 25, [some (.ref 0), some (.int v0), some (.int v1), some (.int v2)], [.int 0], 0, 0, (mSH, I, L)) _
          refine mBT (s2 := (d + 7, 84, 35, [some (.ref 0), some (.int v0), some (.int v1), some (.int v2)], [], 0, 0, (mSH, I, L))) rfl (by decide) ?_
          refine mB 2 (s2 := (d + 7, 84, 38, [some (.ref 0), some (.int v0), some (.int v1), some (.int v2)], [.int (-2), .ref 0], 0, 0, (mSH, I, L))) rfl ?_
          refine mCall (s2 := (d + 6, 103, 0, [some (.ref 0), some (.int (-2))], [], 0, 0, (mSH, I, L))) rfl ?_
          refine mB 2 (s2 := (d + 6, 103, 3, [some (.ref 0), some (.int (-2))], [.int (-2), .int (-2)], 0, 0, (mSH, I, L))) rfl ?_
          refine mBT (s2 := (d + 6, 103, 6, [some (.ref 0), some (.int (-2))], [], 0, 0, (mSH, I, L))) rfl (by decide) ?_
          refine mB 8 (s2 := (d + 6, 103, 49, [some (.ref 0), some (.int (-2))], [.int (-2)], 0, 0, (mSH, (mUp I 0 9 ((I 0 9) + 1)), L))) rfl ?_
          refine mRt (r := (some (.int (-2)))) (h := (mSH, (mUp I 0 9 ((I 0 9) + 1)), L)) rfl (mRet_int rfl) ?_
          show mWP mTb_ mFT ro (d + 7, 84, 41, [some (.ref 0), some (.int v0), some (.int v1), some (.int v2)], [.int (-2)], 0, 0, (mSH, (mUp I 0 9 ((I 0 9) + 1)), L)) _
          refine mRt (r := (some (.int (-2)))) (h := (mSH, (mUp I 0 9 ((I 0 9) + 1)), L)) rfl (mRet_int rfl) ?_
          exact hq _ _ (mFr.up (by rfl) mFr.rf) ⟨hI.1, hI.2.1, hI.2.2.1, hI.2.2.2.1, hI.2.2.2.2.1, hI.2.2.2.2.2.1, (mRk.up hI.2.2.2.2.2.2 (by rfl) (by rfl))⟩
        · refine mB 2 (s2 := (d + 6, 41, 17, [some (.ref 2), some (.int v1)], [.int 1], 0, 0, (mSH, I, L))) rfl ?_
          refine mRt (r := (some (.int 1))) (h := (mSH, I, L)) rfl rfl ?_
          show mWP mTb_ mFT ro (d + 7, 84, 25, [some (.ref 0), some (.int v0), some (.int v1), some (.int v2)], [.int 1], 0, 0, (mSH, I, L)) _
          refine mBF (s3 := (d + 7, 84, 28, [some (.ref 0), some (.int v0), some (.int v1), some (.int v2)], [], 0, 0, (mSH, I, L))) rfl (by decide) ?_
          refine mB 1 (s2 := (d + 7, 84, 29, [some (.ref 0), some (.int v0), some (.int v1), some (.int v2)], [.int v2], 0, 0, (mSH, I, L))) rfl ?_
          refine mCall (s2 := (d + 6, 110, 0, [some (.int v2)], [], 0, 0, (mSH, I, L))) rfl ?_
          refine mB 2 (s2 := (d + 6, 110, 2, [some (.int v2)], [.int 1, .int v2], 0, 0, (mSH, I, L))) rfl ?_
          refine mBr (s2 := (d + 6, 110, 15, [some (.int v2)], [], 0, 0, (mSH, I, L))) (s3 := (d + 6, 110, 5, [some (.int v2)], [], 0, 0, (mSH, I, L))) rfl (fun c4 => ?_) (fun c4 => ?_)
          · refine mB 2 (s2 := (d + 6, 110, 20, [some (.int v2)], [.int 1], 0, 0, (mSH, I, L))) rfl ?_
            refine mRt (r := (some (.int 1))) (h := (mSH, I, L)) rfl rfl ?_
            show mWP mTb_ mFT ro (d + 7, 84, 32, [some (.ref 0), some (.int v0), some (.int v1), some (.int v2)], [.int 1], 0, 0, (mSH, I, L)) _
            refine mBF (s3 := (d + 7, 84, 42, [some (.ref 0), some (.int v0), some (.int v1), some (.int v2)], [], 0, 0, (mSH, I, L))) rfl (by decide) ?_
            refine mB 7 (s2 := (d + 7, 84, 55, [some (.ref 0), some (.int v0), some (.int v1), some (.int v2)], [.int 0, .ref 8, .ref 6, .ref 10], 0, 0, (mSH, I, L))) rfl ?_
            refine mCall (s2 := (d + 6, 10, 0, [some (.ref 8), some (.int 0)], [], 0, 0, (mSH, I, L))) rfl ?_
            refine mB 2 (s2 := (d + 6, 10, 2, [some (.ref 8), some (.int 0)], [.int 0, .ref 8], 0, 0, (mSH, I, L))) rfl ?_
            refine mCall (s2 := (d + 5, 8, 0, [some (.ref 8), some (.int 0)], [], 0, 0, (mSH, I, L))) rfl ?_
            refine mB 1 (s2 := (d + 5, 8, 1, [some (.ref 8), some (.int 0)], [.int 0], 0, 0, (mSH, I, L))) rfl ?_
            refine mBF (s3 := (d + 5, 8, 4, [some (.ref 8), some (.int 0)], [], 0, 0, (mSH, I, L))) rfl (by decide) ?_
            refine mB 4 (s2 := (d + 5, 8, 10, [some (.ref 8), some (.int 0)], [.int 3, .int 0], 0, 0, (mSH, I, L))) rfl ?_
            refine mBF (s3 := (d + 5, 8, 13, [some (.ref 8), some (.int 0)], [], 0, 0, (mSH, I, L))) rfl (by decide) ?_
            refine mB 2 (s2 := (d + 5, 8, 18, [some (.ref 8), some (.int 0)], [.int 1], 0, 0, (mSH, I, L))) rfl ?_
            refine mRt (r := (some (.int 1))) (h := (mSH, I, L)) rfl rfl ?_
            show mWP mTb_ mFT ro (d + 6, 10, 5, [some (.ref 8), some (.int 0)], [.int 1], 0, 0, (mSH, I, L)) _
            refine mBF (s3 := (d + 6, 10, 8, [some (.ref 8), some (.int 0)], [], 0, 0, (mSH, I, L))) rfl (by decide) ?_
            refine mB 3 (s2 := (d + 6, 10, 13, [some (.ref 8), some (.int 0)], [.int 0, .ref 9], 0, 0, (mSH, I, L))) rfl ?_
            refine mRq (s2 := (d + 6, 10, 14, [some (.ref 8), some (.int 0)], [.int (I 9 0)], 0, 0, (mSH, I, L))) rfl (by decide) ?_
            refine mB 1 (s2 := (d + 6, 10, 18, [some (.ref 8), some (.int 0)], [.int (I 9 0)], 0, 0, (mSH, I, L))) rfl ?_
            refine mRt (r := (some (.int (I 9 0)))) (h := (mSH, I, L)) rfl (mRet_int rfl) ?_
            show mWP mTb_ mFT ro (d + 7, 84, 58, [some (.ref 0), some (.int v0), some (.int v1), some (.int v2)], [.int (I 9 0), .ref 6, .ref 10], 0, 0, (mSH, I, L)) _
            refine mB 3 (s2 := (d + 7, 84, 61, [some (.ref 0), some (.int v0), some (.int v1), some (.int v2)], [.int v2, .int v1, .int v0, .int (I 9 0), .ref 6, .ref 10], 0, 0, (mSH, I, L))) rfl ?_
            refine mCall (s2 := (d + 6, 51, 0, [some (.ref 10), some (.ref 6), some (.int (I 9 0)), some (.int v0), some (.int v1), some (.int v2), none, none], [], 0, 0, (mSH, I, L))) rfl ?_
            refine w_cost_6 hI.1 hI.2.1 (fun r1 => ?_)
            show mWP mTb_ mFT ro (d + 7, 84, 64, [some (.ref 0), some (.int v0), some (.int v1), some (.int v2)], [.int r1], 0, 0, (mSH, I, L)) _
            refine mRt (r := (some (.int r1))) (h := (mSH, I, L)) rfl (mRet_int rfl) ?_
            exact hq _ _ mFr.rf ⟨hI.1, hI.2.1, hI.2.2.1, hI.2.2.2.1, hI.2.2.2.2.1, hI.2.2.2.2.2.1, hI.2.2.2.2.2.2⟩
          · refine mB 2 (s2 := (d + 6, 110, 7, [some (.int v2)], [.int 3, .int v2], 0, 0, (mSH, I, L))) rfl ?_
            refine mBr (s2 := (d + 6, 110, 15, [some (.int v2)], [], 0, 0, (mSH, I, L))) (s3 := (d + 6, 110, 10, [some (.int v2)], [], 0, 0, (mSH, I, L))) rfl (fun c5 => ?_) (fun c5 => ?_)
            · refine mB 2 (s2 := (d + 6, 110, 20, [some (.int v2)], [.int 1], 0, 0, (mSH, I, L))) rfl ?_
              refine mRt (r := (some (.int 1))) (h := (mSH, I, L)) rfl rfl ?_
              show mWP mTb_ mFT ro (d + 7, 84, 32, [some (.ref 0), some (.int v0), some (.int v1), some (.int v2)], [.int 1], 0, 0, (mSH, I, L)) _
              refine mBF (s3 := (d + 7, 84, 42, [some (.ref 0), some (.int v0), some (.int v1), some (.int v2)], [], 0, 0, (mSH, I, L))) rfl (by decide) ?_
              refine mB 7 (s2 := (d + 7, 84, 55, [some (.ref 0), some (.int v0), some (.int v1), some (.int v2)], [.int 0, .ref 8, .ref 6, .ref 10], 0, 0, (mSH, I, L))) rfl ?_
              refine mCall (s2 := (d + 6, 10, 0, [some (.ref 8), some (.int 0)], [], 0, 0, (mSH, I, L))) rfl ?_
              refine mB 2 (s2 := (d + 6, 10, 2, [some (.ref 8), some (.int 0)], [.int 0, .ref 8], 0, 0, (mSH, I, L))) rfl ?_
              refine mCall (s2 := (d + 5, 8, 0, [some (.ref 8), some (.int 0)], [], 0, 0, (mSH, I, L))) rfl ?_
              refine mB 1 (s2 := (d + 5, 8, 1, [some (.ref 8), some (.int 0)], [.int 0], 0, 0, (mSH, I, L))) rfl ?_
              refine mBF (s3 := (d + 5, 8, 4, [some (.ref 8), some (.int 0)], [], 0, 0, (mSH, I, L))) rfl (by decide) ?_
              refine mB 4 (s2 := (d + 5, 8, 10, [some (.ref 8), some (.int 0)], [.int 3, .int 0], 0, 0, (mSH, I, L))) rfl ?_
              refine mBF (s3 := (d + 5, 8, 13, [some (.ref 8), some (.int 0)], [], 0, 0, (mSH, I, L))) rfl (by decide) ?_
              refine mB 2 (s2 := (d + 5, 8, 18, [some (.ref 8), some (.int 0)], [.int 1], 0, 0, (mSH, I, L))) rfl ?_
              refine mRt (r := (some (.int 1))) (h := (mSH, I, L)) rfl rfl ?_
              show mWP mTb_ mFT ro (d + 6, 10, 5, [some (.ref 8), some (.int 0)], [.int 1], 0, 0, (mSH, I, L)) _
              refine mBF (s3 := (d + 6, 10, 8, [some (.ref 8), some (.int 0)], [], 0, 0, (mSH, I, L))) rfl (by decide) ?_
              refine mB 3 (s2 := (d + 6, 10, 13, [some (.ref 8), some (.int 0)], [.int 0, .ref 9], 0, 0, (mSH, I, L))) rfl ?_
              refine mRq (s2 := (d + 6, 10, 14, [some (.ref 8), some (.int 0)], [.int (I 9 0)], 0, 0, (mSH, I, L))) rfl (by decide) ?_
              refine mB 1 (s2 := (d + 6, 10, 18, [some (.ref 8), some (.int 0)], [.int (I 9 0)], 0, 0, (mSH, I, L))) rfl ?_
              refine mRt (r := (some (.int (I 9 0)))) (h := (mSH, I, L)) rfl (mRet_int rfl) ?_
              show mWP mTb_ mFT ro (d + 7, 84, 58, [some (.ref 0), some (.int v0), some (.int v1), some (.int v2)], [.int (I 9 0), .ref 6, .ref 10], 0, 0, (mSH, I, L)) _
              refine mB 3 (s2 := (d + 7, 84, 61, [some (.ref 0), some (.int v0), some (.int v1), some (.int v2)], [.int v2, .int v1, .int v0, .int (I 9 0), .ref 6, .ref 10], 0, 0, (mSH, I, L))) rfl ?_
              refine mCall (s2 := (d + 6, 51, 0, [some (.ref 10), some (.ref 6), some (.int (I 9 0)), some (.int v0), some (.int v1), some (.int v2), none, none], [], 0, 0, (mSH, I, L))) rfl ?_
              refine w_cost_6 hI.1 hI.2.1 (fun r2 => ?_)
              show mWP mTb_ mFT ro (d + 7, 84, 64, [some (.ref 0), some (.int v0), some (.int v1), some (.int v2)], [.int r2], 0, 0, (mSH, I, L)) _
              refine mRt (r := (some (.int r2))) (h := (mSH, I, L)) rfl (mRet_int rfl) ?_
              exact hq _ _ mFr.rf ⟨hI.1, hI.2.1, hI.2.2.1, hI.2.2.2.1, hI.2.2.2.2.1, hI.2.2.2.2.2.1, hI.2.2.2.2.2.2⟩
            · refine mB 2 (s2 := (d + 6, 110, 12, [some (.int v2)], [.int 5, .int v2], 0, 0, (mSH, I, L))) rfl ?_
              refine mBr (s2 := (d + 6, 110, 15, [some (.int v2)], [], 0, 0, (mSH, I, L))) (s3 := (d + 6, 110, 19, [some (.int v2)], [], 0, 0, (mSH, I, L))) rfl (fun c6 => ?_) (fun c6 => ?_)
              · refine mB 2 (s2 := (d + 6, 110, 20, [some (.int v2)], [.int 1], 0, 0, (mSH, I, L))) rfl ?_
                refine mRt (r := (some (.int 1))) (h := (mSH, I, L)) rfl rfl ?_
                show mWP mTb_ mFT ro (d + 7, 84, 32, [some (.ref 0), some (.int v0), some (.int v1), some (.int v2)], [.int 1], 0, 0, (mSH, I, L)) _
                refine mBF (s3 := (d + 7, 84, 42, [some (.ref 0), some (.int v0), some (.int v1), some (.int v2)], [], 0, 0, (mSH, I, L))) rfl (by decide) ?_
                refine mB 7 (s2 := (d + 7, 84, 55, [some (.ref 0), some (.int v0), some (.int v1), some (.int v2)], [.int 0, .ref 8, .ref 6, .ref 10], 0, 0, (mSH, I, L))) rfl ?_
                refine mCall (s2 := (d + 6, 10, 0, [some (.ref 8), some (.int 0)], [], 0, 0, (mSH, I, L))) rfl ?_
                refine mB 2 (s2 := (d + 6, 10, 2, [some (.ref 8), some (.int 0)], [.int 0, .ref 8], 0, 0, (mSH, I, L))) rfl ?_
                refine mCall (s2 := (d + 5, 8, 0, [some (.ref 8), some (.int 0)], [], 0, 0, (mSH, I, L))) rfl ?_
                refine mB 1 (s2 := (d + 5, 8, 1, [some (.ref 8), some (.int 0)], [.int 0], 0, 0, (mSH, I, L))) rfl ?_
                refine mBF (s3 := (d + 5, 8, 4, [some (.ref 8), some (.int 0)], [], 0, 0, (mSH, I, L))) rfl (by decide) ?_
                refine mB 4 (s2 := (d + 5, 8, 10, [some (.ref 8), some (.int 0)], [.int 3, .int 0], 0, 0, (mSH, I, L))) rfl ?_
                refine mBF (s3 := (d + 5, 8, 13, [some (.ref 8), some (.int 0)], [], 0, 0, (mSH, I, L))) rfl (by decide) ?_
                refine mB 2 (s2 := (d + 5, 8, 18, [some (.ref 8), some (.int 0)], [.int 1], 0, 0, (mSH, I, L))) rfl ?_
                refine mRt (r := (some (.int 1))) (h := (mSH, I, L)) rfl rfl ?_
                show mWP mTb_ mFT ro (d + 6, 10, 5, [some (.ref 8), some (.int 0)], [.int 1], 0, 0, (mSH, I, L)) _
                refine mBF (s3 := (d + 6, 10, 8, [some (.ref 8), some (.int 0)], [], 0, 0, (mSH, I, L))) rfl (by decide) ?_
                refine mB 3 (s2 := (d + 6, 10, 13, [some (.ref 8), some (.int 0)], [.int 0, .ref 9], 0, 0, (mSH, I, L))) rfl ?_
                refine mRq (s2 := (d + 6, 10, 14, [some (.ref 8), some (.int 0)], [.int (I 9 0)], 0, 0, (mSH, I, L))) rfl (by decide) ?_
                refine mB 1 (s2 := (d + 6, 10, 18, [some (.ref 8), some (.int 0)], [.int (I 9 0)], 0, 0, (mSH, I, L))) rfl ?_
                refine mRt (r := (some (.int (I 9 0)))) (h := (mSH, I, L)) rfl (mRet_int rfl) ?_
                show mWP mTb_ mFT ro (d + 7, 84, 58, [some (.ref 0), some (.int v0), some (.int v1), some (.int v2)], [.int (I 9 0), .ref 6, .ref 10], 0, 0, (mSH, I, L)) _
                refine mB 3 (s2 := (d + 7, 84, 61, [some (.ref 0), some (.int v0), some (.int v1), some (.int v2)], [.int v2, .int v1, .int v0, .int (I 9 0), .ref 6, .ref 10], 0, 0, (mSH, I, L))) rfl ?_
                refine mCall (s2 := (d + 6, 51, 0, [some (.ref 10), some (.ref 6), some (.int (I 9 0)), some (.int v0), some (.int v1), some (.int v2), none, none], [], 0, 0, (mSH, I, L))) rfl ?_
                refine w_cost_6 hI.1 hI.2.1 (fun r3 => ?_)
                show mWP mTb_ mFT ro (d + 7, 84, 64, [some (.ref 0), some (.int v0), some (.int v1), some (.int v2)], [.int r3], 0, 0, (mSH, I, L)) _
                refine mRt (r := (some (.int r3))) (h := (mSH, I, L)) rfl (mRet_int rfl) ?_
                exact hq _ _ mFr.rf ⟨hI.1, hI.2.1, hI.2.2.1, hI.2.2.2.1, hI.2.2.2.2.1, hI.2.2.2.2.2.1, hI.2.2.2.2.2.2⟩
              · refine mB 1 (s2 := (d + 6, 110, 20, [some (.int v2)], [.int 0], 0, 0, (mSH, I, L))) rfl ?_
                refine mRt (r := (some (.int 0))) (h := (mSH, I, L)) rfl rfl ?_
                show mWP mTb_ mFT ro (d + 7, 84, 32, [some (.ref 0), some (.int v0), some (.int v1), some (.int v2)], [.int 0], 0, 0, (mSH, I, L)) _
                refine mBT (s2 := (d + 7, 84, 35, [some (.ref 0), some (.int v0), some (.int v1), some (.int v2)], [], 0, 0, (mSH, I, L))) rfl (by decide) ?_
                refine mB 2 (s2 := (d + 7, 84, 38, [some (.ref 0), some (.int v0), some (.int v1), some (.int v2)], [.int (-2), .ref 0], 0, 0, (mSH, I, L))) rfl ?_
                refine mCall (s2 := (d + 6, 103, 0, [some (.ref 0), some (.int (-2))], [], 0, 0, (mSH, I, L))) rfl ?_
                refine mB 2 (s2 := (d + 6, 103, 3, [some (.ref 0), some (.int (-2))], [.int (-2), .int (-2)], 0, 0, (mSH, I, L))) rfl ?_
                refine mBT (s2 := (d + 6, 103, 6, [some (.ref 0), some (.int (-2))], [], 0, 0, (mSH, I, L))) rfl (by decide) ?_
                refine mB 8 (s2 := (d + 6, 103, 49, [some (.ref 0), some (.int (-2))], [.int (-2)], 0, 0, (mSH, (mUp I 0 9 ((I 0 9) + 1)), L))) rfl ?_
                refine mRt (r := (some (.int (-2)))) (h := (mSH, (mUp I 0 9 ((I 0 9) + 1)), L)) rfl (mRet_int rfl) ?_
                show mWP mTb_ mFT ro (d + 7, 84, 41, [some (.ref 0), some (.int v0), some (.int v1), some (.int v2)], [.int (-2)], 0, 0, (mSH, (mUp I 0 9 ((I 0 9) + 1)), L)) _
                refine mRt (r := (some (.int (-2)))) (h := (mSH, (mUp I 0 9 ((I 0 9) + 1)), L)) rfl (mRet_int rfl) ?_
                exact hq _ _ (mFr.up (by rfl) mFr.rf) ⟨hI.1, hI.2.1, hI.2.2.1, hI.2.2.2.1, hI.2.2.2.2.1, hI.2.2.2.2.2.1, (mRk.up hI.2.2.2.2.2.2 (by rfl) (by rfl))⟩
theorem u_match {ro : Nat → Nat × (Nat → Int32)} {Q : mPo} {d : Nat} {I : Nat → Nat → Int32} {L : Nat → Nat → Int64} {v0 v1 : Int32} (hI : mIC I) (hq : ∀ r I1, mFr mSQ I I1 → mIC I1 → Q (some (.int r)) (mSH, I1, L))   : mWP mTb_ mFT ro (d + 7, 85, 0, [some (.ref 0), some (.int v0), some (.int v1)], [], 0, 0, (mSH, I, L)) Q := by
  refine mB 1 (s2 := (d + 7, 85, 1, [some (.ref 0), some (.int v0), some (.int v1)], [.int v0], 0, 0, (mSH, I, L))) rfl ?_
  refine mCall (s2 := (d + 6, 108, 0, [some (.int v0)], [], 0, 0, (mSH, I, L))) rfl ?_
  refine mB 1 (s2 := (d + 6, 108, 1, [some (.int v0)], [.int v0], 0, 0, (mSH, I, L))) rfl ?_
  refine mBr (s2 := (d + 6, 108, 9, [some (.int v0)], [], 0, 0, (mSH, I, L))) (s3 := (d + 6, 108, 4, [some (.int v0)], [], 0, 0, (mSH, I, L))) rfl (fun c0 => ?_) (fun c0 => ?_)
  · refine mB 2 (s2 := (d + 6, 108, 14, [some (.int v0)], [.int 1], 0, 0, (mSH, I, L))) rfl ?_
    refine mRt (r := (some (.int 1))) (h := (mSH, I, L)) rfl rfl ?_
    show mWP mTb_ mFT ro (d + 7, 85, 4, [some (.ref 0), some (.int v0), some (.int v1)], [.int 1], 0, 0, (mSH, I, L)) _
    refine mBF (s3 := (d + 7, 85, 7, [some (.ref 0), some (.int v0), some (.int v1)], [], 0, 0, (mSH, I, L))) rfl (by decide) ?_
    refine mB 1 (s2 := (d + 7, 85, 8, [some (.ref 0), some (.int v0), some (.int v1)], [.int v1], 0, 0, (mSH, I, L))) rfl ?_
    refine mBr (s2 := (d + 7, 85, 16, [some (.ref 0), some (.int v0), some (.int v1)], [], 0, 0, (mSH, I, L))) (s3 := (d + 7, 85, 11, [some (.ref 0), some (.int v0), some (.int v1)], [], 0, 0, (mSH, I, L))) rfl (fun c1 => ?_) (fun c1 => ?_)
    · refine mB 2 (s2 := (d + 7, 85, 19, [some (.ref 0), some (.int v0), some (.int v1)], [.int (-2), .ref 0], 0, 0, (mSH, I, L))) rfl ?_
      refine mCall (s2 := (d + 6, 103, 0, [some (.ref 0), some (.int (-2))], [], 0, 0, (mSH, I, L))) rfl ?_
      refine mB 2 (s2 := (d + 6, 103, 3, [some (.ref 0), some (.int (-2))], [.int (-2), .int (-2)], 0, 0, (mSH, I, L))) rfl ?_
      refine mBT (s2 := (d + 6, 103, 6, [some (.ref 0), some (.int (-2))], [], 0, 0, (mSH, I, L))) rfl (by decide) ?_
      refine mB 8 (s2 := (d + 6, 103, 49, [some (.ref 0), some (.int (-2))], [.int (-2)], 0, 0, (mSH, (mUp I 0 9 ((I 0 9) + 1)), L))) rfl ?_
      refine mRt (r := (some (.int (-2)))) (h := (mSH, (mUp I 0 9 ((I 0 9) + 1)), L)) rfl (mRet_int rfl) ?_
      show mWP mTb_ mFT ro (d + 7, 85, 22, [some (.ref 0), some (.int v0), some (.int v1)], [.int (-2)], 0, 0, (mSH, (mUp I 0 9 ((I 0 9) + 1)), L)) _
      refine mRt (r := (some (.int (-2)))) (h := (mSH, (mUp I 0 9 ((I 0 9) + 1)), L)) rfl (mRet_int rfl) ?_
      exact hq _ _ (mFr.up (by rfl) mFr.rf) ⟨hI.1, hI.2.1, hI.2.2.1, hI.2.2.2.1, hI.2.2.2.2.1, hI.2.2.2.2.2.1, (mRk.up hI.2.2.2.2.2.2 (by rfl) (by rfl))⟩
    · refine mB 2 (s2 := (d + 7, 85, 13, [some (.ref 0), some (.int v0), some (.int v1)], [.int 3, .int v1], 0, 0, (mSH, I, L))) rfl ?_
      refine mBr (s2 := (d + 7, 85, 23, [some (.ref 0), some (.int v0), some (.int v1)], [], 0, 0, (mSH, I, L))) (s3 := (d + 7, 85, 16, [some (.ref 0), some (.int v0), some (.int v1)], [], 0, 0, (mSH, I, L))) rfl (fun c2 => ?_) (fun c2 => ?_)
      · refine mB 2 (s2 := (d + 7, 85, 25, [some (.ref 0), some (.int v0), some (.int v1)], [.int v0, .ref 0], 0, 0, (mSH, I, L))) rfl ?_
        refine mCall (s2 := (d + 6, 106, 0, [some (.ref 0), some (.int v0)], [], 0, 0, (mSH, I, L))) rfl ?_
        refine w_finds hI.1 hI.2.1 hI.2.2.1 hI.2.2.2.2.2.2 ?_ ?_
        · intro K1 hK1
          show mWP mTb_ mFT ro (d + 7, 85, 28, [some (.ref 0), some (.int v0), some (.int v1)], [.int 0], 0, 0, (mSH, (mMix mSX I K1), L)) _
          refine mBT (s2 := (d + 7, 85, 31, [some (.ref 0), some (.int v0), some (.int v1)], [], 0, 0, (mSH, (mMix mSX I K1), L))) rfl (by decide) ?_
          refine mB 2 (s2 := (d + 7, 85, 34, [some (.ref 0), some (.int v0), some (.int v1)], [.int (-3), .ref 0], 0, 0, (mSH, (mMix mSX I K1), L))) rfl ?_
          refine mCall (s2 := (d + 6, 103, 0, [some (.ref 0), some (.int (-3))], [], 0, 0, (mSH, (mMix mSX I K1), L))) rfl ?_
          refine mB 2 (s2 := (d + 6, 103, 3, [some (.ref 0), some (.int (-3))], [.int (-2), .int (-3)], 0, 0, (mSH, (mMix mSX I K1), L))) rfl ?_
          refine mBF (s3 := (d + 6, 103, 19, [some (.ref 0), some (.int (-3))], [], 0, 0, (mSH, (mMix mSX I K1), L))) rfl (by decide) ?_
          refine mB 2 (s2 := (d + 6, 103, 22, [some (.ref 0), some (.int (-3))], [.int (-3), .int (-3)], 0, 0, (mSH, (mMix mSX I K1), L))) rfl ?_
          refine mBT (s2 := (d + 6, 103, 25, [some (.ref 0), some (.int (-3))], [], 0, 0, (mSH, (mMix mSX I K1), L))) rfl (by decide) ?_
          refine mB 8 (s2 := (d + 6, 103, 49, [some (.ref 0), some (.int (-3))], [.int (-3)], 0, 0, (mSH, (mUp (mMix mSX I K1) 0 10 ((I 0 10) + 1)), L))) rfl ?_
          refine mRt (r := (some (.int (-3)))) (h := (mSH, (mUp (mMix mSX I K1) 0 10 ((I 0 10) + 1)), L)) rfl (mRet_int rfl) ?_
          show mWP mTb_ mFT ro (d + 7, 85, 37, [some (.ref 0), some (.int v0), some (.int v1)], [.int (-3)], 0, 0, (mSH, (mUp (mMix mSX I K1) 0 10 ((I 0 10) + 1)), L)) _
          refine mRt (r := (some (.int (-3)))) (h := (mSH, (mUp (mMix mSX I K1) 0 10 ((I 0 10) + 1)), L)) rfl (mRet_int rfl) ?_
          exact hq _ _ (mFr.up (by rfl) (mFr.mix (by decide) mFr.rf)) ⟨hI.1, hI.2.1, hK1.2, hI.2.2.2.1, hI.2.2.2.2.1, hI.2.2.2.2.2.1, (mRk.up hK1.1 (by rfl) (by rfl))⟩
        · intro K1 hK1
          show mWP mTb_ mFT ro (d + 7, 85, 28, [some (.ref 0), some (.int v0), some (.int v1)], [.int 1], 0, 0, (mSH, (mMix mSX I K1), L)) _
          refine mBF (s3 := (d + 7, 85, 38, [some (.ref 0), some (.int v0), some (.int v1)], [], 0, 0, (mSH, (mMix mSX I K1), L))) rfl (by decide) ?_
          refine mB 1 (s2 := (d + 7, 85, 39, [some (.ref 0), some (.int v0), some (.int v1)], [.int v1], 0, 0, (mSH, (mMix mSX I K1), L))) rfl ?_
          refine mSwA (l := [(decide (v1.toInt < 0 ∨ 2 < v1.toInt), (d + 7, 85, 88, [some (.ref 0), some (.int v0), some (.int v1)], [], 0, 0, (mSH, (mMix mSX I K1), L))), (decide (v1.toInt = 0), (d + 7, 85, 64, [some (.ref 0), some (.int v0), some (.int v1)], [], 0, 0, (mSH, (mMix mSX I K1), L))), (decide (v1.toInt = 1), (d + 7, 85, 72, [some (.ref 0), some (.int v0), some (.int v1)], [], 0, 0, (mSH, (mMix mSX I K1), L))), (decide (v1.toInt = 2), (d + 7, 85, 80, [some (.ref 0), some (.int v0), some (.int v1)], [], 0, 0, (mSH, (mMix mSX I K1), L)))]) rfl ⟨fun c3 => ?_, fun c3 => ?_, fun c3 => ?_, fun c3 => ?_, trivial⟩
          · refine mB 2 (s2 := (d + 7, 85, 92, [some (.ref 0), some (.int v0), some (.int v1)], [.ref 22], 0, 0, (mSH, (mMix mSX I K1), L))) rfl ?_
            refine mCall (s2 := (d + 6, 16, 0, [some (.ref 22)], [], 0, 0, (mSH, (mMix mSX I K1), L))) rfl ?_
            refine w_behind hK1.2 (fun r2 => ?_)
            show mWP mTb_ mFT ro (d + 7, 85, 95, [some (.ref 0), some (.int v0), some (.int v1)], [.int r2], 0, 0, (mSH, (mMix mSX I K1), L)) _
            refine mRt (r := (some (.int r2))) (h := (mSH, (mMix mSX I K1), L)) rfl (mRet_int rfl) ?_
            exact hq _ _ (mFr.mix (by decide) mFr.rf) ⟨hI.1, hI.2.1, hK1.2, hI.2.2.2.1, hI.2.2.2.2.1, hI.2.2.2.2.2.1, hK1.1⟩
          · refine mB 3 (s2 := (d + 7, 85, 71, [some (.ref 0), some (.int v0), some (.int v1)], [.int (K1 22 3)], 0, 0, (mSH, (mMix mSX I K1), L))) rfl ?_
            refine mRt (r := (some (.int (K1 22 3)))) (h := (mSH, (mMix mSX I K1), L)) rfl (mRet_int rfl) ?_
            exact hq _ _ (mFr.mix (by decide) mFr.rf) ⟨hI.1, hI.2.1, hK1.2, hI.2.2.2.1, hI.2.2.2.2.1, hI.2.2.2.2.2.1, hK1.1⟩
          · refine mB 3 (s2 := (d + 7, 85, 79, [some (.ref 0), some (.int v0), some (.int v1)], [.int (K1 22 2)], 0, 0, (mSH, (mMix mSX I K1), L))) rfl ?_
            refine mRt (r := (some (.int (K1 22 2)))) (h := (mSH, (mMix mSX I K1), L)) rfl (mRet_int rfl) ?_
            exact hq _ _ (mFr.mix (by decide) mFr.rf) ⟨hI.1, hI.2.1, hK1.2, hI.2.2.2.1, hI.2.2.2.2.1, hI.2.2.2.2.2.1, hK1.1⟩
          · refine mB 2 (s2 := (d + 7, 85, 84, [some (.ref 0), some (.int v0), some (.int v1)], [.ref 22], 0, 0, (mSH, (mMix mSX I K1), L))) rfl ?_
            refine mCall (s2 := (d + 6, 15, 0, [some (.ref 22)], [], 0, 0, (mSH, (mMix mSX I K1), L))) rfl ?_
            refine w_missed hK1.2 (fun r3 => ?_)
            show mWP mTb_ mFT ro (d + 7, 85, 87, [some (.ref 0), some (.int v0), some (.int v1)], [.int r3], 0, 0, (mSH, (mMix mSX I K1), L)) _
            refine mRt (r := (some (.int r3))) (h := (mSH, (mMix mSX I K1), L)) rfl (mRet_int rfl) ?_
            exact hq _ _ (mFr.mix (by decide) mFr.rf) ⟨hI.1, hI.2.1, hK1.2, hI.2.2.2.1, hI.2.2.2.2.1, hI.2.2.2.2.2.1, hK1.1⟩
      · refine mB 2 (s2 := (d + 7, 85, 19, [some (.ref 0), some (.int v0), some (.int v1)], [.int (-2), .ref 0], 0, 0, (mSH, I, L))) rfl ?_
        refine mCall (s2 := (d + 6, 103, 0, [some (.ref 0), some (.int (-2))], [], 0, 0, (mSH, I, L))) rfl ?_
        refine mB 2 (s2 := (d + 6, 103, 3, [some (.ref 0), some (.int (-2))], [.int (-2), .int (-2)], 0, 0, (mSH, I, L))) rfl ?_
        refine mBT (s2 := (d + 6, 103, 6, [some (.ref 0), some (.int (-2))], [], 0, 0, (mSH, I, L))) rfl (by decide) ?_
        refine mB 8 (s2 := (d + 6, 103, 49, [some (.ref 0), some (.int (-2))], [.int (-2)], 0, 0, (mSH, (mUp I 0 9 ((I 0 9) + 1)), L))) rfl ?_
        refine mRt (r := (some (.int (-2)))) (h := (mSH, (mUp I 0 9 ((I 0 9) + 1)), L)) rfl (mRet_int rfl) ?_
        show mWP mTb_ mFT ro (d + 7, 85, 22, [some (.ref 0), some (.int v0), some (.int v1)], [.int (-2)], 0, 0, (mSH, (mUp I 0 9 ((I 0 9) + 1)), L)) _
        refine mRt (r := (some (.int (-2)))) (h := (mSH, (mUp I 0 9 ((I 0 9) + 1)), L)) rfl (mRet_int rfl) ?_
        exact hq _ _ (mFr.up (by rfl) mFr.rf) ⟨hI.1, hI.2.1, hI.2.2.1, hI.2.2.2.1, hI.2.2.2.2.1, hI.2.2.2.2.2.1, (mRk.up hI.2.2.2.2.2.2 (by rfl) (by rfl))⟩
  · refine mB 2 (s2 := (d + 6, 108, 6, [some (.int v0)], [.int 1, .int v0], 0, 0, (mSH, I, L))) rfl ?_
    refine mBr (s2 := (d + 6, 108, 9, [some (.int v0)], [], 0, 0, (mSH, I, L))) (s3 := (d + 6, 108, 13, [some (.int v0)], [], 0, 0, (mSH, I, L))) rfl (fun c1 => ?_) (fun c1 => ?_)
    · refine mB 2 (s2 := (d + 6, 108, 14, [some (.int v0)], [.int 1], 0, 0, (mSH, I, L))) rfl ?_
      refine mRt (r := (some (.int 1))) (h := (mSH, I, L)) rfl rfl ?_
      show mWP mTb_ mFT ro (d + 7, 85, 4, [some (.ref 0), some (.int v0), some (.int v1)], [.int 1], 0, 0, (mSH, I, L)) _
      refine mBF (s3 := (d + 7, 85, 7, [some (.ref 0), some (.int v0), some (.int v1)], [], 0, 0, (mSH, I, L))) rfl (by decide) ?_
      refine mB 1 (s2 := (d + 7, 85, 8, [some (.ref 0), some (.int v0), some (.int v1)], [.int v1], 0, 0, (mSH, I, L))) rfl ?_
      refine mBr (s2 := (d + 7, 85, 16, [some (.ref 0), some (.int v0), some (.int v1)], [], 0, 0, (mSH, I, L))) (s3 := (d + 7, 85, 11, [some (.ref 0), some (.int v0), some (.int v1)], [], 0, 0, (mSH, I, L))) rfl (fun c2 => ?_) (fun c2 => ?_)
      · refine mB 2 (s2 := (d + 7, 85, 19, [some (.ref 0), some (.int v0), some (.int v1)], [.int (-2), .ref 0], 0, 0, (mSH, I, L))) rfl ?_
        refine mCall (s2 := (d + 6, 103, 0, [some (.ref 0), some (.int (-2))], [], 0, 0, (mSH, I, L))) rfl ?_
        refine mB 2 (s2 := (d + 6, 103, 3, [some (.ref 0), some (.int (-2))], [.int (-2), .int (-2)], 0, 0, (mSH, I, L))) rfl ?_
        refine mBT (s2 := (d + 6, 103, 6, [some (.ref 0), some (.int (-2))], [], 0, 0, (mSH, I, L))) rfl (by decide) ?_
        refine mB 8 (s2 := (d + 6, 103, 49, [some (.ref 0), some (.int (-2))], [.int (-2)], 0, 0, (mSH, (mUp I 0 9 ((I 0 9) + 1)), L))) rfl ?_
        refine mRt (r := (some (.int (-2)))) (h := (mSH, (mUp I 0 9 ((I 0 9) + 1)), L)) rfl (mRet_int rfl) ?_
        show mWP mTb_ mFT ro (d + 7, 85, 22, [some (.ref 0), some (.int v0), some (.int v1)], [.int (-2)], 0, 0, (mSH, (mUp I 0 9 ((I 0 9) + 1)), L)) _
        refine mRt (r := (some (.int (-2)))) (h := (mSH, (mUp I 0 9 ((I 0 9) + 1)), L)) rfl (mRet_int rfl) ?_
        exact hq _ _ (mFr.up (by rfl) mFr.rf) ⟨hI.1, hI.2.1, hI.2.2.1, hI.2.2.2.1, hI.2.2.2.2.1, hI.2.2.2.2.2.1, (mRk.up hI.2.2.2.2.2.2 (by rfl) (by rfl))⟩
      · refine mB 2 (s2 := (d + 7, 85, 13, [some (.ref 0), some (.int v0), some (.int v1)], [.int 3, .int v1], 0, 0, (mSH, I, L))) rfl ?_
        refine mBr (s2 := (d + 7, 85, 23, [some (.ref 0), some (.int v0), some (.int v1)], [], 0, 0, (mSH, I, L))) (s3 := (d + 7, 85, 16, [some (.ref 0), some (.int v0), some (.int v1)], [], 0, 0, (mSH, I, L))) rfl (fun c3 => ?_) (fun c3 => ?_)
        · refine mB 2 (s2 := (d + 7, 85, 25, [some (.ref 0), some (.int v0), some (.int v1)], [.int v0, .ref 0], 0, 0, (mSH, I, L))) rfl ?_
          refine mCall (s2 := (d + 6, 106, 0, [some (.ref 0), some (.int v0)], [], 0, 0, (mSH, I, L))) rfl ?_
          refine w_finds hI.1 hI.2.1 hI.2.2.1 hI.2.2.2.2.2.2 ?_ ?_
          · intro K4 hK4
            show mWP mTb_ mFT ro (d + 7, 85, 28, [some (.ref 0), some (.int v0), some (.int v1)], [.int 0], 0, 0, (mSH, (mMix mSX I K4), L)) _
            refine mBT (s2 := (d + 7, 85, 31, [some (.ref 0), some (.int v0), some (.int v1)], [], 0, 0, (mSH, (mMix mSX I K4), L))) rfl (by decide) ?_
            refine mB 2 (s2 := (d + 7, 85, 34, [some (.ref 0), some (.int v0), some (.int v1)], [.int (-3), .ref 0], 0, 0, (mSH, (mMix mSX I K4), L))) rfl ?_
            refine mCall (s2 := (d + 6, 103, 0, [some (.ref 0), some (.int (-3))], [], 0, 0, (mSH, (mMix mSX I K4), L))) rfl ?_
            refine mB 2 (s2 := (d + 6, 103, 3, [some (.ref 0), some (.int (-3))], [.int (-2), .int (-3)], 0, 0, (mSH, (mMix mSX I K4), L))) rfl ?_
            refine mBF (s3 := (d + 6, 103, 19, [some (.ref 0), some (.int (-3))], [], 0, 0, (mSH, (mMix mSX I K4), L))) rfl (by decide) ?_
            refine mB 2 (s2 := (d + 6, 103, 22, [some (.ref 0), some (.int (-3))], [.int (-3), .int (-3)], 0, 0, (mSH, (mMix mSX I K4), L))) rfl ?_
            refine mBT (s2 := (d + 6, 103, 25, [some (.ref 0), some (.int (-3))], [], 0, 0, (mSH, (mMix mSX I K4), L))) rfl (by decide) ?_
            refine mB 8 (s2 := (d + 6, 103, 49, [some (.ref 0), some (.int (-3))], [.int (-3)], 0, 0, (mSH, (mUp (mMix mSX I K4) 0 10 ((I 0 10) + 1)), L))) rfl ?_
            refine mRt (r := (some (.int (-3)))) (h := (mSH, (mUp (mMix mSX I K4) 0 10 ((I 0 10) + 1)), L)) rfl (mRet_int rfl) ?_
            show mWP mTb_ mFT ro (d + 7, 85, 37, [some (.ref 0), some (.int v0), some (.int v1)], [.int (-3)], 0, 0, (mSH, (mUp (mMix mSX I K4) 0 10 ((I 0 10) + 1)), L)) _
            refine mRt (r := (some (.int (-3)))) (h := (mSH, (mUp (mMix mSX I K4) 0 10 ((I 0 10) + 1)), L)) rfl (mRet_int rfl) ?_
            exact hq _ _ (mFr.up (by rfl) (mFr.mix (by decide) mFr.rf)) ⟨hI.1, hI.2.1, hK4.2, hI.2.2.2.1, hI.2.2.2.2.1, hI.2.2.2.2.2.1, (mRk.up hK4.1 (by rfl) (by rfl))⟩
          · intro K4 hK4
            show mWP mTb_ mFT ro (d + 7, 85, 28, [some (.ref 0), some (.int v0), some (.int v1)], [.int 1], 0, 0, (mSH, (mMix mSX I K4), L)) _
            refine mBF (s3 := (d + 7, 85, 38, [some (.ref 0), some (.int v0), some (.int v1)], [], 0, 0, (mSH, (mMix mSX I K4), L))) rfl (by decide) ?_
            refine mB 1 (s2 := (d + 7, 85, 39, [some (.ref 0), some (.int v0), some (.int v1)], [.int v1], 0, 0, (mSH, (mMix mSX I K4), L))) rfl ?_
            refine mSwA (l := [(decide (v1.toInt < 0 ∨ 2 < v1.toInt), (d + 7, 85, 88, [some (.ref 0), some (.int v0), some (.int v1)], [], 0, 0, (mSH, (mMix mSX I K4), L))), (decide (v1.toInt = 0), (d + 7, 85, 64, [some (.ref 0), some (.int v0), some (.int v1)], [], 0, 0, (mSH, (mMix mSX I K4), L))), (decide (v1.toInt = 1), (d + 7, 85, 72, [some (.ref 0), some (.int v0), some (.int v1)], [], 0, 0, (mSH, (mMix mSX I K4), L))), (decide (v1.toInt = 2), (d + 7, 85, 80, [some (.ref 0), some (.int v0), some (.int v1)], [], 0, 0, (mSH, (mMix mSX I K4), L)))]) rfl ⟨fun c4 => ?_, fun c4 => ?_, fun c4 => ?_, fun c4 => ?_, trivial⟩
            · refine mB 2 (s2 := (d + 7, 85, 92, [some (.ref 0), some (.int v0), some (.int v1)], [.ref 22], 0, 0, (mSH, (mMix mSX I K4), L))) rfl ?_
              refine mCall (s2 := (d + 6, 16, 0, [some (.ref 22)], [], 0, 0, (mSH, (mMix mSX I K4), L))) rfl ?_
              refine w_behind hK4.2 (fun r5 => ?_)
              show mWP mTb_ mFT ro (d + 7, 85, 95, [some (.ref 0), some (.int v0), some (.int v1)], [.int r5], 0, 0, (mSH, (mMix mSX I K4), L)) _
              refine mRt (r := (some (.int r5))) (h := (mSH, (mMix mSX I K4), L)) rfl (mRet_int rfl) ?_
              exact hq _ _ (mFr.mix (by decide) mFr.rf) ⟨hI.1, hI.2.1, hK4.2, hI.2.2.2.1, hI.2.2.2.2.1, hI.2.2.2.2.2.1, hK4.1⟩
            · refine mB 3 (s2 := (d + 7, 85, 71, [some (.ref 0), some (.int v0), some (.int v1)], [.int (K4 22 3)], 0, 0, (mSH, (mMix mSX I K4), L))) rfl ?_
              refine mRt (r := (some (.int (K4 22 3)))) (h := (mSH, (mMix mSX I K4), L)) rfl (mRet_int rfl) ?_
              exact hq _ _ (mFr.mix (by decide) mFr.rf) ⟨hI.1, hI.2.1, hK4.2, hI.2.2.2.1, hI.2.2.2.2.1, hI.2.2.2.2.2.1, hK4.1⟩
            · refine mB 3 (s2 := (d + 7, 85, 79, [some (.ref 0), some (.int v0), some (.int v1)], [.int (K4 22 2)], 0, 0, (mSH, (mMix mSX I K4), L))) rfl ?_
              refine mRt (r := (some (.int (K4 22 2)))) (h := (mSH, (mMix mSX I K4), L)) rfl (mRet_int rfl) ?_
              exact hq _ _ (mFr.mix (by decide) mFr.rf) ⟨hI.1, hI.2.1, hK4.2, hI.2.2.2.1, hI.2.2.2.2.1, hI.2.2.2.2.2.1, hK4.1⟩
            · refine mB 2 (s2 := (d + 7, 85, 84, [some (.ref 0), some (.int v0), some (.int v1)], [.ref 22], 0, 0, (mSH, (mMix mSX I K4), L))) rfl ?_
              refine mCall (s2 := (d + 6, 15, 0, [some (.ref 22)], [], 0, 0, (mSH, (mMix mSX I K4), L))) rfl ?_
              refine w_missed hK4.2 (fun r6 => ?_)
              show mWP mTb_ mFT ro (d + 7, 85, 87, [some (.ref 0), some (.int v0), some (.int v1)], [.int r6], 0, 0, (mSH, (mMix mSX I K4), L)) _
              refine mRt (r := (some (.int r6))) (h := (mSH, (mMix mSX I K4), L)) rfl (mRet_int rfl) ?_
              exact hq _ _ (mFr.mix (by decide) mFr.rf) ⟨hI.1, hI.2.1, hK4.2, hI.2.2.2.1, hI.2.2.2.2.1, hI.2.2.2.2.2.1, hK4.1⟩
        · refine mB 2 (s2 := (d + 7, 85, 19, [some (.ref 0), some (.int v0), some (.int v1)], [.int (-2), .ref 0], 0, 0, (mSH, I, L))) rfl ?_
          refine mCall (s2 := (d + 6, 103, 0, [some (.ref 0), some (.int (-2))], [], 0, 0, (mSH, I, L))) rfl ?_
          refine mB 2 (s2 := (d + 6, 103, 3, [some (.ref 0), some (.int (-2))], [.int (-2), .int (-2)], 0, 0, (mSH, I, L))) rfl ?_
          refine mBT (s2 := (d + 6, 103, 6, [some (.ref 0), some (.int (-2))], [], 0, 0, (mSH, I, L))) rfl (by decide) ?_
          refine mB 8 (s2 := (d + 6, 103, 49, [some (.ref 0), some (.int (-2))], [.int (-2)], 0, 0, (mSH, (mUp I 0 9 ((I 0 9) + 1)), L))) rfl ?_
          refine mRt (r := (some (.int (-2)))) (h := (mSH, (mUp I 0 9 ((I 0 9) + 1)), L)) rfl (mRet_int rfl) ?_
          show mWP mTb_ mFT ro (d + 7, 85, 22, [some (.ref 0), some (.int v0), some (.int v1)], [.int (-2)], 0, 0, (mSH, (mUp I 0 9 ((I 0 9) + 1)), L)) _
          refine mRt (r := (some (.int (-2)))) (h := (mSH, (mUp I 0 9 ((I 0 9) + 1)), L)) rfl (mRet_int rfl) ?_
          exact hq _ _ (mFr.up (by rfl) mFr.rf) ⟨hI.1, hI.2.1, hI.2.2.1, hI.2.2.2.1, hI.2.2.2.2.1, hI.2.2.2.2.2.1, (mRk.up hI.2.2.2.2.2.2 (by rfl) (by rfl))⟩
    · refine mB 1 (s2 := (d + 6, 108, 14, [some (.int v0)], [.int 0], 0, 0, (mSH, I, L))) rfl ?_
      refine mRt (r := (some (.int 0))) (h := (mSH, I, L)) rfl rfl ?_
      show mWP mTb_ mFT ro (d + 7, 85, 4, [some (.ref 0), some (.int v0), some (.int v1)], [.int 0], 0, 0, (mSH, I, L)) _
      refine mBT (s2 := (d + 7, 85, 16, [some (.ref 0), some (.int v0), some (.int v1)], [], 0, 0, (mSH, I, L))) rfl (by decide) ?_
      refine mB 2 (s2 := (d + 7, 85, 19, [some (.ref 0), some (.int v0), some (.int v1)], [.int (-2), .ref 0], 0, 0, (mSH, I, L))) rfl ?_
      refine mCall (s2 := (d + 6, 103, 0, [some (.ref 0), some (.int (-2))], [], 0, 0, (mSH, I, L))) rfl ?_
      refine mB 2 (s2 := (d + 6, 103, 3, [some (.ref 0), some (.int (-2))], [.int (-2), .int (-2)], 0, 0, (mSH, I, L))) rfl ?_
      refine mBT (s2 := (d + 6, 103, 6, [some (.ref 0), some (.int (-2))], [], 0, 0, (mSH, I, L))) rfl (by decide) ?_
      refine mB 8 (s2 := (d + 6, 103, 49, [some (.ref 0), some (.int (-2))], [.int (-2)], 0, 0, (mSH, (mUp I 0 9 ((I 0 9) + 1)), L))) rfl ?_
      refine mRt (r := (some (.int (-2)))) (h := (mSH, (mUp I 0 9 ((I 0 9) + 1)), L)) rfl (mRet_int rfl) ?_
      show mWP mTb_ mFT ro (d + 7, 85, 22, [some (.ref 0), some (.int v0), some (.int v1)], [.int (-2)], 0, 0, (mSH, (mUp I 0 9 ((I 0 9) + 1)), L)) _
      refine mRt (r := (some (.int (-2)))) (h := (mSH, (mUp I 0 9 ((I 0 9) + 1)), L)) rfl (mRet_int rfl) ?_
      exact hq _ _ (mFr.up (by rfl) mFr.rf) ⟨hI.1, hI.2.1, hI.2.2.1, hI.2.2.2.1, hI.2.2.2.2.1, hI.2.2.2.2.2.1, (mRk.up hI.2.2.2.2.2.2 (by rfl) (by rfl))⟩
theorem u_block {ro : Nat → Nat × (Nat → Int32)} {Q : mPo} {d : Nat} {I : Nat → Nat → Int32} {L : Nat → Nat → Int64} {v0 v1 : Int32} (hI : mIC I) (hq : ∀ r I1, mFr mSQ I I1 → mIC I1 → Q (some (.int r)) (mSH, I1, L))   : mWP mTb_ mFT ro (d + 7, 86, 0, [some (.ref 0), some (.int v0), some (.int v1)], [], 0, 0, (mSH, I, L)) Q := by
  refine mB 1 (s2 := (d + 7, 86, 1, [some (.ref 0), some (.int v0), some (.int v1)], [.int v0], 0, 0, (mSH, I, L))) rfl ?_
  refine mCall (s2 := (d + 6, 108, 0, [some (.int v0)], [], 0, 0, (mSH, I, L))) rfl ?_
  refine mB 1 (s2 := (d + 6, 108, 1, [some (.int v0)], [.int v0], 0, 0, (mSH, I, L))) rfl ?_
  refine mBr (s2 := (d + 6, 108, 9, [some (.int v0)], [], 0, 0, (mSH, I, L))) (s3 := (d + 6, 108, 4, [some (.int v0)], [], 0, 0, (mSH, I, L))) rfl (fun c0 => ?_) (fun c0 => ?_)
  · refine mB 2 (s2 := (d + 6, 108, 14, [some (.int v0)], [.int 1], 0, 0, (mSH, I, L))) rfl ?_
    refine mRt (r := (some (.int 1))) (h := (mSH, I, L)) rfl rfl ?_
    show mWP mTb_ mFT ro (d + 7, 86, 4, [some (.ref 0), some (.int v0), some (.int v1)], [.int 1], 0, 0, (mSH, I, L)) _
    refine mBF (s3 := (d + 7, 86, 7, [some (.ref 0), some (.int v0), some (.int v1)], [], 0, 0, (mSH, I, L))) rfl (by decide) ?_
    refine mB 4 (s2 := (d + 7, 86, 15, [some (.ref 0), some (.int v0), some (.int v1)], [.int v1, .ref 4], 0, 0, (mSH, I, L))) rfl ?_
    refine mCall (s2 := (d + 6, 41, 0, [some (.ref 4), some (.int v1)], [], 0, 0, (mSH, I, L))) rfl ?_
    refine mB 1 (s2 := (d + 6, 41, 1, [some (.ref 4), some (.int v1)], [.int v1], 0, 0, (mSH, I, L))) rfl ?_
    refine mBr (s2 := (d + 6, 41, 16, [some (.ref 4), some (.int v1)], [], 0, 0, (mSH, I, L))) (s3 := (d + 6, 41, 4, [some (.ref 4), some (.int v1)], [], 0, 0, (mSH, I, L))) rfl (fun c1 => ?_) (fun c1 => ?_)
    · refine mB 1 (s2 := (d + 6, 41, 17, [some (.ref 4), some (.int v1)], [.int 0], 0, 0, (mSH, I, L))) rfl ?_
      refine mRt (r := (some (.int 0))) (h := (mSH, I, L)) rfl rfl ?_
      show mWP mTb_ mFT ro (d + 7, 86, 18, [some (.ref 0), some (.int v0), some (.int v1)], [.int 0], 0, 0, (mSH, I, L)) _
      refine mBT (s2 := (d + 7, 86, 21, [some (.ref 0), some (.int v0), some (.int v1)], [], 0, 0, (mSH, I, L))) rfl (by decide) ?_
      refine mB 2 (s2 := (d + 7, 86, 24, [some (.ref 0), some (.int v0), some (.int v1)], [.int (-2), .ref 0], 0, 0, (mSH, I, L))) rfl ?_
      refine mCall (s2 := (d + 6, 103, 0, [some (.ref 0), some (.int (-2))], [], 0, 0, (mSH, I, L))) rfl ?_
      refine mB 2 (s2 := (d + 6, 103, 3, [some (.ref 0), some (.int (-2))], [.int (-2), .int (-2)], 0, 0, (mSH, I, L))) rfl ?_
      refine mBT (s2 := (d + 6, 103, 6, [some (.ref 0), some (.int (-2))], [], 0, 0, (mSH, I, L))) rfl (by decide) ?_
      refine mB 8 (s2 := (d + 6, 103, 49, [some (.ref 0), some (.int (-2))], [.int (-2)], 0, 0, (mSH, (mUp I 0 9 ((I 0 9) + 1)), L))) rfl ?_
      refine mRt (r := (some (.int (-2)))) (h := (mSH, (mUp I 0 9 ((I 0 9) + 1)), L)) rfl (mRet_int rfl) ?_
      show mWP mTb_ mFT ro (d + 7, 86, 27, [some (.ref 0), some (.int v0), some (.int v1)], [.int (-2)], 0, 0, (mSH, (mUp I 0 9 ((I 0 9) + 1)), L)) _
      refine mRt (r := (some (.int (-2)))) (h := (mSH, (mUp I 0 9 ((I 0 9) + 1)), L)) rfl (mRet_int rfl) ?_
      exact hq _ _ (mFr.up (by rfl) mFr.rf) ⟨hI.1, hI.2.1, hI.2.2.1, hI.2.2.2.1, hI.2.2.2.2.1, hI.2.2.2.2.2.1, (mRk.up hI.2.2.2.2.2.2 (by rfl) (by rfl))⟩
    · refine mB 3 (s2 := (d + 6, 41, 9, [some (.ref 4), some (.int v1)], [.int (I 4 1), .int v1], 0, 0, (mSH, I, L))) rfl ?_
      refine mBr (s2 := (d + 6, 41, 16, [some (.ref 4), some (.int v1)], [], 0, 0, (mSH, I, L))) (s3 := (d + 6, 41, 12, [some (.ref 4), some (.int v1)], [], 0, 0, (mSH, I, L))) rfl (fun c2 => ?_) (fun c2 => ?_)
      · refine mB 1 (s2 := (d + 6, 41, 17, [some (.ref 4), some (.int v1)], [.int 0], 0, 0, (mSH, I, L))) rfl ?_
        refine mRt (r := (some (.int 0))) (h := (mSH, I, L)) rfl rfl ?_
        show mWP mTb_ mFT ro (d + 7, 86, 18, [some (.ref 0), some (.int v0), some (.int v1)], [.int 0], 0, 0, (mSH, I, L)) _
        refine mBT (s2 := (d + 7, 86, 21, [some (.ref 0), some (.int v0), some (.int v1)], [], 0, 0, (mSH, I, L))) rfl (by decide) ?_
        refine mB 2 (s2 := (d + 7, 86, 24, [some (.ref 0), some (.int v0), some (.int v1)], [.int (-2), .ref 0], 0, 0, (mSH, I, L))) rfl ?_
        refine mCall (s2 := (d + 6, 103, 0, [some (.ref 0), some (.int (-2))], [], 0, 0, (mSH, I, L))) rfl ?_
        refine mB 2 (s2 := (d + 6, 103, 3, [some (.ref 0), some (.int (-2))], [.int (-2), .int (-2)], 0, 0, (mSH, I, L))) rfl ?_
        refine mBT (s2 := (d + 6, 103, 6, [some (.ref 0), some (.int (-2))], [], 0, 0, (mSH, I, L))) rfl (by decide) ?_
        refine mB 8 (s2 := (d + 6, 103, 49, [some (.ref 0), some (.int (-2))], [.int (-2)], 0, 0, (mSH, (mUp I 0 9 ((I 0 9) + 1)), L))) rfl ?_
        refine mRt (r := (some (.int (-2)))) (h := (mSH, (mUp I 0 9 ((I 0 9) + 1)), L)) rfl (mRet_int rfl) ?_
        show mWP mTb_ mFT ro (d + 7, 86, 27, [some (.ref 0), some (.int v0), some (.int v1)], [.int (-2)], 0, 0, (mSH, (mUp I 0 9 ((I 0 9) + 1)), L)) _
        refine mRt (r := (some (.int (-2)))) (h := (mSH, (mUp I 0 9 ((I 0 9) + 1)), L)) rfl (mRet_int rfl) ?_
        exact hq _ _ (mFr.up (by rfl) mFr.rf) ⟨hI.1, hI.2.1, hI.2.2.1, hI.2.2.2.1, hI.2.2.2.2.1, hI.2.2.2.2.2.1, (mRk.up hI.2.2.2.2.2.2 (by rfl) (by rfl))⟩
      · refine mB 2 (s2 := (d + 6, 41, 17, [some (.ref 4), some (.int v1)], [.int 1], 0, 0, (mSH, I, L))) rfl ?_
        refine mRt (r := (some (.int 1))) (h := (mSH, I, L)) rfl rfl ?_
        show mWP mTb_ mFT ro (d + 7, 86, 18, [some (.ref 0), some (.int v0), some (.int v1)], [.int 1], 0, 0, (mSH, I, L)) _
        refine mBF (s3 := (d + 7, 86, 28, [some (.ref 0), some (.int v0), some (.int v1)], [], 0, 0, (mSH, I, L))) rfl (by decide) ?_
        refine mB 2 (s2 := (d + 7, 86, 30, [some (.ref 0), some (.int v0), some (.int v1)], [.int v0, .ref 0], 0, 0, (mSH, I, L))) rfl ?_
        refine mCall (s2 := (d + 6, 106, 0, [some (.ref 0), some (.int v0)], [], 0, 0, (mSH, I, L))) rfl ?_
        refine w_finds hI.1 hI.2.1 hI.2.2.1 hI.2.2.2.2.2.2 ?_ ?_
        · intro K1 hK1
          show mWP mTb_ mFT ro (d + 7, 86, 33, [some (.ref 0), some (.int v0), some (.int v1)], [.int 0], 0, 0, (mSH, (mMix mSX I K1), L)) _
          refine mBT (s2 := (d + 7, 86, 36, [some (.ref 0), some (.int v0), some (.int v1)], [], 0, 0, (mSH, (mMix mSX I K1), L))) rfl (by decide) ?_
          refine mB 2 (s2 := (d + 7, 86, 39, [some (.ref 0), some (.int v0), some (.int v1)], [.int (-3), .ref 0], 0, 0, (mSH, (mMix mSX I K1), L))) rfl ?_
          refine mCall (s2 := (d + 6, 103, 0, [some (.ref 0), some (.int (-3))], [], 0, 0, (mSH, (mMix mSX I K1), L))) rfl ?_
          refine mB 2 (s2 := (d + 6, 103, 3, [some (.ref 0), some (.int (-3))], [.int (-2), .int (-3)], 0, 0, (mSH, (mMix mSX I K1), L))) rfl ?_
          refine mBF (s3 := (d + 6, 103, 19, [some (.ref 0), some (.int (-3))], [], 0, 0, (mSH, (mMix mSX I K1), L))) rfl (by decide) ?_
          refine mB 2 (s2 := (d + 6, 103, 22, [some (.ref 0), some (.int (-3))], [.int (-3), .int (-3)], 0, 0, (mSH, (mMix mSX I K1), L))) rfl ?_
          refine mBT (s2 := (d + 6, 103, 25, [some (.ref 0), some (.int (-3))], [], 0, 0, (mSH, (mMix mSX I K1), L))) rfl (by decide) ?_
          refine mB 8 (s2 := (d + 6, 103, 49, [some (.ref 0), some (.int (-3))], [.int (-3)], 0, 0, (mSH, (mUp (mMix mSX I K1) 0 10 ((I 0 10) + 1)), L))) rfl ?_
          refine mRt (r := (some (.int (-3)))) (h := (mSH, (mUp (mMix mSX I K1) 0 10 ((I 0 10) + 1)), L)) rfl (mRet_int rfl) ?_
          show mWP mTb_ mFT ro (d + 7, 86, 42, [some (.ref 0), some (.int v0), some (.int v1)], [.int (-3)], 0, 0, (mSH, (mUp (mMix mSX I K1) 0 10 ((I 0 10) + 1)), L)) _
          refine mRt (r := (some (.int (-3)))) (h := (mSH, (mUp (mMix mSX I K1) 0 10 ((I 0 10) + 1)), L)) rfl (mRet_int rfl) ?_
          exact hq _ _ (mFr.up (by rfl) (mFr.mix (by decide) mFr.rf)) ⟨hI.1, hI.2.1, hK1.2, hI.2.2.2.1, hI.2.2.2.2.1, hI.2.2.2.2.2.1, (mRk.up hK1.1 (by rfl) (by rfl))⟩
        · intro K1 hK1
          show mWP mTb_ mFT ro (d + 7, 86, 33, [some (.ref 0), some (.int v0), some (.int v1)], [.int 1], 0, 0, (mSH, (mMix mSX I K1), L)) _
          refine mBF (s3 := (d + 7, 86, 43, [some (.ref 0), some (.int v0), some (.int v1)], [], 0, 0, (mSH, (mMix mSX I K1), L))) rfl (by decide) ?_
          refine mB 4 (s2 := (d + 7, 86, 51, [some (.ref 0), some (.int v0), some (.int v1)], [.int v1, .ref 23], 0, 0, (mSH, (mMix mSX I K1), L))) rfl ?_
          refine mCall (s2 := (d + 6, 42, 0, [some (.ref 23), some (.int v1)], [], 0, 0, (mSH, (mMix mSX I K1), L))) rfl ?_
          refine w_at_23 hK1.2 ?_
          show mWP mTb_ mFT ro (d + 7, 86, 54, [some (.ref 0), some (.int v0), some (.int v1)], [.int (mAt (mMix mSX I K1) 23 24 v1)], 0, 0, (mSH, (mMix mSX I K1), L)) _
          refine mRt (r := (some (.int (mAt (mMix mSX I K1) 23 24 v1)))) (h := (mSH, (mMix mSX I K1), L)) rfl (mRet_int rfl) ?_
          exact hq _ _ (mFr.mix (by decide) mFr.rf) ⟨hI.1, hI.2.1, hK1.2, hI.2.2.2.1, hI.2.2.2.2.1, hI.2.2.2.2.2.1, hK1.1⟩
  · refine mB 2 (s2 := (d + 6, 108, 6, [some (.int v0)], [.int 1, .int v0], 0, 0, (mSH, I, L))) rfl ?_
    refine mBr (s2 := (d + 6, 108, 9, [some (.int v0)], [], 0, 0, (mSH, I, L))) (s3 := (d + 6, 108, 13, [some (.int v0)], [], 0, 0, (mSH, I, L))) rfl (fun c1 => ?_) (fun c1 => ?_)
    · refine mB 2 (s2 := (d + 6, 108, 14, [some (.int v0)], [.int 1], 0, 0, (mSH, I, L))) rfl ?_
      refine mRt (r := (some (.int 1))) (h := (mSH, I, L)) rfl rfl ?_
      show mWP mTb_ mFT ro (d + 7, 86, 4, [some (.ref 0), some (.int v0), some (.int v1)], [.int 1], 0, 0, (mSH, I, L)) _
      refine mBF (s3 := (d + 7, 86, 7, [some (.ref 0), some (.int v0), some (.int v1)], [], 0, 0, (mSH, I, L))) rfl (by decide) ?_
      refine mB 4 (s2 := (d + 7, 86, 15, [some (.ref 0), some (.int v0), some (.int v1)], [.int v1, .ref 4], 0, 0, (mSH, I, L))) rfl ?_
      refine mCall (s2 := (d + 6, 41, 0, [some (.ref 4), some (.int v1)], [], 0, 0, (mSH, I, L))) rfl ?_
      refine mB 1 (s2 := (d + 6, 41, 1, [some (.ref 4), some (.int v1)], [.int v1], 0, 0, (mSH, I, L))) rfl ?_
      refine mBr (s2 := (d + 6, 41, 16, [some (.ref 4), some (.int v1)], [], 0, 0, (mSH, I, L))) (s3 := (d + 6, 41, 4, [some (.ref 4), some (.int v1)], [], 0, 0, (mSH, I, L))) rfl (fun c2 => ?_) (fun c2 => ?_)
      · refine mB 1 (s2 := (d + 6, 41, 17, [some (.ref 4), some (.int v1)], [.int 0], 0, 0, (mSH, I, L))) rfl ?_
        refine mRt (r := (some (.int 0))) (h := (mSH, I, L)) rfl rfl ?_
        show mWP mTb_ mFT ro (d + 7, 86, 18, [some (.ref 0), some (.int v0), some (.int v1)], [.int 0], 0, 0, (mSH, I, L)) _
        refine mBT (s2 := (d + 7, 86, 21, [some (.ref 0), some (.int v0), some (.int v1)], [], 0, 0, (mSH, I, L))) rfl (by decide) ?_
        refine mB 2 (s2 := (d + 7, 86, 24, [some (.ref 0), some (.int v0), some (.int v1)], [.int (-2), .ref 0], 0, 0, (mSH, I, L))) rfl ?_
        refine mCall (s2 := (d + 6, 103, 0, [some (.ref 0), some (.int (-2))], [], 0, 0, (mSH, I, L))) rfl ?_
        refine mB 2 (s2 := (d + 6, 103, 3, [some (.ref 0), some (.int (-2))], [.int (-2), .int (-2)], 0, 0, (mSH, I, L))) rfl ?_
        refine mBT (s2 := (d + 6, 103, 6, [some (.ref 0), some (.int (-2))], [], 0, 0, (mSH, I, L))) rfl (by decide) ?_
        refine mB 8 (s2 := (d + 6, 103, 49, [some (.ref 0), some (.int (-2))], [.int (-2)], 0, 0, (mSH, (mUp I 0 9 ((I 0 9) + 1)), L))) rfl ?_
        refine mRt (r := (some (.int (-2)))) (h := (mSH, (mUp I 0 9 ((I 0 9) + 1)), L)) rfl (mRet_int rfl) ?_
        show mWP mTb_ mFT ro (d + 7, 86, 27, [some (.ref 0), some (.int v0), some (.int v1)], [.int (-2)], 0, 0, (mSH, (mUp I 0 9 ((I 0 9) + 1)), L)) _
        refine mRt (r := (some (.int (-2)))) (h := (mSH, (mUp I 0 9 ((I 0 9) + 1)), L)) rfl (mRet_int rfl) ?_
        exact hq _ _ (mFr.up (by rfl) mFr.rf) ⟨hI.1, hI.2.1, hI.2.2.1, hI.2.2.2.1, hI.2.2.2.2.1, hI.2.2.2.2.2.1, (mRk.up hI.2.2.2.2.2.2 (by rfl) (by rfl))⟩
      · refine mB 3 (s2 := (d + 6, 41, 9, [some (.ref 4), some (.int v1)], [.int (I 4 1), .int v1], 0, 0, (mSH, I, L))) rfl ?_
        refine mBr (s2 := (d + 6, 41, 16, [some (.ref 4), some (.int v1)], [], 0, 0, (mSH, I, L))) (s3 := (d + 6, 41, 12, [some (.ref 4), some (.int v1)], [], 0, 0, (mSH, I, L))) rfl (fun c3 => ?_) (fun c3 => ?_)
        · refine mB 1 (s2 := (d + 6, 41, 17, [some (.ref 4), some (.int v1)], [.int 0], 0, 0, (mSH, I, L))) rfl ?_
          refine mRt (r := (some (.int 0))) (h := (mSH, I, L)) rfl rfl ?_
          show mWP mTb_ mFT ro (d + 7, 86, 18, [some (.ref 0), some (.int v0), some (.int v1)], [.int 0], 0, 0, (mSH, I, L)) _
          refine mBT (s2 := (d + 7, 86, 21, [some (.ref 0), some (.int v0), some (.int v1)], [], 0, 0, (mSH, I, L))) rfl (by decide) ?_
          refine mB 2 (s2 := (d + 7, 86, 24, [some (.ref 0), some (.int v0), some (.int v1)], [.int (-2), .ref 0], 0, 0, (mSH, I, L))) rfl ?_
          refine mCall (s2 := (d + 6, 103, 0, [some (.ref 0), some (.int (-2))], [], 0, 0, (mSH, I, L))) rfl ?_
          refine mB 2 (s2 := (d + 6, 103, 3, [some (.ref 0), some (.int (-2))], [.int (-2), .int (-2)], 0, 0, (mSH, I, L))) rfl ?_
          refine mBT (s2 := (d + 6, 103, 6, [some (.ref 0), some (.int (-2))], [], 0, 0, (mSH, I, L))) rfl (by decide) ?_
          refine mB 8 (s2 := (d + 6, 103, 49, [some (.ref 0), some (.int (-2))], [.int (-2)], 0, 0, (mSH, (mUp I 0 9 ((I 0 9) + 1)), L))) rfl ?_
          refine mRt (r := (some (.int (-2)))) (h := (mSH, (mUp I 0 9 ((I 0 9) + 1)), L)) rfl (mRet_int rfl) ?_
          show mWP mTb_ mFT ro (d + 7, 86, 27, [some (.ref 0), some (.int v0), some (.int v1)], [.int (-2)], 0, 0, (mSH, (mUp I 0 9 ((I 0 9) + 1)), L)) _
          refine mRt (r := (some (.int (-2)))) (h := (mSH, (mUp I 0 9 ((I 0 9) + 1)), L)) rfl (mRet_int rfl) ?_
          exact hq _ _ (mFr.up (by rfl) mFr.rf) ⟨hI.1, hI.2.1, hI.2.2.1, hI.2.2.2.1, hI.2.2.2.2.1, hI.2.2.2.2.2.1, (mRk.up hI.2.2.2.2.2.2 (by rfl) (by rfl))⟩
        · refine mB 2 (s2 := (d + 6, 41, 17, [some (.ref 4), some (.int v1)], [.int 1], 0, 0, (mSH, I, L))) rfl ?_
          refine mRt (r := (some (.int 1))) (h := (mSH, I, L)) rfl rfl ?_
          show mWP mTb_ mFT ro (d + 7, 86, 18, [some (.ref 0), some (.int v0), some (.int v1)], [.int 1], 0, 0, (mSH, I, L)) _
          refine mBF (s3 := (d + 7, 86, 28, [some (.ref 0), some (.int v0), some (.int v1)], [], 0, 0, (mSH, I, L))) rfl (by decide) ?_
          refine mB 2 (s2 := (d + 7, 86, 30, [some (.ref 0), some (.int v0), some (.int v1)], [.int v0, .ref 0], 0, 0, (mSH, I, L))) rfl ?_
          refine mCall (s2 := (d + 6, 106, 0, [some (.ref 0), some (.int v0)], [], 0, 0, (mSH, I, L))) rfl ?_
          refine w_finds hI.1 hI.2.1 hI.2.2.1 hI.2.2.2.2.2.2 ?_ ?_
          · intro K2 hK2
            show mWP mTb_ mFT ro (d + 7, 86, 33, [some (.ref 0), some (.int v0), some (.int v1)], [.int 0], 0, 0, (mSH, (mMix mSX I K2), L)) _
            refine mBT (s2 := (d + 7, 86, 36, [some (.ref 0), some (.int v0), some (.int v1)], [], 0, 0, (mSH, (mMix mSX I K2), L))) rfl (by decide) ?_
            refine mB 2 (s2 := (d + 7, 86, 39, [some (.ref 0), some (.int v0), some (.int v1)], [.int (-3), .ref 0], 0, 0, (mSH, (mMix mSX I K2), L))) rfl ?_
            refine mCall (s2 := (d + 6, 103, 0, [some (.ref 0), some (.int (-3))], [], 0, 0, (mSH, (mMix mSX I K2), L))) rfl ?_
            refine mB 2 (s2 := (d + 6, 103, 3, [some (.ref 0), some (.int (-3))], [.int (-2), .int (-3)], 0, 0, (mSH, (mMix mSX I K2), L))) rfl ?_
            refine mBF (s3 := (d + 6, 103, 19, [some (.ref 0), some (.int (-3))], [], 0, 0, (mSH, (mMix mSX I K2), L))) rfl (by decide) ?_
            refine mB 2 (s2 := (d + 6, 103, 22, [some (.ref 0), some (.int (-3))], [.int (-3), .int (-3)], 0, 0, (mSH, (mMix mSX I K2), L))) rfl ?_
            refine mBT (s2 := (d + 6, 103, 25, [some (.ref 0), some (.int (-3))], [], 0, 0, (mSH, (mMix mSX I K2), L))) rfl (by decide) ?_
            refine mB 8 (s2 := (d + 6, 103, 49, [some (.ref 0), some (.int (-3))], [.int (-3)], 0, 0, (mSH, (mUp (mMix mSX I K2) 0 10 ((I 0 10) + 1)), L))) rfl ?_
            refine mRt (r := (some (.int (-3)))) (h := (mSH, (mUp (mMix mSX I K2) 0 10 ((I 0 10) + 1)), L)) rfl (mRet_int rfl) ?_
            show mWP mTb_ mFT ro (d + 7, 86, 42, [some (.ref 0), some (.int v0), some (.int v1)], [.int (-3)], 0, 0, (mSH, (mUp (mMix mSX I K2) 0 10 ((I 0 10) + 1)), L)) _
            refine mRt (r := (some (.int (-3)))) (h := (mSH, (mUp (mMix mSX I K2) 0 10 ((I 0 10) + 1)), L)) rfl (mRet_int rfl) ?_
            exact hq _ _ (mFr.up (by rfl) (mFr.mix (by decide) mFr.rf)) ⟨hI.1, hI.2.1, hK2.2, hI.2.2.2.1, hI.2.2.2.2.1, hI.2.2.2.2.2.1, (mRk.up hK2.1 (by rfl) (by rfl))⟩
          · intro K2 hK2
            show mWP mTb_ mFT ro (d + 7, 86, 33, [some (.ref 0), some (.int v0), some (.int v1)], [.int 1], 0, 0, (mSH, (mMix mSX I K2), L)) _
            refine mBF (s3 := (d + 7, 86, 43, [some (.ref 0), some (.int v0), some (.int v1)], [], 0, 0, (mSH, (mMix mSX I K2), L))) rfl (by decide) ?_
            refine mB 4 (s2 := (d + 7, 86, 51, [some (.ref 0), some (.int v0), some (.int v1)], [.int v1, .ref 23], 0, 0, (mSH, (mMix mSX I K2), L))) rfl ?_
            refine mCall (s2 := (d + 6, 42, 0, [some (.ref 23), some (.int v1)], [], 0, 0, (mSH, (mMix mSX I K2), L))) rfl ?_
            refine w_at_23 hK2.2 ?_
            show mWP mTb_ mFT ro (d + 7, 86, 54, [some (.ref 0), some (.int v0), some (.int v1)], [.int (mAt (mMix mSX I K2) 23 24 v1)], 0, 0, (mSH, (mMix mSX I K2), L)) _
            refine mRt (r := (some (.int (mAt (mMix mSX I K2) 23 24 v1)))) (h := (mSH, (mMix mSX I K2), L)) rfl (mRet_int rfl) ?_
            exact hq _ _ (mFr.mix (by decide) mFr.rf) ⟨hI.1, hI.2.1, hK2.2, hI.2.2.2.1, hI.2.2.2.2.1, hI.2.2.2.2.2.1, hK2.1⟩
    · refine mB 1 (s2 := (d + 6, 108, 14, [some (.int v0)], [.int 0], 0, 0, (mSH, I, L))) rfl ?_
      refine mRt (r := (some (.int 0))) (h := (mSH, I, L)) rfl rfl ?_
      show mWP mTb_ mFT ro (d + 7, 86, 4, [some (.ref 0), some (.int v0), some (.int v1)], [.int 0], 0, 0, (mSH, I, L)) _
      refine mBT (s2 := (d + 7, 86, 21, [some (.ref 0), some (.int v0), some (.int v1)], [], 0, 0, (mSH, I, L))) rfl (by decide) ?_
      refine mB 2 (s2 := (d + 7, 86, 24, [some (.ref 0), some (.int v0), some (.int v1)], [.int (-2), .ref 0], 0, 0, (mSH, I, L))) rfl ?_
      refine mCall (s2 := (d + 6, 103, 0, [some (.ref 0), some (.int (-2))], [], 0, 0, (mSH, I, L))) rfl ?_
      refine mB 2 (s2 := (d + 6, 103, 3, [some (.ref 0), some (.int (-2))], [.int (-2), .int (-2)], 0, 0, (mSH, I, L))) rfl ?_
      refine mBT (s2 := (d + 6, 103, 6, [some (.ref 0), some (.int (-2))], [], 0, 0, (mSH, I, L))) rfl (by decide) ?_
      refine mB 8 (s2 := (d + 6, 103, 49, [some (.ref 0), some (.int (-2))], [.int (-2)], 0, 0, (mSH, (mUp I 0 9 ((I 0 9) + 1)), L))) rfl ?_
      refine mRt (r := (some (.int (-2)))) (h := (mSH, (mUp I 0 9 ((I 0 9) + 1)), L)) rfl (mRet_int rfl) ?_
      show mWP mTb_ mFT ro (d + 7, 86, 27, [some (.ref 0), some (.int v0), some (.int v1)], [.int (-2)], 0, 0, (mSH, (mUp I 0 9 ((I 0 9) + 1)), L)) _
      refine mRt (r := (some (.int (-2)))) (h := (mSH, (mUp I 0 9 ((I 0 9) + 1)), L)) rfl (mRet_int rfl) ?_
      exact hq _ _ (mFr.up (by rfl) mFr.rf) ⟨hI.1, hI.2.1, hI.2.2.1, hI.2.2.2.1, hI.2.2.2.2.1, hI.2.2.2.2.2.1, (mRk.up hI.2.2.2.2.2.2 (by rfl) (by rfl))⟩
theorem u_many {ro : Nat → Nat × (Nat → Int32)} {Q : mPo} {d : Nat} {I : Nat → Nat → Int32} {L : Nat → Nat → Int64} (hI : mIC I) (hq : ∀ r I1, mFr mSQ I I1 → mIC I1 → Q (some (.int r)) (mSH, I1, L))   : mWP mTb_ mFT ro (d + 7, 87, 0, [some (.ref 0)], [], 0, 0, (mSH, I, L)) Q := by
  refine mB 1 (s2 := (d + 7, 87, 1, [some (.ref 0)], [.ref 0], 0, 0, (mSH, I, L))) rfl ?_
  refine mCall (s2 := (d + 6, 105, 0, [some (.ref 0)], [], 0, 0, (mSH, I, L))) rfl ?_
  refine mB 7 (s2 := (d + 6, 105, 13, [some (.ref 0)], [.int 0, .ref 8, .ref 6, .ref 10], 0, 0, (mSH, I, L))) rfl ?_
  refine mCall (s2 := (d + 5, 10, 0, [some (.ref 8), some (.int 0)], [], 0, 0, (mSH, I, L))) rfl ?_
  refine mB 2 (s2 := (d + 5, 10, 2, [some (.ref 8), some (.int 0)], [.int 0, .ref 8], 0, 0, (mSH, I, L))) rfl ?_
  refine mCall (s2 := (d + 4, 8, 0, [some (.ref 8), some (.int 0)], [], 0, 0, (mSH, I, L))) rfl ?_
  refine mB 1 (s2 := (d + 4, 8, 1, [some (.ref 8), some (.int 0)], [.int 0], 0, 0, (mSH, I, L))) rfl ?_
  refine mBF (s3 := (d + 4, 8, 4, [some (.ref 8), some (.int 0)], [], 0, 0, (mSH, I, L))) rfl (by decide) ?_
  refine mB 4 (s2 := (d + 4, 8, 10, [some (.ref 8), some (.int 0)], [.int 3, .int 0], 0, 0, (mSH, I, L))) rfl ?_
  refine mBF (s3 := (d + 4, 8, 13, [some (.ref 8), some (.int 0)], [], 0, 0, (mSH, I, L))) rfl (by decide) ?_
  refine mB 2 (s2 := (d + 4, 8, 18, [some (.ref 8), some (.int 0)], [.int 1], 0, 0, (mSH, I, L))) rfl ?_
  refine mRt (r := (some (.int 1))) (h := (mSH, I, L)) rfl rfl ?_
  show mWP mTb_ mFT ro (d + 5, 10, 5, [some (.ref 8), some (.int 0)], [.int 1], 0, 0, (mSH, I, L)) _
  refine mBF (s3 := (d + 5, 10, 8, [some (.ref 8), some (.int 0)], [], 0, 0, (mSH, I, L))) rfl (by decide) ?_
  refine mB 3 (s2 := (d + 5, 10, 13, [some (.ref 8), some (.int 0)], [.int 0, .ref 9], 0, 0, (mSH, I, L))) rfl ?_
  refine mRq (s2 := (d + 5, 10, 14, [some (.ref 8), some (.int 0)], [.int (I 9 0)], 0, 0, (mSH, I, L))) rfl (by decide) ?_
  refine mB 1 (s2 := (d + 5, 10, 18, [some (.ref 8), some (.int 0)], [.int (I 9 0)], 0, 0, (mSH, I, L))) rfl ?_
  refine mRt (r := (some (.int (I 9 0)))) (h := (mSH, I, L)) rfl (mRet_int rfl) ?_
  show mWP mTb_ mFT ro (d + 6, 105, 16, [some (.ref 0)], [.int (I 9 0), .ref 6, .ref 10], 0, 0, (mSH, I, L)) _
  refine mCall (s2 := (d + 5, 52, 0, [some (.ref 10), some (.ref 6), some (.int (I 9 0)), none, none, none], [], 0, 0, (mSH, I, L))) rfl ?_
  refine w_fill_L6 hI.1 hI.2.1 hI.2.2.2.2.2.2 (fun K1 hK1 => ?_)
  show mWP mTb_ mFT ro (d + 6, 105, 19, [some (.ref 0)], [], 0, 0, (mSH, (mMix mSS I K1), L)) _
  refine mRt (r := none) (h := (mSH, (mMix mSS I K1), L)) rfl rfl ?_
  show mWP mTb_ mFT ro (d + 7, 87, 4, [some (.ref 0)], [], 0, 0, (mSH, (mMix mSS I K1), L)) _
  refine mB 3 (s2 := (d + 7, 87, 10, [some (.ref 0)], [.ref 10, .int 1000000000], 0, 0, (mSH, (mMix mSS I K1), L))) rfl ?_
  refine mCall (s2 := (d + 6, 63, 0, [some (.ref 10)], [], 0, 0, (mSH, (mMix mSS I K1), L))) rfl ?_
  refine mB 3 (s2 := (d + 6, 63, 7, [some (.ref 10)], [.int 153, .ref 20], 0, 0, (mSH, (mMix mSS I K1), L))) rfl ?_
  refine mRq (s2 := (d + 6, 63, 8, [some (.ref 10)], [.int (K1 20 153)], 0, 0, (mSH, (mMix mSS I K1), L))) rfl (by decide) ?_
  refine mRt (r := (some (.int (K1 20 153)))) (h := (mSH, (mMix mSS I K1), L)) rfl (mRet_int rfl) ?_
  show mWP mTb_ mFT ro (d + 7, 87, 13, [some (.ref 0)], [.int (K1 20 153), .int 1000000000], 0, 0, (mSH, (mMix mSS I K1), L)) _
  refine mB 1 (s2 := (d + 7, 87, 16, [some (.ref 0)], [.int (if (K1 20 153) < 1000000000 then (K1 20 153) else 1000000000)], 0, 0, (mSH, (mMix mSS I K1), L))) rfl ?_
  refine mRt (r := (some (.int (if (K1 20 153) < 1000000000 then (K1 20 153) else 1000000000)))) (h := (mSH, (mMix mSS I K1), L)) rfl (mRet_int rfl) ?_
  exact hq _ _ (mFr.mix (by decide) mFr.rf) ⟨hI.1, hI.2.1, hI.2.2.1, hI.2.2.2.1, hI.2.2.2.2.1, hI.2.2.2.2.2.1, hK1⟩
theorem u_alike {ro : Nat → Nat × (Nat → Int32)} {Q : mPo} {d : Nat} {I : Nat → Nat → Int32} {L : Nat → Nat → Int64} (hI : mIC I) (hq : ∀ r I1, mFr mSQ I I1 → mIC I1 → Q (some (.int r)) (mSH, I1, L))   : mWP mTb_ mFT ro (d + 7, 88, 0, [some (.ref 0)], [], 0, 0, (mSH, I, L)) Q := by
  refine mB 1 (s2 := (d + 7, 88, 1, [some (.ref 0)], [.ref 0], 0, 0, (mSH, I, L))) rfl ?_
  refine mCall (s2 := (d + 6, 105, 0, [some (.ref 0)], [], 0, 0, (mSH, I, L))) rfl ?_
  refine mB 7 (s2 := (d + 6, 105, 13, [some (.ref 0)], [.int 0, .ref 8, .ref 6, .ref 10], 0, 0, (mSH, I, L))) rfl ?_
  refine mCall (s2 := (d + 5, 10, 0, [some (.ref 8), some (.int 0)], [], 0, 0, (mSH, I, L))) rfl ?_
  refine mB 2 (s2 := (d + 5, 10, 2, [some (.ref 8), some (.int 0)], [.int 0, .ref 8], 0, 0, (mSH, I, L))) rfl ?_
  refine mCall (s2 := (d + 4, 8, 0, [some (.ref 8), some (.int 0)], [], 0, 0, (mSH, I, L))) rfl ?_
  refine mB 1 (s2 := (d + 4, 8, 1, [some (.ref 8), some (.int 0)], [.int 0], 0, 0, (mSH, I, L))) rfl ?_
  refine mBF (s3 := (d + 4, 8, 4, [some (.ref 8), some (.int 0)], [], 0, 0, (mSH, I, L))) rfl (by decide) ?_
  refine mB 4 (s2 := (d + 4, 8, 10, [some (.ref 8), some (.int 0)], [.int 3, .int 0], 0, 0, (mSH, I, L))) rfl ?_
  refine mBF (s3 := (d + 4, 8, 13, [some (.ref 8), some (.int 0)], [], 0, 0, (mSH, I, L))) rfl (by decide) ?_
  refine mB 2 (s2 := (d + 4, 8, 18, [some (.ref 8), some (.int 0)], [.int 1], 0, 0, (mSH, I, L))) rfl ?_
  refine mRt (r := (some (.int 1))) (h := (mSH, I, L)) rfl rfl ?_
  show mWP mTb_ mFT ro (d + 5, 10, 5, [some (.ref 8), some (.int 0)], [.int 1], 0, 0, (mSH, I, L)) _
  refine mBF (s3 := (d + 5, 10, 8, [some (.ref 8), some (.int 0)], [], 0, 0, (mSH, I, L))) rfl (by decide) ?_
  refine mB 3 (s2 := (d + 5, 10, 13, [some (.ref 8), some (.int 0)], [.int 0, .ref 9], 0, 0, (mSH, I, L))) rfl ?_
  refine mRq (s2 := (d + 5, 10, 14, [some (.ref 8), some (.int 0)], [.int (I 9 0)], 0, 0, (mSH, I, L))) rfl (by decide) ?_
  refine mB 1 (s2 := (d + 5, 10, 18, [some (.ref 8), some (.int 0)], [.int (I 9 0)], 0, 0, (mSH, I, L))) rfl ?_
  refine mRt (r := (some (.int (I 9 0)))) (h := (mSH, I, L)) rfl (mRet_int rfl) ?_
  show mWP mTb_ mFT ro (d + 6, 105, 16, [some (.ref 0)], [.int (I 9 0), .ref 6, .ref 10], 0, 0, (mSH, I, L)) _
  refine mCall (s2 := (d + 5, 52, 0, [some (.ref 10), some (.ref 6), some (.int (I 9 0)), none, none, none], [], 0, 0, (mSH, I, L))) rfl ?_
  refine w_fill_L6 hI.1 hI.2.1 hI.2.2.2.2.2.2 (fun K1 hK1 => ?_)
  show mWP mTb_ mFT ro (d + 6, 105, 19, [some (.ref 0)], [], 0, 0, (mSH, (mMix mSS I K1), L)) _
  refine mRt (r := none) (h := (mSH, (mMix mSS I K1), L)) rfl rfl ?_
  show mWP mTb_ mFT ro (d + 7, 88, 4, [some (.ref 0)], [], 0, 0, (mSH, (mMix mSS I K1), L)) _
  refine mB 2 (s2 := (d + 7, 88, 8, [some (.ref 0)], [.ref 10], 0, 0, (mSH, (mMix mSS I K1), L))) rfl ?_
  refine mCall (s2 := (d + 6, 61, 0, [some (.ref 10)], [], 0, 0, (mSH, (mMix mSS I K1), L))) rfl ?_
  refine mB 2 (s2 := (d + 6, 61, 4, [some (.ref 10)], [.int 153, .ref 10], 0, 0, (mSH, (mMix mSS I K1), L))) rfl ?_
  refine mCall (s2 := (d + 5, 60, 0, [some (.ref 10), some (.int 153)], [], 0, 0, (mSH, (mMix mSS I K1), L))) rfl ?_
  refine mB 3 (s2 := (d + 5, 60, 5, [some (.ref 10), some (.int 153)], [.int 0, .ref 11], 0, 0, (mSH, (mMix mSS I K1), L))) rfl ?_
  refine mRq (s2 := (d + 5, 60, 6, [some (.ref 10), some (.int 153)], [.ref 12], 0, 0, (mSH, (mMix mSS I K1), L))) rfl (by decide) ?_
  refine mB 1 (s2 := (d + 5, 60, 7, [some (.ref 10), some (.int 153)], [.int 153, .ref 12], 0, 0, (mSH, (mMix mSS I K1), L))) rfl ?_
  refine mRq (s2 := (d + 5, 60, 8, [some (.ref 10), some (.int 153)], [.int (K1 12 153)], 0, 0, (mSH, (mMix mSS I K1), L))) rfl (by decide) ?_
  refine mB 1 (s2 := (d + 5, 60, 10, [some (.ref 10), some (.int 153)], [.int 1000000000, .int (K1 12 153)], 0, 0, (mSH, (mMix mSS I K1), L))) rfl ?_
  refine mBr (s2 := (d + 5, 60, 13, [some (.ref 10), some (.int 153)], [], 0, 0, (mSH, (mMix mSS I K1), L))) (s3 := (d + 5, 60, 17, [some (.ref 10), some (.int 153)], [], 0, 0, (mSH, (mMix mSS I K1), L))) rfl (fun c2 => ?_) (fun c2 => ?_)
  · refine mB 2 (s2 := (d + 5, 60, 25, [some (.ref 10), some (.int 153)], [.int (-1)], 0, 0, (mSH, (mMix mSS I K1), L))) rfl ?_
    refine mRt (r := (some (.int (-1)))) (h := (mSH, (mMix mSS I K1), L)) rfl (mRet_int rfl) ?_
    show mWP mTb_ mFT ro (d + 6, 61, 7, [some (.ref 10)], [.int (-1)], 0, 0, (mSH, (mMix mSS I K1), L)) _
    refine mRt (r := (some (.int (-1)))) (h := (mSH, (mMix mSS I K1), L)) rfl (mRet_int rfl) ?_
    show mWP mTb_ mFT ro (d + 7, 88, 11, [some (.ref 0)], [.int (-1)], 0, 0, (mSH, (mMix mSS I K1), L)) _
    refine mB 1 (s2 := (d + 7, 88, 12, [some (.ref 0)], [.int (-1), .int (-1)], 0, 0, (mSH, (mMix mSS I K1), L))) rfl ?_
    refine mBT (s2 := (d + 7, 88, 15, [some (.ref 0)], [], 0, 0, (mSH, (mMix mSS I K1), L))) rfl (by decide) ?_
    refine mB 2 (s2 := (d + 7, 88, 18, [some (.ref 0)], [.int (-3), .ref 0], 0, 0, (mSH, (mMix mSS I K1), L))) rfl ?_
    refine mCall (s2 := (d + 6, 103, 0, [some (.ref 0), some (.int (-3))], [], 0, 0, (mSH, (mMix mSS I K1), L))) rfl ?_
    refine mB 2 (s2 := (d + 6, 103, 3, [some (.ref 0), some (.int (-3))], [.int (-2), .int (-3)], 0, 0, (mSH, (mMix mSS I K1), L))) rfl ?_
    refine mBF (s3 := (d + 6, 103, 19, [some (.ref 0), some (.int (-3))], [], 0, 0, (mSH, (mMix mSS I K1), L))) rfl (by decide) ?_
    refine mB 2 (s2 := (d + 6, 103, 22, [some (.ref 0), some (.int (-3))], [.int (-3), .int (-3)], 0, 0, (mSH, (mMix mSS I K1), L))) rfl ?_
    refine mBT (s2 := (d + 6, 103, 25, [some (.ref 0), some (.int (-3))], [], 0, 0, (mSH, (mMix mSS I K1), L))) rfl (by decide) ?_
    refine mB 8 (s2 := (d + 6, 103, 49, [some (.ref 0), some (.int (-3))], [.int (-3)], 0, 0, (mSH, (mUp (mMix mSS I K1) 0 10 ((I 0 10) + 1)), L))) rfl ?_
    refine mRt (r := (some (.int (-3)))) (h := (mSH, (mUp (mMix mSS I K1) 0 10 ((I 0 10) + 1)), L)) rfl (mRet_int rfl) ?_
    show mWP mTb_ mFT ro (d + 7, 88, 21, [some (.ref 0)], [.int (-3)], 0, 0, (mSH, (mUp (mMix mSS I K1) 0 10 ((I 0 10) + 1)), L)) _
    refine mRt (r := (some (.int (-3)))) (h := (mSH, (mUp (mMix mSS I K1) 0 10 ((I 0 10) + 1)), L)) rfl (mRet_int rfl) ?_
    exact hq _ _ (mFr.up (by rfl) (mFr.mix (by decide) mFr.rf)) ⟨hI.1, hI.2.1, hI.2.2.1, hI.2.2.2.1, hI.2.2.2.2.1, hI.2.2.2.2.2.1, (mRk.up hK1 (by rfl) (by rfl))⟩
  · refine mB 3 (s2 := (d + 5, 60, 22, [some (.ref 10), some (.int 153)], [.int 0, .ref 11], 0, 0, (mSH, (mMix mSS I K1), L))) rfl ?_
    refine mRq (s2 := (d + 5, 60, 23, [some (.ref 10), some (.int 153)], [.ref 12], 0, 0, (mSH, (mMix mSS I K1), L))) rfl (by decide) ?_
    refine mB 1 (s2 := (d + 5, 60, 24, [some (.ref 10), some (.int 153)], [.int 153, .ref 12], 0, 0, (mSH, (mMix mSS I K1), L))) rfl ?_
    refine mRq (s2 := (d + 5, 60, 25, [some (.ref 10), some (.int 153)], [.int (K1 12 153)], 0, 0, (mSH, (mMix mSS I K1), L))) rfl (by decide) ?_
    refine mRt (r := (some (.int (K1 12 153)))) (h := (mSH, (mMix mSS I K1), L)) rfl (mRet_int rfl) ?_
    show mWP mTb_ mFT ro (d + 6, 61, 7, [some (.ref 10)], [.int (K1 12 153)], 0, 0, (mSH, (mMix mSS I K1), L)) _
    refine mRt (r := (some (.int (K1 12 153)))) (h := (mSH, (mMix mSS I K1), L)) rfl (mRet_int rfl) ?_
    show mWP mTb_ mFT ro (d + 7, 88, 11, [some (.ref 0)], [.int (K1 12 153)], 0, 0, (mSH, (mMix mSS I K1), L)) _
    refine mB 1 (s2 := (d + 7, 88, 12, [some (.ref 0)], [.int (-1), .int (K1 12 153)], 0, 0, (mSH, (mMix mSS I K1), L))) rfl ?_
    refine mBr (s2 := (d + 7, 88, 15, [some (.ref 0)], [], 0, 0, (mSH, (mMix mSS I K1), L))) (s3 := (d + 7, 88, 22, [some (.ref 0)], [], 0, 0, (mSH, (mMix mSS I K1), L))) rfl (fun c3 => ?_) (fun c3 => ?_)
    · refine mB 2 (s2 := (d + 7, 88, 18, [some (.ref 0)], [.int (-3), .ref 0], 0, 0, (mSH, (mMix mSS I K1), L))) rfl ?_
      refine mCall (s2 := (d + 6, 103, 0, [some (.ref 0), some (.int (-3))], [], 0, 0, (mSH, (mMix mSS I K1), L))) rfl ?_
      refine mB 2 (s2 := (d + 6, 103, 3, [some (.ref 0), some (.int (-3))], [.int (-2), .int (-3)], 0, 0, (mSH, (mMix mSS I K1), L))) rfl ?_
      refine mBF (s3 := (d + 6, 103, 19, [some (.ref 0), some (.int (-3))], [], 0, 0, (mSH, (mMix mSS I K1), L))) rfl (by decide) ?_
      refine mB 2 (s2 := (d + 6, 103, 22, [some (.ref 0), some (.int (-3))], [.int (-3), .int (-3)], 0, 0, (mSH, (mMix mSS I K1), L))) rfl ?_
      refine mBT (s2 := (d + 6, 103, 25, [some (.ref 0), some (.int (-3))], [], 0, 0, (mSH, (mMix mSS I K1), L))) rfl (by decide) ?_
      refine mB 8 (s2 := (d + 6, 103, 49, [some (.ref 0), some (.int (-3))], [.int (-3)], 0, 0, (mSH, (mUp (mMix mSS I K1) 0 10 ((I 0 10) + 1)), L))) rfl ?_
      refine mRt (r := (some (.int (-3)))) (h := (mSH, (mUp (mMix mSS I K1) 0 10 ((I 0 10) + 1)), L)) rfl (mRet_int rfl) ?_
      show mWP mTb_ mFT ro (d + 7, 88, 21, [some (.ref 0)], [.int (-3)], 0, 0, (mSH, (mUp (mMix mSS I K1) 0 10 ((I 0 10) + 1)), L)) _
      refine mRt (r := (some (.int (-3)))) (h := (mSH, (mUp (mMix mSS I K1) 0 10 ((I 0 10) + 1)), L)) rfl (mRet_int rfl) ?_
      exact hq _ _ (mFr.up (by rfl) (mFr.mix (by decide) mFr.rf)) ⟨hI.1, hI.2.1, hI.2.2.1, hI.2.2.2.1, hI.2.2.2.2.1, hI.2.2.2.2.2.1, (mRk.up hK1 (by rfl) (by rfl))⟩
    · refine mB 3 (s2 := (d + 7, 88, 28, [some (.ref 0)], [.ref 10, .int 1000000000], 0, 0, (mSH, (mMix mSS I K1), L))) rfl ?_
      refine mCall (s2 := (d + 6, 64, 0, [some (.ref 10)], [], 0, 0, (mSH, (mMix mSS I K1), L))) rfl ?_
      refine mB 3 (s2 := (d + 6, 64, 7, [some (.ref 10)], [.int 153, .ref 21], 0, 0, (mSH, (mMix mSS I K1), L))) rfl ?_
      refine mRq (s2 := (d + 6, 64, 8, [some (.ref 10)], [.int (K1 21 153)], 0, 0, (mSH, (mMix mSS I K1), L))) rfl (by decide) ?_
      refine mRt (r := (some (.int (K1 21 153)))) (h := (mSH, (mMix mSS I K1), L)) rfl (mRet_int rfl) ?_
      show mWP mTb_ mFT ro (d + 7, 88, 31, [some (.ref 0)], [.int (K1 21 153), .int 1000000000], 0, 0, (mSH, (mMix mSS I K1), L)) _
      refine mB 1 (s2 := (d + 7, 88, 34, [some (.ref 0)], [.int (if (K1 21 153) < 1000000000 then (K1 21 153) else 1000000000)], 0, 0, (mSH, (mMix mSS I K1), L))) rfl ?_
      refine mRt (r := (some (.int (if (K1 21 153) < 1000000000 then (K1 21 153) else 1000000000)))) (h := (mSH, (mMix mSS I K1), L)) rfl (mRet_int rfl) ?_
      exact hq _ _ (mFr.mix (by decide) mFr.rf) ⟨hI.1, hI.2.1, hI.2.2.1, hI.2.2.2.1, hI.2.2.2.2.1, hI.2.2.2.2.2.1, hK1⟩
theorem u_from {ro : Nat → Nat × (Nat → Int32)} {Q : mPo} {d : Nat} {I : Nat → Nat → Int32} {L : Nat → Nat → Int64} {v0 : Int32} (hI : mIC I) (hq : ∀ r I1, mFr mSQ I I1 → mIC I1 → Q (some (.int r)) (mSH, I1, L))   : mWP mTb_ mFT ro (d + 7, 90, 0, [some (.ref 0), some (.int v0)], [], 0, 0, (mSH, I, L)) Q := by
  refine mB 4 (s2 := (d + 7, 90, 8, [some (.ref 0), some (.int v0)], [.int v0, .ref 2], 0, 0, (mSH, I, L))) rfl ?_
  refine mCall (s2 := (d + 6, 41, 0, [some (.ref 2), some (.int v0)], [], 0, 0, (mSH, I, L))) rfl ?_
  refine mB 1 (s2 := (d + 6, 41, 1, [some (.ref 2), some (.int v0)], [.int v0], 0, 0, (mSH, I, L))) rfl ?_
  refine mBr (s2 := (d + 6, 41, 16, [some (.ref 2), some (.int v0)], [], 0, 0, (mSH, I, L))) (s3 := (d + 6, 41, 4, [some (.ref 2), some (.int v0)], [], 0, 0, (mSH, I, L))) rfl (fun c0 => ?_) (fun c0 => ?_)
  · refine mB 1 (s2 := (d + 6, 41, 17, [some (.ref 2), some (.int v0)], [.int 0], 0, 0, (mSH, I, L))) rfl ?_
    refine mRt (r := (some (.int 0))) (h := (mSH, I, L)) rfl rfl ?_
    show mWP mTb_ mFT ro (d + 7, 90, 11, [some (.ref 0), some (.int v0)], [.int 0], 0, 0, (mSH, I, L)) _
    refine mBT (s2 := (d + 7, 90, 14, [some (.ref 0), some (.int v0)], [], 0, 0, (mSH, I, L))) rfl (by decide) ?_
    refine mB 2 (s2 := (d + 7, 90, 17, [some (.ref 0), some (.int v0)], [.int (-2), .ref 0], 0, 0, (mSH, I, L))) rfl ?_
    refine mCall (s2 := (d + 6, 103, 0, [some (.ref 0), some (.int (-2))], [], 0, 0, (mSH, I, L))) rfl ?_
    refine mB 2 (s2 := (d + 6, 103, 3, [some (.ref 0), some (.int (-2))], [.int (-2), .int (-2)], 0, 0, (mSH, I, L))) rfl ?_
    refine mBT (s2 := (d + 6, 103, 6, [some (.ref 0), some (.int (-2))], [], 0, 0, (mSH, I, L))) rfl (by decide) ?_
    refine mB 8 (s2 := (d + 6, 103, 49, [some (.ref 0), some (.int (-2))], [.int (-2)], 0, 0, (mSH, (mUp I 0 9 ((I 0 9) + 1)), L))) rfl ?_
    refine mRt (r := (some (.int (-2)))) (h := (mSH, (mUp I 0 9 ((I 0 9) + 1)), L)) rfl (mRet_int rfl) ?_
    show mWP mTb_ mFT ro (d + 7, 90, 20, [some (.ref 0), some (.int v0)], [.int (-2)], 0, 0, (mSH, (mUp I 0 9 ((I 0 9) + 1)), L)) _
    refine mRt (r := (some (.int (-2)))) (h := (mSH, (mUp I 0 9 ((I 0 9) + 1)), L)) rfl (mRet_int rfl) ?_
    exact hq _ _ (mFr.up (by rfl) mFr.rf) ⟨hI.1, hI.2.1, hI.2.2.1, hI.2.2.2.1, hI.2.2.2.2.1, hI.2.2.2.2.2.1, (mRk.up hI.2.2.2.2.2.2 (by rfl) (by rfl))⟩
  · refine mB 3 (s2 := (d + 6, 41, 9, [some (.ref 2), some (.int v0)], [.int (I 2 1), .int v0], 0, 0, (mSH, I, L))) rfl ?_
    refine mBr (s2 := (d + 6, 41, 16, [some (.ref 2), some (.int v0)], [], 0, 0, (mSH, I, L))) (s3 := (d + 6, 41, 12, [some (.ref 2), some (.int v0)], [], 0, 0, (mSH, I, L))) rfl (fun c1 => ?_) (fun c1 => ?_)
    · refine mB 1 (s2 := (d + 6, 41, 17, [some (.ref 2), some (.int v0)], [.int 0], 0, 0, (mSH, I, L))) rfl ?_
      refine mRt (r := (some (.int 0))) (h := (mSH, I, L)) rfl rfl ?_
      show mWP mTb_ mFT ro (d + 7, 90, 11, [some (.ref 0), some (.int v0)], [.int 0], 0, 0, (mSH, I, L)) _
      refine mBT (s2 := (d + 7, 90, 14, [some (.ref 0), some (.int v0)], [], 0, 0, (mSH, I, L))) rfl (by decide) ?_
      refine mB 2 (s2 := (d + 7, 90, 17, [some (.ref 0), some (.int v0)], [.int (-2), .ref 0], 0, 0, (mSH, I, L))) rfl ?_
      refine mCall (s2 := (d + 6, 103, 0, [some (.ref 0), some (.int (-2))], [], 0, 0, (mSH, I, L))) rfl ?_
      refine mB 2 (s2 := (d + 6, 103, 3, [some (.ref 0), some (.int (-2))], [.int (-2), .int (-2)], 0, 0, (mSH, I, L))) rfl ?_
      refine mBT (s2 := (d + 6, 103, 6, [some (.ref 0), some (.int (-2))], [], 0, 0, (mSH, I, L))) rfl (by decide) ?_
      refine mB 8 (s2 := (d + 6, 103, 49, [some (.ref 0), some (.int (-2))], [.int (-2)], 0, 0, (mSH, (mUp I 0 9 ((I 0 9) + 1)), L))) rfl ?_
      refine mRt (r := (some (.int (-2)))) (h := (mSH, (mUp I 0 9 ((I 0 9) + 1)), L)) rfl (mRet_int rfl) ?_
      show mWP mTb_ mFT ro (d + 7, 90, 20, [some (.ref 0), some (.int v0)], [.int (-2)], 0, 0, (mSH, (mUp I 0 9 ((I 0 9) + 1)), L)) _
      refine mRt (r := (some (.int (-2)))) (h := (mSH, (mUp I 0 9 ((I 0 9) + 1)), L)) rfl (mRet_int rfl) ?_
      exact hq _ _ (mFr.up (by rfl) mFr.rf) ⟨hI.1, hI.2.1, hI.2.2.1, hI.2.2.2.1, hI.2.2.2.2.1, hI.2.2.2.2.2.1, (mRk.up hI.2.2.2.2.2.2 (by rfl) (by rfl))⟩
    · refine mB 2 (s2 := (d + 6, 41, 17, [some (.ref 2), some (.int v0)], [.int 1], 0, 0, (mSH, I, L))) rfl ?_
      refine mRt (r := (some (.int 1))) (h := (mSH, I, L)) rfl rfl ?_
      show mWP mTb_ mFT ro (d + 7, 90, 11, [some (.ref 0), some (.int v0)], [.int 1], 0, 0, (mSH, I, L)) _
      refine mBF (s3 := (d + 7, 90, 21, [some (.ref 0), some (.int v0)], [], 0, 0, (mSH, I, L))) rfl (by decide) ?_
      refine mB 1 (s2 := (d + 7, 90, 22, [some (.ref 0), some (.int v0)], [.ref 0], 0, 0, (mSH, I, L))) rfl ?_
      refine mCall (s2 := (d + 6, 105, 0, [some (.ref 0)], [], 0, 0, (mSH, I, L))) rfl ?_
      refine mB 7 (s2 := (d + 6, 105, 13, [some (.ref 0)], [.int 0, .ref 8, .ref 6, .ref 10], 0, 0, (mSH, I, L))) rfl ?_
      refine mCall (s2 := (d + 5, 10, 0, [some (.ref 8), some (.int 0)], [], 0, 0, (mSH, I, L))) rfl ?_
      refine mB 2 (s2 := (d + 5, 10, 2, [some (.ref 8), some (.int 0)], [.int 0, .ref 8], 0, 0, (mSH, I, L))) rfl ?_
      refine mCall (s2 := (d + 4, 8, 0, [some (.ref 8), some (.int 0)], [], 0, 0, (mSH, I, L))) rfl ?_
      refine mB 1 (s2 := (d + 4, 8, 1, [some (.ref 8), some (.int 0)], [.int 0], 0, 0, (mSH, I, L))) rfl ?_
      refine mBF (s3 := (d + 4, 8, 4, [some (.ref 8), some (.int 0)], [], 0, 0, (mSH, I, L))) rfl (by decide) ?_
      refine mB 4 (s2 := (d + 4, 8, 10, [some (.ref 8), some (.int 0)], [.int 3, .int 0], 0, 0, (mSH, I, L))) rfl ?_
      refine mBF (s3 := (d + 4, 8, 13, [some (.ref 8), some (.int 0)], [], 0, 0, (mSH, I, L))) rfl (by decide) ?_
      refine mB 2 (s2 := (d + 4, 8, 18, [some (.ref 8), some (.int 0)], [.int 1], 0, 0, (mSH, I, L))) rfl ?_
      refine mRt (r := (some (.int 1))) (h := (mSH, I, L)) rfl rfl ?_
      show mWP mTb_ mFT ro (d + 5, 10, 5, [some (.ref 8), some (.int 0)], [.int 1], 0, 0, (mSH, I, L)) _
      refine mBF (s3 := (d + 5, 10, 8, [some (.ref 8), some (.int 0)], [], 0, 0, (mSH, I, L))) rfl (by decide) ?_
      refine mB 3 (s2 := (d + 5, 10, 13, [some (.ref 8), some (.int 0)], [.int 0, .ref 9], 0, 0, (mSH, I, L))) rfl ?_
      refine mRq (s2 := (d + 5, 10, 14, [some (.ref 8), some (.int 0)], [.int (I 9 0)], 0, 0, (mSH, I, L))) rfl (by decide) ?_
      refine mB 1 (s2 := (d + 5, 10, 18, [some (.ref 8), some (.int 0)], [.int (I 9 0)], 0, 0, (mSH, I, L))) rfl ?_
      refine mRt (r := (some (.int (I 9 0)))) (h := (mSH, I, L)) rfl (mRet_int rfl) ?_
      show mWP mTb_ mFT ro (d + 6, 105, 16, [some (.ref 0)], [.int (I 9 0), .ref 6, .ref 10], 0, 0, (mSH, I, L)) _
      refine mCall (s2 := (d + 5, 52, 0, [some (.ref 10), some (.ref 6), some (.int (I 9 0)), none, none, none], [], 0, 0, (mSH, I, L))) rfl ?_
      refine w_fill_L6 hI.1 hI.2.1 hI.2.2.2.2.2.2 (fun K1 hK1 => ?_)
      show mWP mTb_ mFT ro (d + 6, 105, 19, [some (.ref 0)], [], 0, 0, (mSH, (mMix mSS I K1), L)) _
      refine mRt (r := none) (h := (mSH, (mMix mSS I K1), L)) rfl rfl ?_
      show mWP mTb_ mFT ro (d + 7, 90, 25, [some (.ref 0), some (.int v0)], [], 0, 0, (mSH, (mMix mSS I K1), L)) _
      refine mB 3 (s2 := (d + 7, 90, 30, [some (.ref 0), some (.int v0)], [.int v0, .ref 10], 0, 0, (mSH, (mMix mSS I K1), L))) rfl ?_
      refine mCall (s2 := (d + 6, 62, 0, [some (.ref 10), some (.int v0)], [], 0, 0, (mSH, (mMix mSS I K1), L))) rfl ?_
      refine mB 3 (s2 := (d + 6, 62, 3, [some (.ref 10), some (.int v0)], [.int v0, .int 0, .ref 10], 0, 0, (mSH, (mMix mSS I K1), L))) rfl ?_
      refine mCall (s2 := (d + 5, 59, 0, [some (.int 0), some (.int v0), none], [], 0, 0, (mSH, (mMix mSS I K1), L))) rfl ?_
      refine w_cellOf (fun x2 hx2 => ?_)
      show mWP mTb_ mFT ro (d + 6, 62, 6, [some (.ref 10), some (.int v0)], [.int x2, .ref 10], 0, 0, (mSH, (mMix mSS I K1), L)) _
      refine mCall (s2 := (d + 5, 60, 0, [some (.ref 10), some (.int x2)], [], 0, 0, (mSH, (mMix mSS I K1), L))) rfl ?_
      refine mB 3 (s2 := (d + 5, 60, 5, [some (.ref 10), some (.int x2)], [.int 0, .ref 11], 0, 0, (mSH, (mMix mSS I K1), L))) rfl ?_
      refine mRq (s2 := (d + 5, 60, 6, [some (.ref 10), some (.int x2)], [.ref 12], 0, 0, (mSH, (mMix mSS I K1), L))) rfl (by decide) ?_
      refine mB 1 (s2 := (d + 5, 60, 7, [some (.ref 10), some (.int x2)], [.int x2, .ref 12], 0, 0, (mSH, (mMix mSS I K1), L))) rfl ?_
      refine mRq (s2 := (d + 5, 60, 8, [some (.ref 10), some (.int x2)], [.int (K1 12 x2.toNatClampNeg)], 0, 0, (mSH, (mMix mSS I K1), L))) rfl (mVp_of hx2) ?_
      refine mB 1 (s2 := (d + 5, 60, 10, [some (.ref 10), some (.int x2)], [.int 1000000000, .int (K1 12 x2.toNatClampNeg)], 0, 0, (mSH, (mMix mSS I K1), L))) rfl ?_
      refine mBr (s2 := (d + 5, 60, 13, [some (.ref 10), some (.int x2)], [], 0, 0, (mSH, (mMix mSS I K1), L))) (s3 := (d + 5, 60, 17, [some (.ref 10), some (.int x2)], [], 0, 0, (mSH, (mMix mSS I K1), L))) rfl (fun c6 => ?_) (fun c6 => ?_)
      · refine mB 2 (s2 := (d + 5, 60, 25, [some (.ref 10), some (.int x2)], [.int (-1)], 0, 0, (mSH, (mMix mSS I K1), L))) rfl ?_
        refine mRt (r := (some (.int (-1)))) (h := (mSH, (mMix mSS I K1), L)) rfl (mRet_int rfl) ?_
        show mWP mTb_ mFT ro (d + 6, 62, 9, [some (.ref 10), some (.int v0)], [.int (-1)], 0, 0, (mSH, (mMix mSS I K1), L)) _
        refine mRt (r := (some (.int (-1)))) (h := (mSH, (mMix mSS I K1), L)) rfl (mRet_int rfl) ?_
        show mWP mTb_ mFT ro (d + 7, 90, 33, [some (.ref 0), some (.int v0)], [.int (-1)], 0, 0, (mSH, (mMix mSS I K1), L)) _
        refine mRt (r := (some (.int (-1)))) (h := (mSH, (mMix mSS I K1), L)) rfl (mRet_int rfl) ?_
        exact hq _ _ (mFr.mix (by decide) mFr.rf) ⟨hI.1, hI.2.1, hI.2.2.1, hI.2.2.2.1, hI.2.2.2.2.1, hI.2.2.2.2.2.1, hK1⟩
      · refine mB 3 (s2 := (d + 5, 60, 22, [some (.ref 10), some (.int x2)], [.int 0, .ref 11], 0, 0, (mSH, (mMix mSS I K1), L))) rfl ?_
        refine mRq (s2 := (d + 5, 60, 23, [some (.ref 10), some (.int x2)], [.ref 12], 0, 0, (mSH, (mMix mSS I K1), L))) rfl (by decide) ?_
        refine mB 1 (s2 := (d + 5, 60, 24, [some (.ref 10), some (.int x2)], [.int x2, .ref 12], 0, 0, (mSH, (mMix mSS I K1), L))) rfl ?_
        refine mRq (s2 := (d + 5, 60, 25, [some (.ref 10), some (.int x2)], [.int (K1 12 x2.toNatClampNeg)], 0, 0, (mSH, (mMix mSS I K1), L))) rfl (mVp_of hx2) ?_
        refine mRt (r := (some (.int (K1 12 x2.toNatClampNeg)))) (h := (mSH, (mMix mSS I K1), L)) rfl (mRet_int rfl) ?_
        show mWP mTb_ mFT ro (d + 6, 62, 9, [some (.ref 10), some (.int v0)], [.int (K1 12 x2.toNatClampNeg)], 0, 0, (mSH, (mMix mSS I K1), L)) _
        refine mRt (r := (some (.int (K1 12 x2.toNatClampNeg)))) (h := (mSH, (mMix mSS I K1), L)) rfl (mRet_int rfl) ?_
        show mWP mTb_ mFT ro (d + 7, 90, 33, [some (.ref 0), some (.int v0)], [.int (K1 12 x2.toNatClampNeg)], 0, 0, (mSH, (mMix mSS I K1), L)) _
        refine mRt (r := (some (.int (K1 12 x2.toNatClampNeg)))) (h := (mSH, (mMix mSS I K1), L)) rfl (mRet_int rfl) ?_
        exact hq _ _ (mFr.mix (by decide) mFr.rf) ⟨hI.1, hI.2.1, hI.2.2.1, hI.2.2.2.1, hI.2.2.2.2.1, hI.2.2.2.2.2.1, hK1⟩
theorem u_unbound {ro : Nat → Nat × (Nat → Int32)} {Q : mPo} {d : Nat} {I : Nat → Nat → Int32} {L : Nat → Nat → Int64} (hI : mIC I) (hq : ∀ r I1, mFr mSQ I I1 → mIC I1 → Q (some (.int r)) (mSH, I1, L))   : mWP mTb_ mFT ro (d + 7, 92, 0, [some (.ref 0)], [], 0, 0, (mSH, I, L)) Q := by
  refine mB 7 (s2 := (d + 7, 92, 13, [some (.ref 0)], [.int 0, .ref 8, .ref 7, .ref 10], 0, 0, (mSH, I, L))) rfl ?_
  refine mCall (s2 := (d + 6, 10, 0, [some (.ref 8), some (.int 0)], [], 0, 0, (mSH, I, L))) rfl ?_
  refine mB 2 (s2 := (d + 6, 10, 2, [some (.ref 8), some (.int 0)], [.int 0, .ref 8], 0, 0, (mSH, I, L))) rfl ?_
  refine mCall (s2 := (d + 5, 8, 0, [some (.ref 8), some (.int 0)], [], 0, 0, (mSH, I, L))) rfl ?_
  refine mB 1 (s2 := (d + 5, 8, 1, [some (.ref 8), some (.int 0)], [.int 0], 0, 0, (mSH, I, L))) rfl ?_
  refine mBF (s3 := (d + 5, 8, 4, [some (.ref 8), some (.int 0)], [], 0, 0, (mSH, I, L))) rfl (by decide) ?_
  refine mB 4 (s2 := (d + 5, 8, 10, [some (.ref 8), some (.int 0)], [.int 3, .int 0], 0, 0, (mSH, I, L))) rfl ?_
  refine mBF (s3 := (d + 5, 8, 13, [some (.ref 8), some (.int 0)], [], 0, 0, (mSH, I, L))) rfl (by decide) ?_
  refine mB 2 (s2 := (d + 5, 8, 18, [some (.ref 8), some (.int 0)], [.int 1], 0, 0, (mSH, I, L))) rfl ?_
  refine mRt (r := (some (.int 1))) (h := (mSH, I, L)) rfl rfl ?_
  show mWP mTb_ mFT ro (d + 6, 10, 5, [some (.ref 8), some (.int 0)], [.int 1], 0, 0, (mSH, I, L)) _
  refine mBF (s3 := (d + 6, 10, 8, [some (.ref 8), some (.int 0)], [], 0, 0, (mSH, I, L))) rfl (by decide) ?_
  refine mB 3 (s2 := (d + 6, 10, 13, [some (.ref 8), some (.int 0)], [.int 0, .ref 9], 0, 0, (mSH, I, L))) rfl ?_
  refine mRq (s2 := (d + 6, 10, 14, [some (.ref 8), some (.int 0)], [.int (I 9 0)], 0, 0, (mSH, I, L))) rfl (by decide) ?_
  refine mB 1 (s2 := (d + 6, 10, 18, [some (.ref 8), some (.int 0)], [.int (I 9 0)], 0, 0, (mSH, I, L))) rfl ?_
  refine mRt (r := (some (.int (I 9 0)))) (h := (mSH, I, L)) rfl (mRet_int rfl) ?_
  show mWP mTb_ mFT ro (d + 7, 92, 16, [some (.ref 0)], [.int (I 9 0), .ref 7, .ref 10], 0, 0, (mSH, I, L)) _
  refine mCall (s2 := (d + 6, 52, 0, [some (.ref 10), some (.ref 7), some (.int (I 9 0)), none, none, none], [], 0, 0, (mSH, I, L))) rfl ?_
  refine w_fill_L7 hI.1 hI.2.1 hI.2.2.2.2.2.2 (fun K1 hK1 => ?_)
  show mWP mTb_ mFT ro (d + 7, 92, 19, [some (.ref 0)], [], 0, 0, (mSH, (mMix mSS I K1), L)) _
  refine mB 2 (s2 := (d + 7, 92, 23, [some (.ref 0)], [.ref 10], 0, 0, (mSH, (mMix mSS I K1), L))) rfl ?_
  refine mCall (s2 := (d + 6, 61, 0, [some (.ref 10)], [], 0, 0, (mSH, (mMix mSS I K1), L))) rfl ?_
  refine mB 2 (s2 := (d + 6, 61, 4, [some (.ref 10)], [.int 153, .ref 10], 0, 0, (mSH, (mMix mSS I K1), L))) rfl ?_
  refine mCall (s2 := (d + 5, 60, 0, [some (.ref 10), some (.int 153)], [], 0, 0, (mSH, (mMix mSS I K1), L))) rfl ?_
  refine mB 3 (s2 := (d + 5, 60, 5, [some (.ref 10), some (.int 153)], [.int 0, .ref 11], 0, 0, (mSH, (mMix mSS I K1), L))) rfl ?_
  refine mRq (s2 := (d + 5, 60, 6, [some (.ref 10), some (.int 153)], [.ref 12], 0, 0, (mSH, (mMix mSS I K1), L))) rfl (by decide) ?_
  refine mB 1 (s2 := (d + 5, 60, 7, [some (.ref 10), some (.int 153)], [.int 153, .ref 12], 0, 0, (mSH, (mMix mSS I K1), L))) rfl ?_
  refine mRq (s2 := (d + 5, 60, 8, [some (.ref 10), some (.int 153)], [.int (K1 12 153)], 0, 0, (mSH, (mMix mSS I K1), L))) rfl (by decide) ?_
  refine mB 1 (s2 := (d + 5, 60, 10, [some (.ref 10), some (.int 153)], [.int 1000000000, .int (K1 12 153)], 0, 0, (mSH, (mMix mSS I K1), L))) rfl ?_
  refine mBr (s2 := (d + 5, 60, 13, [some (.ref 10), some (.int 153)], [], 0, 0, (mSH, (mMix mSS I K1), L))) (s3 := (d + 5, 60, 17, [some (.ref 10), some (.int 153)], [], 0, 0, (mSH, (mMix mSS I K1), L))) rfl (fun c2 => ?_) (fun c2 => ?_)
  · refine mB 2 (s2 := (d + 5, 60, 25, [some (.ref 10), some (.int 153)], [.int (-1)], 0, 0, (mSH, (mMix mSS I K1), L))) rfl ?_
    refine mRt (r := (some (.int (-1)))) (h := (mSH, (mMix mSS I K1), L)) rfl (mRet_int rfl) ?_
    show mWP mTb_ mFT ro (d + 6, 61, 7, [some (.ref 10)], [.int (-1)], 0, 0, (mSH, (mMix mSS I K1), L)) _
    refine mRt (r := (some (.int (-1)))) (h := (mSH, (mMix mSS I K1), L)) rfl (mRet_int rfl) ?_
    show mWP mTb_ mFT ro (d + 7, 92, 26, [some (.ref 0)], [.int (-1)], 0, 0, (mSH, (mMix mSS I K1), L)) _
    refine mRt (r := (some (.int (-1)))) (h := (mSH, (mMix mSS I K1), L)) rfl (mRet_int rfl) ?_
    exact hq _ _ (mFr.mix (by decide) mFr.rf) ⟨hI.1, hI.2.1, hI.2.2.1, hI.2.2.2.1, hI.2.2.2.2.1, hI.2.2.2.2.2.1, hK1⟩
  · refine mB 3 (s2 := (d + 5, 60, 22, [some (.ref 10), some (.int 153)], [.int 0, .ref 11], 0, 0, (mSH, (mMix mSS I K1), L))) rfl ?_
    refine mRq (s2 := (d + 5, 60, 23, [some (.ref 10), some (.int 153)], [.ref 12], 0, 0, (mSH, (mMix mSS I K1), L))) rfl (by decide) ?_
    refine mB 1 (s2 := (d + 5, 60, 24, [some (.ref 10), some (.int 153)], [.int 153, .ref 12], 0, 0, (mSH, (mMix mSS I K1), L))) rfl ?_
    refine mRq (s2 := (d + 5, 60, 25, [some (.ref 10), some (.int 153)], [.int (K1 12 153)], 0, 0, (mSH, (mMix mSS I K1), L))) rfl (by decide) ?_
    refine mRt (r := (some (.int (K1 12 153)))) (h := (mSH, (mMix mSS I K1), L)) rfl (mRet_int rfl) ?_
    show mWP mTb_ mFT ro (d + 6, 61, 7, [some (.ref 10)], [.int (K1 12 153)], 0, 0, (mSH, (mMix mSS I K1), L)) _
    refine mRt (r := (some (.int (K1 12 153)))) (h := (mSH, (mMix mSS I K1), L)) rfl (mRet_int rfl) ?_
    show mWP mTb_ mFT ro (d + 7, 92, 26, [some (.ref 0)], [.int (K1 12 153)], 0, 0, (mSH, (mMix mSS I K1), L)) _
    refine mRt (r := (some (.int (K1 12 153)))) (h := (mSH, (mMix mSS I K1), L)) rfl (mRet_int rfl) ?_
    exact hq _ _ (mFr.mix (by decide) mFr.rf) ⟨hI.1, hI.2.1, hI.2.2.1, hI.2.2.2.1, hI.2.2.2.2.1, hI.2.2.2.2.2.1, hK1⟩
theorem u_age {ro : Nat → Nat × (Nat → Int32)} {Q : mPo} {d : Nat} {I : Nat → Nat → Int32} {L : Nat → Nat → Int64} {v0 : Int32} (hI : mIC I) (hq : ∀ r I1, mFr mSQ I I1 → mIC I1 → Q (some (.int r)) (mSH, I1, L))   : mWP mTb_ mFT ro (d + 7, 93, 0, [some (.ref 0), some (.int v0)], [], 0, 0, (mSH, I, L)) Q := by
  refine mB 1 (s2 := (d + 7, 93, 1, [some (.ref 0), some (.int v0)], [.int v0], 0, 0, (mSH, I, L))) rfl ?_
  refine mBr (s2 := (d + 7, 93, 18, [some (.ref 0), some (.int v0)], [], 0, 0, (mSH, I, L))) (s3 := (d + 7, 93, 4, [some (.ref 0), some (.int v0)], [], 0, 0, (mSH, I, L))) rfl (fun c0 => ?_) (fun c0 => ?_)
  · refine mB 2 (s2 := (d + 7, 93, 21, [some (.ref 0), some (.int v0)], [.int (-2), .ref 0], 0, 0, (mSH, I, L))) rfl ?_
    refine mCall (s2 := (d + 6, 103, 0, [some (.ref 0), some (.int (-2))], [], 0, 0, (mSH, I, L))) rfl ?_
    refine mB 2 (s2 := (d + 6, 103, 3, [some (.ref 0), some (.int (-2))], [.int (-2), .int (-2)], 0, 0, (mSH, I, L))) rfl ?_
    refine mBT (s2 := (d + 6, 103, 6, [some (.ref 0), some (.int (-2))], [], 0, 0, (mSH, I, L))) rfl (by decide) ?_
    refine mB 8 (s2 := (d + 6, 103, 49, [some (.ref 0), some (.int (-2))], [.int (-2)], 0, 0, (mSH, (mUp I 0 9 ((I 0 9) + 1)), L))) rfl ?_
    refine mRt (r := (some (.int (-2)))) (h := (mSH, (mUp I 0 9 ((I 0 9) + 1)), L)) rfl (mRet_int rfl) ?_
    show mWP mTb_ mFT ro (d + 7, 93, 24, [some (.ref 0), some (.int v0)], [.int (-2)], 0, 0, (mSH, (mUp I 0 9 ((I 0 9) + 1)), L)) _
    refine mRt (r := (some (.int (-2)))) (h := (mSH, (mUp I 0 9 ((I 0 9) + 1)), L)) rfl (mRet_int rfl) ?_
    exact hq _ _ (mFr.up (by rfl) mFr.rf) ⟨hI.1, hI.2.1, hI.2.2.1, hI.2.2.2.1, hI.2.2.2.2.1, hI.2.2.2.2.2.1, (mRk.up hI.2.2.2.2.2.2 (by rfl) (by rfl))⟩
  · refine mB 4 (s2 := (d + 7, 93, 12, [some (.ref 0), some (.int v0)], [.ref 4, .int v0], 0, 0, (mSH, I, L))) rfl ?_
    refine mCall (s2 := (d + 6, 48, 0, [some (.ref 4)], [], 0, 0, (mSH, I, L))) rfl ?_
    refine mB 3 (s2 := (d + 6, 48, 5, [some (.ref 4)], [.int (I 4 1), .ref 4], 0, 0, (mSH, I, L))) rfl ?_
    refine mCall (s2 := (d + 5, 47, 0, [some (.ref 4), some (.int (I 4 1)), none, none], [], 0, 0, (mSH, I, L))) rfl ?_
    refine w_total_4 hI.2.1 (fun r1 => ?_)
    show mWP mTb_ mFT ro (d + 6, 48, 8, [some (.ref 4)], [.int r1], 0, 0, (mSH, I, L)) _
    refine mRt (r := (some (.int r1))) (h := (mSH, I, L)) rfl (mRet_int rfl) ?_
    show mWP mTb_ mFT ro (d + 7, 93, 15, [some (.ref 0), some (.int v0)], [.int r1, .int v0], 0, 0, (mSH, I, L)) _
    refine mBr (s2 := (d + 7, 93, 25, [some (.ref 0), some (.int v0)], [], 0, 0, (mSH, I, L))) (s3 := (d + 7, 93, 18, [some (.ref 0), some (.int v0)], [], 0, 0, (mSH, I, L))) rfl (fun c2 => ?_) (fun c2 => ?_)
    · refine mB 2 (s2 := (d + 7, 93, 27, [some (.ref 0), some (.int v0)], [.int 0, .ref 0], 0, 0, (mSH, I, L))) rfl ?_
      refine mCall (s2 := (d + 6, 106, 0, [some (.ref 0), some (.int 0)], [], 0, 0, (mSH, I, L))) rfl ?_
      refine w_finds hI.1 hI.2.1 hI.2.2.1 hI.2.2.2.2.2.2 ?_ ?_
      · intro K2 hK2
        show mWP mTb_ mFT ro (d + 7, 93, 30, [some (.ref 0), some (.int v0)], [.int 0], 0, 0, (mSH, (mMix mSX I K2), L)) _
        refine mBT (s2 := (d + 7, 93, 33, [some (.ref 0), some (.int v0)], [], 0, 0, (mSH, (mMix mSX I K2), L))) rfl (by decide) ?_
        refine mB 2 (s2 := (d + 7, 93, 36, [some (.ref 0), some (.int v0)], [.int (-3), .ref 0], 0, 0, (mSH, (mMix mSX I K2), L))) rfl ?_
        refine mCall (s2 := (d + 6, 103, 0, [some (.ref 0), some (.int (-3))], [], 0, 0, (mSH, (mMix mSX I K2), L))) rfl ?_
        refine mB 2 (s2 := (d + 6, 103, 3, [some (.ref 0), some (.int (-3))], [.int (-2), .int (-3)], 0, 0, (mSH, (mMix mSX I K2), L))) rfl ?_
        refine mBF (s3 := (d + 6, 103, 19, [some (.ref 0), some (.int (-3))], [], 0, 0, (mSH, (mMix mSX I K2), L))) rfl (by decide) ?_
        refine mB 2 (s2 := (d + 6, 103, 22, [some (.ref 0), some (.int (-3))], [.int (-3), .int (-3)], 0, 0, (mSH, (mMix mSX I K2), L))) rfl ?_
        refine mBT (s2 := (d + 6, 103, 25, [some (.ref 0), some (.int (-3))], [], 0, 0, (mSH, (mMix mSX I K2), L))) rfl (by decide) ?_
        refine mB 8 (s2 := (d + 6, 103, 49, [some (.ref 0), some (.int (-3))], [.int (-3)], 0, 0, (mSH, (mUp (mMix mSX I K2) 0 10 ((I 0 10) + 1)), L))) rfl ?_
        refine mRt (r := (some (.int (-3)))) (h := (mSH, (mUp (mMix mSX I K2) 0 10 ((I 0 10) + 1)), L)) rfl (mRet_int rfl) ?_
        show mWP mTb_ mFT ro (d + 7, 93, 39, [some (.ref 0), some (.int v0)], [.int (-3)], 0, 0, (mSH, (mUp (mMix mSX I K2) 0 10 ((I 0 10) + 1)), L)) _
        refine mRt (r := (some (.int (-3)))) (h := (mSH, (mUp (mMix mSX I K2) 0 10 ((I 0 10) + 1)), L)) rfl (mRet_int rfl) ?_
        exact hq _ _ (mFr.up (by rfl) (mFr.mix (by decide) mFr.rf)) ⟨hI.1, hI.2.1, hK2.2, hI.2.2.2.1, hI.2.2.2.2.1, hI.2.2.2.2.2.1, (mRk.up hK2.1 (by rfl) (by rfl))⟩
      · intro K2 hK2
        show mWP mTb_ mFT ro (d + 7, 93, 30, [some (.ref 0), some (.int v0)], [.int 1], 0, 0, (mSH, (mMix mSX I K2), L)) _
        refine mBF (s3 := (d + 7, 93, 40, [some (.ref 0), some (.int v0)], [], 0, 0, (mSH, (mMix mSX I K2), L))) rfl (by decide) ?_
        refine mB 5 (s2 := (d + 7, 93, 49, [some (.ref 0), some (.int v0)], [.ref 25, .int v0, .ref 22], 0, 0, (mSH, (mMix mSX I K2), L))) rfl ?_
        refine mCall (s2 := (d + 6, 23, 0, [some (.ref 22), some (.int v0), some (.ref 25), none, none, none], [], 0, 0, (mSH, (mMix mSX I K2), L))) rfl ?_
        refine w_tellAge hI.1 hI.2.1 hK2.2 (fun K3 hK3 => ?_)
        show mWP mTb_ mFT ro (d + 7, 93, 52, [some (.ref 0), some (.int v0)], [], 0, 0, (mSH, (mMix [25] (mMix mSX I K2) K3), L)) _
        refine mB 1 (s2 := (d + 7, 93, 53, [some (.ref 0), some (.int v0)], [.int 1], 0, 0, (mSH, (mMix [25] (mMix mSX I K2) K3), L))) rfl ?_
        refine mRt (r := (some (.int 1))) (h := (mSH, (mMix [25] (mMix mSX I K2) K3), L)) rfl (mRet_int rfl) ?_
        exact hq _ _ (mFr.mix (by decide) (mFr.mix (by decide) mFr.rf)) ⟨hI.1, hI.2.1, hK2.2, hI.2.2.2.1, hI.2.2.2.2.1, hI.2.2.2.2.2.1, hK2.1⟩
    · refine mB 2 (s2 := (d + 7, 93, 21, [some (.ref 0), some (.int v0)], [.int (-2), .ref 0], 0, 0, (mSH, I, L))) rfl ?_
      refine mCall (s2 := (d + 6, 103, 0, [some (.ref 0), some (.int (-2))], [], 0, 0, (mSH, I, L))) rfl ?_
      refine mB 2 (s2 := (d + 6, 103, 3, [some (.ref 0), some (.int (-2))], [.int (-2), .int (-2)], 0, 0, (mSH, I, L))) rfl ?_
      refine mBT (s2 := (d + 6, 103, 6, [some (.ref 0), some (.int (-2))], [], 0, 0, (mSH, I, L))) rfl (by decide) ?_
      refine mB 8 (s2 := (d + 6, 103, 49, [some (.ref 0), some (.int (-2))], [.int (-2)], 0, 0, (mSH, (mUp I 0 9 ((I 0 9) + 1)), L))) rfl ?_
      refine mRt (r := (some (.int (-2)))) (h := (mSH, (mUp I 0 9 ((I 0 9) + 1)), L)) rfl (mRet_int rfl) ?_
      show mWP mTb_ mFT ro (d + 7, 93, 24, [some (.ref 0), some (.int v0)], [.int (-2)], 0, 0, (mSH, (mUp I 0 9 ((I 0 9) + 1)), L)) _
      refine mRt (r := (some (.int (-2)))) (h := (mSH, (mUp I 0 9 ((I 0 9) + 1)), L)) rfl (mRet_int rfl) ?_
      exact hq _ _ (mFr.up (by rfl) mFr.rf) ⟨hI.1, hI.2.1, hI.2.2.1, hI.2.2.2.1, hI.2.2.2.2.1, hI.2.2.2.2.2.1, (mRk.up hI.2.2.2.2.2.2 (by rfl) (by rfl))⟩
theorem u_depth {ro : Nat → Nat × (Nat → Int32)} {Q : mPo} {d : Nat} {I : Nat → Nat → Int32} {L : Nat → Nat → Int64} {v0 : Int32} (hI : mIC I) (hq : ∀ r I1, mFr mSQ I I1 → mIC I1 → Q (some (.int r)) (mSH, I1, L))   : mWP mTb_ mFT ro (d + 7, 94, 0, [some (.ref 0), some (.int v0)], [], 0, 0, (mSH, I, L)) Q := by
  refine mB 1 (s2 := (d + 7, 94, 1, [some (.ref 0), some (.int v0)], [.int v0], 0, 0, (mSH, I, L))) rfl ?_
  refine mBr (s2 := (d + 7, 94, 11, [some (.ref 0), some (.int v0)], [], 0, 0, (mSH, I, L))) (s3 := (d + 7, 94, 4, [some (.ref 0), some (.int v0)], [], 0, 0, (mSH, I, L))) rfl (fun c0 => ?_) (fun c0 => ?_)
  · refine mB 2 (s2 := (d + 7, 94, 14, [some (.ref 0), some (.int v0)], [.int (-2), .ref 0], 0, 0, (mSH, I, L))) rfl ?_
    refine mCall (s2 := (d + 6, 103, 0, [some (.ref 0), some (.int (-2))], [], 0, 0, (mSH, I, L))) rfl ?_
    refine mB 2 (s2 := (d + 6, 103, 3, [some (.ref 0), some (.int (-2))], [.int (-2), .int (-2)], 0, 0, (mSH, I, L))) rfl ?_
    refine mBT (s2 := (d + 6, 103, 6, [some (.ref 0), some (.int (-2))], [], 0, 0, (mSH, I, L))) rfl (by decide) ?_
    refine mB 8 (s2 := (d + 6, 103, 49, [some (.ref 0), some (.int (-2))], [.int (-2)], 0, 0, (mSH, (mUp I 0 9 ((I 0 9) + 1)), L))) rfl ?_
    refine mRt (r := (some (.int (-2)))) (h := (mSH, (mUp I 0 9 ((I 0 9) + 1)), L)) rfl (mRet_int rfl) ?_
    show mWP mTb_ mFT ro (d + 7, 94, 17, [some (.ref 0), some (.int v0)], [.int (-2)], 0, 0, (mSH, (mUp I 0 9 ((I 0 9) + 1)), L)) _
    refine mRt (r := (some (.int (-2)))) (h := (mSH, (mUp I 0 9 ((I 0 9) + 1)), L)) rfl (mRet_int rfl) ?_
    exact hq _ _ (mFr.up (by rfl) mFr.rf) ⟨hI.1, hI.2.1, hI.2.2.1, hI.2.2.2.1, hI.2.2.2.2.1, hI.2.2.2.2.2.1, (mRk.up hI.2.2.2.2.2.2 (by rfl) (by rfl))⟩
  · refine mB 2 (s2 := (d + 7, 94, 8, [some (.ref 0), some (.int v0)], [.int 1584, .int v0], 0, 0, (mSH, I, L))) rfl ?_
    refine mBr (s2 := (d + 7, 94, 18, [some (.ref 0), some (.int v0)], [], 0, 0, (mSH, I, L))) (s3 := (d + 7, 94, 11, [some (.ref 0), some (.int v0)], [], 0, 0, (mSH, I, L))) rfl (fun c1 => ?_) (fun c1 => ?_)
    · refine mB 2 (s2 := (d + 7, 94, 20, [some (.ref 0), some (.int v0)], [.int 0, .ref 0], 0, 0, (mSH, I, L))) rfl ?_
      refine mCall (s2 := (d + 6, 106, 0, [some (.ref 0), some (.int 0)], [], 0, 0, (mSH, I, L))) rfl ?_
      refine w_finds hI.1 hI.2.1 hI.2.2.1 hI.2.2.2.2.2.2 ?_ ?_
      · intro K1 hK1
        show mWP mTb_ mFT ro (d + 7, 94, 23, [some (.ref 0), some (.int v0)], [.int 0], 0, 0, (mSH, (mMix mSX I K1), L)) _
        refine mBT (s2 := (d + 7, 94, 26, [some (.ref 0), some (.int v0)], [], 0, 0, (mSH, (mMix mSX I K1), L))) rfl (by decide) ?_
        refine mB 2 (s2 := (d + 7, 94, 29, [some (.ref 0), some (.int v0)], [.int (-3), .ref 0], 0, 0, (mSH, (mMix mSX I K1), L))) rfl ?_
        refine mCall (s2 := (d + 6, 103, 0, [some (.ref 0), some (.int (-3))], [], 0, 0, (mSH, (mMix mSX I K1), L))) rfl ?_
        refine mB 2 (s2 := (d + 6, 103, 3, [some (.ref 0), some (.int (-3))], [.int (-2), .int (-3)], 0, 0, (mSH, (mMix mSX I K1), L))) rfl ?_
        refine mBF (s3 := (d + 6, 103, 19, [some (.ref 0), some (.int (-3))], [], 0, 0, (mSH, (mMix mSX I K1), L))) rfl (by decide) ?_
        refine mB 2 (s2 := (d + 6, 103, 22, [some (.ref 0), some (.int (-3))], [.int (-3), .int (-3)], 0, 0, (mSH, (mMix mSX I K1), L))) rfl ?_
        refine mBT (s2 := (d + 6, 103, 25, [some (.ref 0), some (.int (-3))], [], 0, 0, (mSH, (mMix mSX I K1), L))) rfl (by decide) ?_
        refine mB 8 (s2 := (d + 6, 103, 49, [some (.ref 0), some (.int (-3))], [.int (-3)], 0, 0, (mSH, (mUp (mMix mSX I K1) 0 10 ((I 0 10) + 1)), L))) rfl ?_
        refine mRt (r := (some (.int (-3)))) (h := (mSH, (mUp (mMix mSX I K1) 0 10 ((I 0 10) + 1)), L)) rfl (mRet_int rfl) ?_
        show mWP mTb_ mFT ro (d + 7, 94, 32, [some (.ref 0), some (.int v0)], [.int (-3)], 0, 0, (mSH, (mUp (mMix mSX I K1) 0 10 ((I 0 10) + 1)), L)) _
        refine mRt (r := (some (.int (-3)))) (h := (mSH, (mUp (mMix mSX I K1) 0 10 ((I 0 10) + 1)), L)) rfl (mRet_int rfl) ?_
        exact hq _ _ (mFr.up (by rfl) (mFr.mix (by decide) mFr.rf)) ⟨hI.1, hI.2.1, hK1.2, hI.2.2.2.1, hI.2.2.2.2.1, hI.2.2.2.2.2.1, (mRk.up hK1.1 (by rfl) (by rfl))⟩
      · intro K1 hK1
        show mWP mTb_ mFT ro (d + 7, 94, 23, [some (.ref 0), some (.int v0)], [.int 1], 0, 0, (mSH, (mMix mSX I K1), L)) _
        refine mBF (s3 := (d + 7, 94, 33, [some (.ref 0), some (.int v0)], [], 0, 0, (mSH, (mMix mSX I K1), L))) rfl (by decide) ?_
        refine mB 3 (s2 := (d + 7, 94, 38, [some (.ref 0), some (.int v0)], [.ref 22, .int v0], 0, 0, (mSH, (mMix mSX I K1), L))) rfl ?_
        refine mCall (s2 := (d + 6, 18, 0, [some (.ref 22)], [], 0, 0, (mSH, (mMix mSX I K1), L))) rfl ?_
        refine w_topAge hI.1 (fun r2 => ?_)
        show mWP mTb_ mFT ro (d + 7, 94, 41, [some (.ref 0), some (.int v0)], [.int r2, .int v0], 0, 0, (mSH, (mMix mSX I K1), L)) _
        refine mBr (s2 := (d + 7, 94, 55, [some (.ref 0), some (.int v0)], [], 0, 0, (mSH, (mMix mSX I K1), L))) (s3 := (d + 7, 94, 44, [some (.ref 0), some (.int v0)], [], 0, 0, (mSH, (mMix mSX I K1), L))) rfl (fun c3 => ?_) (fun c3 => ?_)
        · refine mB 1 (s2 := (d + 7, 94, 56, [some (.ref 0), some (.int v0)], [.int (-1)], 0, 0, (mSH, (mMix mSX I K1), L))) rfl ?_
          refine mRt (r := (some (.int (-1)))) (h := (mSH, (mMix mSX I K1), L)) rfl (mRet_int rfl) ?_
          exact hq _ _ (mFr.mix (by decide) mFr.rf) ⟨hI.1, hI.2.1, hK1.2, hI.2.2.2.1, hI.2.2.2.2.1, hI.2.2.2.2.2.1, hK1.1⟩
        · refine mB 3 (s2 := (d + 7, 94, 49, [some (.ref 0), some (.int v0)], [.ref 22, .int v0], 0, 0, (mSH, (mMix mSX I K1), L))) rfl ?_
          refine mCall (s2 := (d + 6, 19, 0, [some (.ref 22)], [], 0, 0, (mSH, (mMix mSX I K1), L))) rfl ?_
          refine w_bottomAge hI.1 hK1.2 (fun r3 => ?_)
          show mWP mTb_ mFT ro (d + 7, 94, 52, [some (.ref 0), some (.int v0)], [.int r3, .int v0], 0, 0, (mSH, (mMix mSX I K1), L)) _
          refine mBr (s2 := (d + 7, 94, 57, [some (.ref 0), some (.int v0)], [], 0, 0, (mSH, (mMix mSX I K1), L))) (s3 := (d + 7, 94, 55, [some (.ref 0), some (.int v0)], [], 0, 0, (mSH, (mMix mSX I K1), L))) rfl (fun c5 => ?_) (fun c5 => ?_)
          · refine mB 5 (s2 := (d + 7, 94, 66, [some (.ref 0), some (.int v0)], [.ref 25, .int v0, .ref 22], 0, 0, (mSH, (mMix mSX I K1), L))) rfl ?_
            refine mCall (s2 := (d + 6, 24, 0, [some (.ref 22), some (.int v0), some (.ref 25), none, none, none], [], 0, 0, (mSH, (mMix mSX I K1), L))) rfl ?_
            refine w_tellDepth hI.1 hI.2.1 hK1.2 (fun K4 hK4 => ?_)
            show mWP mTb_ mFT ro (d + 7, 94, 69, [some (.ref 0), some (.int v0)], [], 0, 0, (mSH, (mMix [25] (mMix mSX I K1) K4), L)) _
            refine mB 1 (s2 := (d + 7, 94, 70, [some (.ref 0), some (.int v0)], [.int 1], 0, 0, (mSH, (mMix [25] (mMix mSX I K1) K4), L))) rfl ?_
            refine mRt (r := (some (.int 1))) (h := (mSH, (mMix [25] (mMix mSX I K1) K4), L)) rfl (mRet_int rfl) ?_
            exact hq _ _ (mFr.mix (by decide) (mFr.mix (by decide) mFr.rf)) ⟨hI.1, hI.2.1, hK1.2, hI.2.2.2.1, hI.2.2.2.2.1, hI.2.2.2.2.2.1, hK1.1⟩
          · refine mB 1 (s2 := (d + 7, 94, 56, [some (.ref 0), some (.int v0)], [.int (-1)], 0, 0, (mSH, (mMix mSX I K1), L))) rfl ?_
            refine mRt (r := (some (.int (-1)))) (h := (mSH, (mMix mSX I K1), L)) rfl (mRet_int rfl) ?_
            exact hq _ _ (mFr.mix (by decide) mFr.rf) ⟨hI.1, hI.2.1, hK1.2, hI.2.2.2.1, hI.2.2.2.2.1, hI.2.2.2.2.2.1, hK1.1⟩
    · refine mB 2 (s2 := (d + 7, 94, 14, [some (.ref 0), some (.int v0)], [.int (-2), .ref 0], 0, 0, (mSH, I, L))) rfl ?_
      refine mCall (s2 := (d + 6, 103, 0, [some (.ref 0), some (.int (-2))], [], 0, 0, (mSH, I, L))) rfl ?_
      refine mB 2 (s2 := (d + 6, 103, 3, [some (.ref 0), some (.int (-2))], [.int (-2), .int (-2)], 0, 0, (mSH, I, L))) rfl ?_
      refine mBT (s2 := (d + 6, 103, 6, [some (.ref 0), some (.int (-2))], [], 0, 0, (mSH, I, L))) rfl (by decide) ?_
      refine mB 8 (s2 := (d + 6, 103, 49, [some (.ref 0), some (.int (-2))], [.int (-2)], 0, 0, (mSH, (mUp I 0 9 ((I 0 9) + 1)), L))) rfl ?_
      refine mRt (r := (some (.int (-2)))) (h := (mSH, (mUp I 0 9 ((I 0 9) + 1)), L)) rfl (mRet_int rfl) ?_
      show mWP mTb_ mFT ro (d + 7, 94, 17, [some (.ref 0), some (.int v0)], [.int (-2)], 0, 0, (mSH, (mUp I 0 9 ((I 0 9) + 1)), L)) _
      refine mRt (r := (some (.int (-2)))) (h := (mSH, (mUp I 0 9 ((I 0 9) + 1)), L)) rfl (mRet_int rfl) ?_
      exact hq _ _ (mFr.up (by rfl) mFr.rf) ⟨hI.1, hI.2.1, hI.2.2.1, hI.2.2.2.1, hI.2.2.2.2.1, hI.2.2.2.2.2.1, (mRk.up hI.2.2.2.2.2.2 (by rfl) (by rfl))⟩
theorem u_rate {ro : Nat → Nat × (Nat → Int32)} {Q : mPo} {d : Nat} {I : Nat → Nat → Int32} {L : Nat → Nat → Int64} {v0 : Int32} (hI : mIC I) (hq : ∀ r I1, mFr mSQ I I1 → mIC I1 → Q (some (.int r)) (mSH, I1, L))   : mWP mTb_ mFT ro (d + 7, 95, 0, [some (.ref 0), some (.int v0)], [], 0, 0, (mSH, I, L)) Q := by
  refine mB 4 (s2 := (d + 7, 95, 8, [some (.ref 0), some (.int v0)], [.int v0, .ref 4], 0, 0, (mSH, I, L))) rfl ?_
  refine mCall (s2 := (d + 6, 41, 0, [some (.ref 4), some (.int v0)], [], 0, 0, (mSH, I, L))) rfl ?_
  refine mB 1 (s2 := (d + 6, 41, 1, [some (.ref 4), some (.int v0)], [.int v0], 0, 0, (mSH, I, L))) rfl ?_
  refine mBr (s2 := (d + 6, 41, 16, [some (.ref 4), some (.int v0)], [], 0, 0, (mSH, I, L))) (s3 := (d + 6, 41, 4, [some (.ref 4), some (.int v0)], [], 0, 0, (mSH, I, L))) rfl (fun c0 => ?_) (fun c0 => ?_)
  · refine mB 1 (s2 := (d + 6, 41, 17, [some (.ref 4), some (.int v0)], [.int 0], 0, 0, (mSH, I, L))) rfl ?_
    refine mRt (r := (some (.int 0))) (h := (mSH, I, L)) rfl rfl ?_
    show mWP mTb_ mFT ro (d + 7, 95, 11, [some (.ref 0), some (.int v0)], [.int 0], 0, 0, (mSH, I, L)) _
    refine mBT (s2 := (d + 7, 95, 14, [some (.ref 0), some (.int v0)], [], 0, 0, (mSH, I, L))) rfl (by decide) ?_
    refine mB 2 (s2 := (d + 7, 95, 17, [some (.ref 0), some (.int v0)], [.int (-2), .ref 0], 0, 0, (mSH, I, L))) rfl ?_
    refine mCall (s2 := (d + 6, 103, 0, [some (.ref 0), some (.int (-2))], [], 0, 0, (mSH, I, L))) rfl ?_
    refine mB 2 (s2 := (d + 6, 103, 3, [some (.ref 0), some (.int (-2))], [.int (-2), .int (-2)], 0, 0, (mSH, I, L))) rfl ?_
    refine mBT (s2 := (d + 6, 103, 6, [some (.ref 0), some (.int (-2))], [], 0, 0, (mSH, I, L))) rfl (by decide) ?_
    refine mB 8 (s2 := (d + 6, 103, 49, [some (.ref 0), some (.int (-2))], [.int (-2)], 0, 0, (mSH, (mUp I 0 9 ((I 0 9) + 1)), L))) rfl ?_
    refine mRt (r := (some (.int (-2)))) (h := (mSH, (mUp I 0 9 ((I 0 9) + 1)), L)) rfl (mRet_int rfl) ?_
    show mWP mTb_ mFT ro (d + 7, 95, 20, [some (.ref 0), some (.int v0)], [.int (-2)], 0, 0, (mSH, (mUp I 0 9 ((I 0 9) + 1)), L)) _
    refine mRt (r := (some (.int (-2)))) (h := (mSH, (mUp I 0 9 ((I 0 9) + 1)), L)) rfl (mRet_int rfl) ?_
    exact hq _ _ (mFr.up (by rfl) mFr.rf) ⟨hI.1, hI.2.1, hI.2.2.1, hI.2.2.2.1, hI.2.2.2.2.1, hI.2.2.2.2.2.1, (mRk.up hI.2.2.2.2.2.2 (by rfl) (by rfl))⟩
  · refine mB 3 (s2 := (d + 6, 41, 9, [some (.ref 4), some (.int v0)], [.int (I 4 1), .int v0], 0, 0, (mSH, I, L))) rfl ?_
    refine mBr (s2 := (d + 6, 41, 16, [some (.ref 4), some (.int v0)], [], 0, 0, (mSH, I, L))) (s3 := (d + 6, 41, 12, [some (.ref 4), some (.int v0)], [], 0, 0, (mSH, I, L))) rfl (fun c1 => ?_) (fun c1 => ?_)
    · refine mB 1 (s2 := (d + 6, 41, 17, [some (.ref 4), some (.int v0)], [.int 0], 0, 0, (mSH, I, L))) rfl ?_
      refine mRt (r := (some (.int 0))) (h := (mSH, I, L)) rfl rfl ?_
      show mWP mTb_ mFT ro (d + 7, 95, 11, [some (.ref 0), some (.int v0)], [.int 0], 0, 0, (mSH, I, L)) _
      refine mBT (s2 := (d + 7, 95, 14, [some (.ref 0), some (.int v0)], [], 0, 0, (mSH, I, L))) rfl (by decide) ?_
      refine mB 2 (s2 := (d + 7, 95, 17, [some (.ref 0), some (.int v0)], [.int (-2), .ref 0], 0, 0, (mSH, I, L))) rfl ?_
      refine mCall (s2 := (d + 6, 103, 0, [some (.ref 0), some (.int (-2))], [], 0, 0, (mSH, I, L))) rfl ?_
      refine mB 2 (s2 := (d + 6, 103, 3, [some (.ref 0), some (.int (-2))], [.int (-2), .int (-2)], 0, 0, (mSH, I, L))) rfl ?_
      refine mBT (s2 := (d + 6, 103, 6, [some (.ref 0), some (.int (-2))], [], 0, 0, (mSH, I, L))) rfl (by decide) ?_
      refine mB 8 (s2 := (d + 6, 103, 49, [some (.ref 0), some (.int (-2))], [.int (-2)], 0, 0, (mSH, (mUp I 0 9 ((I 0 9) + 1)), L))) rfl ?_
      refine mRt (r := (some (.int (-2)))) (h := (mSH, (mUp I 0 9 ((I 0 9) + 1)), L)) rfl (mRet_int rfl) ?_
      show mWP mTb_ mFT ro (d + 7, 95, 20, [some (.ref 0), some (.int v0)], [.int (-2)], 0, 0, (mSH, (mUp I 0 9 ((I 0 9) + 1)), L)) _
      refine mRt (r := (some (.int (-2)))) (h := (mSH, (mUp I 0 9 ((I 0 9) + 1)), L)) rfl (mRet_int rfl) ?_
      exact hq _ _ (mFr.up (by rfl) mFr.rf) ⟨hI.1, hI.2.1, hI.2.2.1, hI.2.2.2.1, hI.2.2.2.2.1, hI.2.2.2.2.2.1, (mRk.up hI.2.2.2.2.2.2 (by rfl) (by rfl))⟩
    · refine mB 2 (s2 := (d + 6, 41, 17, [some (.ref 4), some (.int v0)], [.int 1], 0, 0, (mSH, I, L))) rfl ?_
      refine mRt (r := (some (.int 1))) (h := (mSH, I, L)) rfl rfl ?_
      show mWP mTb_ mFT ro (d + 7, 95, 11, [some (.ref 0), some (.int v0)], [.int 1], 0, 0, (mSH, I, L)) _
      refine mBF (s3 := (d + 7, 95, 21, [some (.ref 0), some (.int v0)], [], 0, 0, (mSH, I, L))) rfl (by decide) ?_
      refine mB 2 (s2 := (d + 7, 95, 23, [some (.ref 0), some (.int v0)], [.int 0, .ref 0], 0, 0, (mSH, I, L))) rfl ?_
      refine mCall (s2 := (d + 6, 106, 0, [some (.ref 0), some (.int 0)], [], 0, 0, (mSH, I, L))) rfl ?_
      refine w_finds hI.1 hI.2.1 hI.2.2.1 hI.2.2.2.2.2.2 ?_ ?_
      · intro K1 hK1
        show mWP mTb_ mFT ro (d + 7, 95, 26, [some (.ref 0), some (.int v0)], [.int 0], 0, 0, (mSH, (mMix mSX I K1), L)) _
        refine mBT (s2 := (d + 7, 95, 29, [some (.ref 0), some (.int v0)], [], 0, 0, (mSH, (mMix mSX I K1), L))) rfl (by decide) ?_
        refine mB 2 (s2 := (d + 7, 95, 32, [some (.ref 0), some (.int v0)], [.int (-3), .ref 0], 0, 0, (mSH, (mMix mSX I K1), L))) rfl ?_
        refine mCall (s2 := (d + 6, 103, 0, [some (.ref 0), some (.int (-3))], [], 0, 0, (mSH, (mMix mSX I K1), L))) rfl ?_
        refine mB 2 (s2 := (d + 6, 103, 3, [some (.ref 0), some (.int (-3))], [.int (-2), .int (-3)], 0, 0, (mSH, (mMix mSX I K1), L))) rfl ?_
        refine mBF (s3 := (d + 6, 103, 19, [some (.ref 0), some (.int (-3))], [], 0, 0, (mSH, (mMix mSX I K1), L))) rfl (by decide) ?_
        refine mB 2 (s2 := (d + 6, 103, 22, [some (.ref 0), some (.int (-3))], [.int (-3), .int (-3)], 0, 0, (mSH, (mMix mSX I K1), L))) rfl ?_
        refine mBT (s2 := (d + 6, 103, 25, [some (.ref 0), some (.int (-3))], [], 0, 0, (mSH, (mMix mSX I K1), L))) rfl (by decide) ?_
        refine mB 8 (s2 := (d + 6, 103, 49, [some (.ref 0), some (.int (-3))], [.int (-3)], 0, 0, (mSH, (mUp (mMix mSX I K1) 0 10 ((I 0 10) + 1)), L))) rfl ?_
        refine mRt (r := (some (.int (-3)))) (h := (mSH, (mUp (mMix mSX I K1) 0 10 ((I 0 10) + 1)), L)) rfl (mRet_int rfl) ?_
        show mWP mTb_ mFT ro (d + 7, 95, 35, [some (.ref 0), some (.int v0)], [.int (-3)], 0, 0, (mSH, (mUp (mMix mSX I K1) 0 10 ((I 0 10) + 1)), L)) _
        refine mRt (r := (some (.int (-3)))) (h := (mSH, (mUp (mMix mSX I K1) 0 10 ((I 0 10) + 1)), L)) rfl (mRet_int rfl) ?_
        exact hq _ _ (mFr.up (by rfl) (mFr.mix (by decide) mFr.rf)) ⟨hI.1, hI.2.1, hK1.2, hI.2.2.2.1, hI.2.2.2.2.1, hI.2.2.2.2.2.1, (mRk.up hK1.1 (by rfl) (by rfl))⟩
      · intro K1 hK1
        show mWP mTb_ mFT ro (d + 7, 95, 26, [some (.ref 0), some (.int v0)], [.int 1], 0, 0, (mSH, (mMix mSX I K1), L)) _
        refine mBF (s3 := (d + 7, 95, 36, [some (.ref 0), some (.int v0)], [], 0, 0, (mSH, (mMix mSX I K1), L))) rfl (by decide) ?_
        refine mB 6 (s2 := (d + 7, 95, 48, [some (.ref 0), some (.int v0)], [.int v0, .ref 4, .ref 25], 0, 0, (mSH, (mMix mSX I K1), L))) rfl ?_
        refine mCall (s2 := (d + 6, 42, 0, [some (.ref 4), some (.int v0)], [], 0, 0, (mSH, (mMix mSX I K1), L))) rfl ?_
        refine w_at_4 hI.2.1 ?_
        show mWP mTb_ mFT ro (d + 7, 95, 51, [some (.ref 0), some (.int v0)], [.int (mAt (mMix mSX I K1) 4 5 v0), .ref 25], 0, 0, (mSH, (mMix mSX I K1), L)) _
        refine mB 3 (s2 := (d + 7, 95, 56, [some (.ref 0), some (.int v0)], [.int v0, .ref 22, .int (mAt (mMix mSX I K1) 4 5 v0), .ref 25], 0, 0, (mSH, (mMix mSX I K1), L))) rfl ?_
        refine mCall (s2 := (d + 6, 17, 0, [some (.ref 22), some (.int v0)], [], 0, 0, (mSH, (mMix mSX I K1), L))) rfl ?_
        refine w_yearsOf hI.1 hK1.2 (fun r2 => ?_)
        show mWP mTb_ mFT ro (d + 7, 95, 59, [some (.ref 0), some (.int v0)], [.int r2, .int (mAt (mMix mSX I K1) 4 5 v0), .ref 25], 0, 0, (mSH, (mMix mSX I K1), L)) _
        refine mCall (s2 := (d + 6, 5, 0, [some (.ref 25), some (.int (mAt (mMix mSX I K1) 4 5 v0)), some (.int r2), none], [], 0, 0, (mSH, (mMix mSX I K1), L))) rfl ?_
        refine w_frac (fun K3 hK3 => ?_)
        show mWP mTb_ mFT ro (d + 7, 95, 62, [some (.ref 0), some (.int v0)], [], 0, 0, (mSH, (mMix [25] (mMix mSX I K1) K3), L)) _
        refine mB 1 (s2 := (d + 7, 95, 63, [some (.ref 0), some (.int v0)], [.int 1], 0, 0, (mSH, (mMix [25] (mMix mSX I K1) K3), L))) rfl ?_
        refine mRt (r := (some (.int 1))) (h := (mSH, (mMix [25] (mMix mSX I K1) K3), L)) rfl (mRet_int rfl) ?_
        exact hq _ _ (mFr.mix (by decide) (mFr.mix (by decide) mFr.rf)) ⟨hI.1, hI.2.1, hK1.2, hI.2.2.2.1, hI.2.2.2.2.1, hI.2.2.2.2.2.1, hK1.1⟩
theorem u_fastest {ro : Nat → Nat × (Nat → Int32)} {Q : mPo} {d : Nat} {I : Nat → Nat → Int32} {L : Nat → Nat → Int64} {v0 : Int32} (hI : mIC I) (hq : ∀ r I1, mFr mSQ I I1 → mIC I1 → Q (some (.int r)) (mSH, I1, L))   : mWP mTb_ mFT ro (d + 7, 96, 0, [some (.ref 0), some (.int v0)], [], 0, 0, (mSH, I, L)) Q := by
  refine mB 1 (s2 := (d + 7, 96, 1, [some (.ref 0), some (.int v0)], [.int v0], 0, 0, (mSH, I, L))) rfl ?_
  refine mCall (s2 := (d + 6, 108, 0, [some (.int v0)], [], 0, 0, (mSH, I, L))) rfl ?_
  refine mB 1 (s2 := (d + 6, 108, 1, [some (.int v0)], [.int v0], 0, 0, (mSH, I, L))) rfl ?_
  refine mBr (s2 := (d + 6, 108, 9, [some (.int v0)], [], 0, 0, (mSH, I, L))) (s3 := (d + 6, 108, 4, [some (.int v0)], [], 0, 0, (mSH, I, L))) rfl (fun c0 => ?_) (fun c0 => ?_)
  · refine mB 2 (s2 := (d + 6, 108, 14, [some (.int v0)], [.int 1], 0, 0, (mSH, I, L))) rfl ?_
    refine mRt (r := (some (.int 1))) (h := (mSH, I, L)) rfl rfl ?_
    show mWP mTb_ mFT ro (d + 7, 96, 4, [some (.ref 0), some (.int v0)], [.int 1], 0, 0, (mSH, I, L)) _
    refine mBF (s3 := (d + 7, 96, 14, [some (.ref 0), some (.int v0)], [], 0, 0, (mSH, I, L))) rfl (by decide) ?_
    refine mB 2 (s2 := (d + 7, 96, 16, [some (.ref 0), some (.int v0)], [.int 0, .ref 0], 0, 0, (mSH, I, L))) rfl ?_
    refine mCall (s2 := (d + 6, 106, 0, [some (.ref 0), some (.int 0)], [], 0, 0, (mSH, I, L))) rfl ?_
    refine w_finds hI.1 hI.2.1 hI.2.2.1 hI.2.2.2.2.2.2 ?_ ?_
    · intro K1 hK1
      show mWP mTb_ mFT ro (d + 7, 96, 19, [some (.ref 0), some (.int v0)], [.int 0], 0, 0, (mSH, (mMix mSX I K1), L)) _
      refine mBT (s2 := (d + 7, 96, 22, [some (.ref 0), some (.int v0)], [], 0, 0, (mSH, (mMix mSX I K1), L))) rfl (by decide) ?_
      refine mB 2 (s2 := (d + 7, 96, 25, [some (.ref 0), some (.int v0)], [.int (-3), .ref 0], 0, 0, (mSH, (mMix mSX I K1), L))) rfl ?_
      refine mCall (s2 := (d + 6, 103, 0, [some (.ref 0), some (.int (-3))], [], 0, 0, (mSH, (mMix mSX I K1), L))) rfl ?_
      refine mB 2 (s2 := (d + 6, 103, 3, [some (.ref 0), some (.int (-3))], [.int (-2), .int (-3)], 0, 0, (mSH, (mMix mSX I K1), L))) rfl ?_
      refine mBF (s3 := (d + 6, 103, 19, [some (.ref 0), some (.int (-3))], [], 0, 0, (mSH, (mMix mSX I K1), L))) rfl (by decide) ?_
      refine mB 2 (s2 := (d + 6, 103, 22, [some (.ref 0), some (.int (-3))], [.int (-3), .int (-3)], 0, 0, (mSH, (mMix mSX I K1), L))) rfl ?_
      refine mBT (s2 := (d + 6, 103, 25, [some (.ref 0), some (.int (-3))], [], 0, 0, (mSH, (mMix mSX I K1), L))) rfl (by decide) ?_
      refine mB 8 (s2 := (d + 6, 103, 49, [some (.ref 0), some (.int (-3))], [.int (-3)], 0, 0, (mSH, (mUp (mMix mSX I K1) 0 10 ((I 0 10) + 1)), L))) rfl ?_
      refine mRt (r := (some (.int (-3)))) (h := (mSH, (mUp (mMix mSX I K1) 0 10 ((I 0 10) + 1)), L)) rfl (mRet_int rfl) ?_
      show mWP mTb_ mFT ro (d + 7, 96, 28, [some (.ref 0), some (.int v0)], [.int (-3)], 0, 0, (mSH, (mUp (mMix mSX I K1) 0 10 ((I 0 10) + 1)), L)) _
      refine mRt (r := (some (.int (-3)))) (h := (mSH, (mUp (mMix mSX I K1) 0 10 ((I 0 10) + 1)), L)) rfl (mRet_int rfl) ?_
      exact hq _ _ (mFr.up (by rfl) (mFr.mix (by decide) mFr.rf)) ⟨hI.1, hI.2.1, hK1.2, hI.2.2.2.1, hI.2.2.2.2.1, hI.2.2.2.2.2.1, (mRk.up hK1.1 (by rfl) (by rfl))⟩
    · intro K1 hK1
      show mWP mTb_ mFT ro (d + 7, 96, 19, [some (.ref 0), some (.int v0)], [.int 1], 0, 0, (mSH, (mMix mSX I K1), L)) _
      refine mBF (s3 := (d + 7, 96, 29, [some (.ref 0), some (.int v0)], [], 0, 0, (mSH, (mMix mSX I K1), L))) rfl (by decide) ?_
      refine mB 3 (s2 := (d + 7, 96, 34, [some (.ref 0), some (.int v0)], [.int v0, .ref 22], 0, 0, (mSH, (mMix mSX I K1), L))) rfl ?_
      refine mBT (s2 := (d + 7, 96, 37, [some (.ref 0), some (.int v0)], [.ref 22], 0, 0, (mSH, (mMix mSX I K1), L))) rfl (by first | (simp only [of_decide_eq_true c0]; first | decide | rfl) | decide | rfl) ?_
      refine mB 2 (s2 := (d + 7, 96, 42, [some (.ref 0), some (.int v0)], [.int 1, .ref 22], 0, 0, (mSH, (mMix mSX I K1), L))) rfl ?_
      refine mCall (s2 := (d + 6, 25, 0, [some (.ref 22), some (.int 1), none, none], [], 0, 0, (mSH, (mMix mSX I K1), L))) rfl ?_
      refine w_ext hI.1 hI.2.1 hK1.2 (fun r2 => ?_)
      show mWP mTb_ mFT ro (d + 7, 96, 45, [some (.ref 0), some (.int v0)], [.int r2], 0, 0, (mSH, (mMix mSX I K1), L)) _
      refine mRt (r := (some (.int r2))) (h := (mSH, (mMix mSX I K1), L)) rfl (mRet_int rfl) ?_
      exact hq _ _ (mFr.mix (by decide) mFr.rf) ⟨hI.1, hI.2.1, hK1.2, hI.2.2.2.1, hI.2.2.2.2.1, hI.2.2.2.2.2.1, hK1.1⟩
  · refine mB 2 (s2 := (d + 6, 108, 6, [some (.int v0)], [.int 1, .int v0], 0, 0, (mSH, I, L))) rfl ?_
    refine mBr (s2 := (d + 6, 108, 9, [some (.int v0)], [], 0, 0, (mSH, I, L))) (s3 := (d + 6, 108, 13, [some (.int v0)], [], 0, 0, (mSH, I, L))) rfl (fun c1 => ?_) (fun c1 => ?_)
    · refine mB 2 (s2 := (d + 6, 108, 14, [some (.int v0)], [.int 1], 0, 0, (mSH, I, L))) rfl ?_
      refine mRt (r := (some (.int 1))) (h := (mSH, I, L)) rfl rfl ?_
      show mWP mTb_ mFT ro (d + 7, 96, 4, [some (.ref 0), some (.int v0)], [.int 1], 0, 0, (mSH, I, L)) _
      refine mBF (s3 := (d + 7, 96, 14, [some (.ref 0), some (.int v0)], [], 0, 0, (mSH, I, L))) rfl (by decide) ?_
      refine mB 2 (s2 := (d + 7, 96, 16, [some (.ref 0), some (.int v0)], [.int 0, .ref 0], 0, 0, (mSH, I, L))) rfl ?_
      refine mCall (s2 := (d + 6, 106, 0, [some (.ref 0), some (.int 0)], [], 0, 0, (mSH, I, L))) rfl ?_
      refine w_finds hI.1 hI.2.1 hI.2.2.1 hI.2.2.2.2.2.2 ?_ ?_
      · intro K3 hK3
        show mWP mTb_ mFT ro (d + 7, 96, 19, [some (.ref 0), some (.int v0)], [.int 0], 0, 0, (mSH, (mMix mSX I K3), L)) _
        refine mBT (s2 := (d + 7, 96, 22, [some (.ref 0), some (.int v0)], [], 0, 0, (mSH, (mMix mSX I K3), L))) rfl (by decide) ?_
        refine mB 2 (s2 := (d + 7, 96, 25, [some (.ref 0), some (.int v0)], [.int (-3), .ref 0], 0, 0, (mSH, (mMix mSX I K3), L))) rfl ?_
        refine mCall (s2 := (d + 6, 103, 0, [some (.ref 0), some (.int (-3))], [], 0, 0, (mSH, (mMix mSX I K3), L))) rfl ?_
        refine mB 2 (s2 := (d + 6, 103, 3, [some (.ref 0), some (.int (-3))], [.int (-2), .int (-3)], 0, 0, (mSH, (mMix mSX I K3), L))) rfl ?_
        refine mBF (s3 := (d + 6, 103, 19, [some (.ref 0), some (.int (-3))], [], 0, 0, (mSH, (mMix mSX I K3), L))) rfl (by decide) ?_
        refine mB 2 (s2 := (d + 6, 103, 22, [some (.ref 0), some (.int (-3))], [.int (-3), .int (-3)], 0, 0, (mSH, (mMix mSX I K3), L))) rfl ?_
        refine mBT (s2 := (d + 6, 103, 25, [some (.ref 0), some (.int (-3))], [], 0, 0, (mSH, (mMix mSX I K3), L))) rfl (by decide) ?_
        refine mB 8 (s2 := (d + 6, 103, 49, [some (.ref 0), some (.int (-3))], [.int (-3)], 0, 0, (mSH, (mUp (mMix mSX I K3) 0 10 ((I 0 10) + 1)), L))) rfl ?_
        refine mRt (r := (some (.int (-3)))) (h := (mSH, (mUp (mMix mSX I K3) 0 10 ((I 0 10) + 1)), L)) rfl (mRet_int rfl) ?_
        show mWP mTb_ mFT ro (d + 7, 96, 28, [some (.ref 0), some (.int v0)], [.int (-3)], 0, 0, (mSH, (mUp (mMix mSX I K3) 0 10 ((I 0 10) + 1)), L)) _
        refine mRt (r := (some (.int (-3)))) (h := (mSH, (mUp (mMix mSX I K3) 0 10 ((I 0 10) + 1)), L)) rfl (mRet_int rfl) ?_
        exact hq _ _ (mFr.up (by rfl) (mFr.mix (by decide) mFr.rf)) ⟨hI.1, hI.2.1, hK3.2, hI.2.2.2.1, hI.2.2.2.2.1, hI.2.2.2.2.2.1, (mRk.up hK3.1 (by rfl) (by rfl))⟩
      · intro K3 hK3
        show mWP mTb_ mFT ro (d + 7, 96, 19, [some (.ref 0), some (.int v0)], [.int 1], 0, 0, (mSH, (mMix mSX I K3), L)) _
        refine mBF (s3 := (d + 7, 96, 29, [some (.ref 0), some (.int v0)], [], 0, 0, (mSH, (mMix mSX I K3), L))) rfl (by decide) ?_
        refine mB 3 (s2 := (d + 7, 96, 34, [some (.ref 0), some (.int v0)], [.int v0, .ref 22], 0, 0, (mSH, (mMix mSX I K3), L))) rfl ?_
        refine mBF (s3 := (d + 7, 96, 41, [some (.ref 0), some (.int v0)], [.ref 22], 0, 0, (mSH, (mMix mSX I K3), L))) rfl (by first | (simp only [of_decide_eq_true c1]; first | decide | rfl) | decide | rfl) ?_
        refine mB 1 (s2 := (d + 7, 96, 42, [some (.ref 0), some (.int v0)], [.int 0, .ref 22], 0, 0, (mSH, (mMix mSX I K3), L))) rfl ?_
        refine mCall (s2 := (d + 6, 25, 0, [some (.ref 22), some (.int 0), none, none], [], 0, 0, (mSH, (mMix mSX I K3), L))) rfl ?_
        refine w_ext hI.1 hI.2.1 hK3.2 (fun r4 => ?_)
        show mWP mTb_ mFT ro (d + 7, 96, 45, [some (.ref 0), some (.int v0)], [.int r4], 0, 0, (mSH, (mMix mSX I K3), L)) _
        refine mRt (r := (some (.int r4))) (h := (mSH, (mMix mSX I K3), L)) rfl (mRet_int rfl) ?_
        exact hq _ _ (mFr.mix (by decide) mFr.rf) ⟨hI.1, hI.2.1, hK3.2, hI.2.2.2.1, hI.2.2.2.2.1, hI.2.2.2.2.2.1, hK3.1⟩
    · refine mB 1 (s2 := (d + 6, 108, 14, [some (.int v0)], [.int 0], 0, 0, (mSH, I, L))) rfl ?_
      refine mRt (r := (some (.int 0))) (h := (mSH, I, L)) rfl rfl ?_
      show mWP mTb_ mFT ro (d + 7, 96, 4, [some (.ref 0), some (.int v0)], [.int 0], 0, 0, (mSH, I, L)) _
      refine mBT (s2 := (d + 7, 96, 7, [some (.ref 0), some (.int v0)], [], 0, 0, (mSH, I, L))) rfl (by decide) ?_
      refine mB 2 (s2 := (d + 7, 96, 10, [some (.ref 0), some (.int v0)], [.int (-2), .ref 0], 0, 0, (mSH, I, L))) rfl ?_
      refine mCall (s2 := (d + 6, 103, 0, [some (.ref 0), some (.int (-2))], [], 0, 0, (mSH, I, L))) rfl ?_
      refine mB 2 (s2 := (d + 6, 103, 3, [some (.ref 0), some (.int (-2))], [.int (-2), .int (-2)], 0, 0, (mSH, I, L))) rfl ?_
      refine mBT (s2 := (d + 6, 103, 6, [some (.ref 0), some (.int (-2))], [], 0, 0, (mSH, I, L))) rfl (by decide) ?_
      refine mB 8 (s2 := (d + 6, 103, 49, [some (.ref 0), some (.int (-2))], [.int (-2)], 0, 0, (mSH, (mUp I 0 9 ((I 0 9) + 1)), L))) rfl ?_
      refine mRt (r := (some (.int (-2)))) (h := (mSH, (mUp I 0 9 ((I 0 9) + 1)), L)) rfl (mRet_int rfl) ?_
      show mWP mTb_ mFT ro (d + 7, 96, 13, [some (.ref 0), some (.int v0)], [.int (-2)], 0, 0, (mSH, (mUp I 0 9 ((I 0 9) + 1)), L)) _
      refine mRt (r := (some (.int (-2)))) (h := (mSH, (mUp I 0 9 ((I 0 9) + 1)), L)) rfl (mRet_int rfl) ?_
      exact hq _ _ (mFr.up (by rfl) mFr.rf) ⟨hI.1, hI.2.1, hI.2.2.1, hI.2.2.2.1, hI.2.2.2.2.1, hI.2.2.2.2.2.1, (mRk.up hI.2.2.2.2.2.2 (by rfl) (by rfl))⟩
theorem u_part {ro : Nat → Nat × (Nat → Int32)} {Q : mPo} {d : Nat} {I : Nat → Nat → Int32} {L : Nat → Nat → Int64} {v0 : Int32} (hI : mIC I) (hq : ∀ r I1, mFr mSQ I I1 → mIC I1 → Q (some (.int r)) (mSH, I1, L))   : mWP mTb_ mFT ro (d + 7, 97, 0, [some (.ref 0), some (.int v0)], [], 0, 0, (mSH, I, L)) Q := by
  refine mB 1 (s2 := (d + 7, 97, 1, [some (.ref 0), some (.int v0)], [.int v0], 0, 0, (mSH, I, L))) rfl ?_
  refine mCall (s2 := (d + 6, 108, 0, [some (.int v0)], [], 0, 0, (mSH, I, L))) rfl ?_
  refine mB 1 (s2 := (d + 6, 108, 1, [some (.int v0)], [.int v0], 0, 0, (mSH, I, L))) rfl ?_
  refine mBr (s2 := (d + 6, 108, 9, [some (.int v0)], [], 0, 0, (mSH, I, L))) (s3 := (d + 6, 108, 4, [some (.int v0)], [], 0, 0, (mSH, I, L))) rfl (fun c0 => ?_) (fun c0 => ?_)
  · refine mB 2 (s2 := (d + 6, 108, 14, [some (.int v0)], [.int 1], 0, 0, (mSH, I, L))) rfl ?_
    refine mRt (r := (some (.int 1))) (h := (mSH, I, L)) rfl rfl ?_
    show mWP mTb_ mFT ro (d + 7, 97, 4, [some (.ref 0), some (.int v0)], [.int 1], 0, 0, (mSH, I, L)) _
    refine mBF (s3 := (d + 7, 97, 14, [some (.ref 0), some (.int v0)], [], 0, 0, (mSH, I, L))) rfl (by decide) ?_
    refine mB 1 (s2 := (d + 7, 97, 15, [some (.ref 0), some (.int v0)], [.int v0], 0, 0, (mSH, I, L))) rfl ?_
    refine mBT (s2 := (d + 7, 97, 18, [some (.ref 0), some (.int v0)], [], 0, 0, (mSH, I, L))) rfl (by first | (simp only [of_decide_eq_true c0]; first | decide | rfl) | decide | rfl) ?_
    refine mB 4 (s2 := (d + 7, 97, 35, [some (.ref 0), some (.int v0)], [.int (I 25 0)], 0, 0, (mSH, I, L))) rfl ?_
    refine mRt (r := (some (.int (I 25 0)))) (h := (mSH, I, L)) rfl (mRet_int rfl) ?_
    exact hq _ _ mFr.rf ⟨hI.1, hI.2.1, hI.2.2.1, hI.2.2.2.1, hI.2.2.2.2.1, hI.2.2.2.2.2.1, hI.2.2.2.2.2.2⟩
  · refine mB 2 (s2 := (d + 6, 108, 6, [some (.int v0)], [.int 1, .int v0], 0, 0, (mSH, I, L))) rfl ?_
    refine mBr (s2 := (d + 6, 108, 9, [some (.int v0)], [], 0, 0, (mSH, I, L))) (s3 := (d + 6, 108, 13, [some (.int v0)], [], 0, 0, (mSH, I, L))) rfl (fun c1 => ?_) (fun c1 => ?_)
    · refine mB 2 (s2 := (d + 6, 108, 14, [some (.int v0)], [.int 1], 0, 0, (mSH, I, L))) rfl ?_
      refine mRt (r := (some (.int 1))) (h := (mSH, I, L)) rfl rfl ?_
      show mWP mTb_ mFT ro (d + 7, 97, 4, [some (.ref 0), some (.int v0)], [.int 1], 0, 0, (mSH, I, L)) _
      refine mBF (s3 := (d + 7, 97, 14, [some (.ref 0), some (.int v0)], [], 0, 0, (mSH, I, L))) rfl (by decide) ?_
      refine mB 1 (s2 := (d + 7, 97, 15, [some (.ref 0), some (.int v0)], [.int v0], 0, 0, (mSH, I, L))) rfl ?_
      refine mBF (s3 := (d + 7, 97, 28, [some (.ref 0), some (.int v0)], [], 0, 0, (mSH, I, L))) rfl (by first | (simp only [of_decide_eq_true c1]; first | decide | rfl) | decide | rfl) ?_
      refine mB 3 (s2 := (d + 7, 97, 35, [some (.ref 0), some (.int v0)], [.int (I 25 1)], 0, 0, (mSH, I, L))) rfl ?_
      refine mRt (r := (some (.int (I 25 1)))) (h := (mSH, I, L)) rfl (mRet_int rfl) ?_
      exact hq _ _ mFr.rf ⟨hI.1, hI.2.1, hI.2.2.1, hI.2.2.2.1, hI.2.2.2.2.1, hI.2.2.2.2.2.1, hI.2.2.2.2.2.2⟩
    · refine mB 1 (s2 := (d + 6, 108, 14, [some (.int v0)], [.int 0], 0, 0, (mSH, I, L))) rfl ?_
      refine mRt (r := (some (.int 0))) (h := (mSH, I, L)) rfl rfl ?_
      show mWP mTb_ mFT ro (d + 7, 97, 4, [some (.ref 0), some (.int v0)], [.int 0], 0, 0, (mSH, I, L)) _
      refine mBT (s2 := (d + 7, 97, 7, [some (.ref 0), some (.int v0)], [], 0, 0, (mSH, I, L))) rfl (by decide) ?_
      refine mB 2 (s2 := (d + 7, 97, 10, [some (.ref 0), some (.int v0)], [.int (-2), .ref 0], 0, 0, (mSH, I, L))) rfl ?_
      refine mCall (s2 := (d + 6, 103, 0, [some (.ref 0), some (.int (-2))], [], 0, 0, (mSH, I, L))) rfl ?_
      refine mB 2 (s2 := (d + 6, 103, 3, [some (.ref 0), some (.int (-2))], [.int (-2), .int (-2)], 0, 0, (mSH, I, L))) rfl ?_
      refine mBT (s2 := (d + 6, 103, 6, [some (.ref 0), some (.int (-2))], [], 0, 0, (mSH, I, L))) rfl (by decide) ?_
      refine mB 8 (s2 := (d + 6, 103, 49, [some (.ref 0), some (.int (-2))], [.int (-2)], 0, 0, (mSH, (mUp I 0 9 ((I 0 9) + 1)), L))) rfl ?_
      refine mRt (r := (some (.int (-2)))) (h := (mSH, (mUp I 0 9 ((I 0 9) + 1)), L)) rfl (mRet_int rfl) ?_
      show mWP mTb_ mFT ro (d + 7, 97, 13, [some (.ref 0), some (.int v0)], [.int (-2)], 0, 0, (mSH, (mUp I 0 9 ((I 0 9) + 1)), L)) _
      refine mRt (r := (some (.int (-2)))) (h := (mSH, (mUp I 0 9 ((I 0 9) + 1)), L)) rfl (mRet_int rfl) ?_
      exact hq _ _ (mFr.up (by rfl) mFr.rf) ⟨hI.1, hI.2.1, hI.2.2.1, hI.2.2.2.1, hI.2.2.2.2.1, hI.2.2.2.2.2.1, (mRk.up hI.2.2.2.2.2.2 (by rfl) (by rfl))⟩
theorem u_told {ro : Nat → Nat × (Nat → Int32)} {Q : mPo} {d : Nat} {I : Nat → Nat → Int32} {L : Nat → Nat → Int64} {v0 : Int32} (hI : mIC I) (hq : ∀ r I1, mFr mSQ I I1 → mIC I1 → Q (some (.int r)) (mSH, I1, L))   : mWP mTb_ mFT ro (d + 7, 101, 0, [some (.ref 0), some (.int v0)], [], 0, 0, (mSH, I, L)) Q := by
  refine mB 1 (s2 := (d + 7, 101, 1, [some (.ref 0), some (.int v0)], [.int v0], 0, 0, (mSH, I, L))) rfl ?_
  refine mBr (s2 := (d + 7, 101, 10, [some (.ref 0), some (.int v0)], [], 0, 0, (mSH, I, L))) (s3 := (d + 7, 101, 4, [some (.ref 0), some (.int v0)], [], 0, 0, (mSH, I, L))) rfl (fun c0 => ?_) (fun c0 => ?_)
  · refine mB 2 (s2 := (d + 7, 101, 13, [some (.ref 0), some (.int v0)], [.int (-2), .ref 0], 0, 0, (mSH, I, L))) rfl ?_
    refine mCall (s2 := (d + 6, 103, 0, [some (.ref 0), some (.int (-2))], [], 0, 0, (mSH, I, L))) rfl ?_
    refine mB 2 (s2 := (d + 6, 103, 3, [some (.ref 0), some (.int (-2))], [.int (-2), .int (-2)], 0, 0, (mSH, I, L))) rfl ?_
    refine mBT (s2 := (d + 6, 103, 6, [some (.ref 0), some (.int (-2))], [], 0, 0, (mSH, I, L))) rfl (by decide) ?_
    refine mB 8 (s2 := (d + 6, 103, 49, [some (.ref 0), some (.int (-2))], [.int (-2)], 0, 0, (mSH, (mUp I 0 9 ((I 0 9) + 1)), L))) rfl ?_
    refine mRt (r := (some (.int (-2)))) (h := (mSH, (mUp I 0 9 ((I 0 9) + 1)), L)) rfl (mRet_int rfl) ?_
    show mWP mTb_ mFT ro (d + 7, 101, 16, [some (.ref 0), some (.int v0)], [.int (-2)], 0, 0, (mSH, (mUp I 0 9 ((I 0 9) + 1)), L)) _
    refine mRt (r := (some (.int (-2)))) (h := (mSH, (mUp I 0 9 ((I 0 9) + 1)), L)) rfl (mRet_int rfl) ?_
    exact hq _ _ (mFr.up (by rfl) mFr.rf) ⟨hI.1, hI.2.1, hI.2.2.1, hI.2.2.2.1, hI.2.2.2.2.1, hI.2.2.2.2.2.1, (mRk.up hI.2.2.2.2.2.2 (by rfl) (by rfl))⟩
  · refine mB 2 (s2 := (d + 7, 101, 7, [some (.ref 0), some (.int v0)], [.int 9, .int v0], 0, 0, (mSH, I, L))) rfl ?_
    refine mBr (s2 := (d + 7, 101, 17, [some (.ref 0), some (.int v0)], [], 0, 0, (mSH, I, L))) (s3 := (d + 7, 101, 10, [some (.ref 0), some (.int v0)], [], 0, 0, (mSH, I, L))) rfl (fun c1 => ?_) (fun c1 => ?_)
    · refine mB 2 (s2 := (d + 7, 101, 19, [some (.ref 0), some (.int v0)], [.int v0, .ref 0], 0, 0, (mSH, I, L))) rfl ?_
      by_cases c2 : v0 = 0
      · refine mCall (s2 := (d + 6, 107, 0, [some (.ref 0), some (.int v0)], [], 0, 0, (mSH, I, L))) rfl ?_
        refine mB 1 (s2 := (d + 6, 107, 1, [some (.ref 0), some (.int v0)], [.int v0], 0, 0, (mSH, I, L))) rfl ?_
        refine mSw1 (t := (d + 6, 107, 44, [some (.ref 0), some (.int v0)], [], 0, 0, (mSH, I, L))) rfl (by simp only [c2]; rfl) ?_
        refine mB 2 (s2 := (d + 6, 107, 48, [some (.ref 0), some (.int v0)], [.int (I 0 9)], 0, 0, (mSH, I, L))) rfl ?_
        refine mRt (r := (some (.int (I 0 9)))) (h := (mSH, I, L)) rfl (mRet_int rfl) ?_
        show mWP mTb_ mFT ro (d + 7, 101, 22, [some (.ref 0), some (.int v0)], [.int (I 0 9)], 0, 0, (mSH, I, L)) _
        refine mRt (r := (some (.int (I 0 9)))) (h := (mSH, I, L)) rfl (mRet_int rfl) ?_
        exact hq _ _ mFr.rf ⟨hI.1, hI.2.1, hI.2.2.1, hI.2.2.2.1, hI.2.2.2.2.1, hI.2.2.2.2.2.1, hI.2.2.2.2.2.2⟩
      · by_cases c3 : v0 = 1
        · refine mCall (s2 := (d + 6, 107, 0, [some (.ref 0), some (.int v0)], [], 0, 0, (mSH, I, L))) rfl ?_
          refine mB 1 (s2 := (d + 6, 107, 1, [some (.ref 0), some (.int v0)], [.int v0], 0, 0, (mSH, I, L))) rfl ?_
          refine mSw1 (t := (d + 6, 107, 49, [some (.ref 0), some (.int v0)], [], 0, 0, (mSH, I, L))) rfl (by simp only [c3]; rfl) ?_
          refine mB 2 (s2 := (d + 6, 107, 53, [some (.ref 0), some (.int v0)], [.int (I 0 10)], 0, 0, (mSH, I, L))) rfl ?_
          refine mRt (r := (some (.int (I 0 10)))) (h := (mSH, I, L)) rfl (mRet_int rfl) ?_
          show mWP mTb_ mFT ro (d + 7, 101, 22, [some (.ref 0), some (.int v0)], [.int (I 0 10)], 0, 0, (mSH, I, L)) _
          refine mRt (r := (some (.int (I 0 10)))) (h := (mSH, I, L)) rfl (mRet_int rfl) ?_
          exact hq _ _ mFr.rf ⟨hI.1, hI.2.1, hI.2.2.1, hI.2.2.2.1, hI.2.2.2.2.1, hI.2.2.2.2.2.1, hI.2.2.2.2.2.2⟩
        · by_cases c4 : v0 = 2
          · refine mCall (s2 := (d + 6, 107, 0, [some (.ref 0), some (.int v0)], [], 0, 0, (mSH, I, L))) rfl ?_
            refine mB 1 (s2 := (d + 6, 107, 1, [some (.ref 0), some (.int v0)], [.int v0], 0, 0, (mSH, I, L))) rfl ?_
            refine mSw1 (t := (d + 6, 107, 54, [some (.ref 0), some (.int v0)], [], 0, 0, (mSH, I, L))) rfl (by simp only [c4]; rfl) ?_
            refine mB 2 (s2 := (d + 6, 107, 58, [some (.ref 0), some (.int v0)], [.int (I 0 11)], 0, 0, (mSH, I, L))) rfl ?_
            refine mRt (r := (some (.int (I 0 11)))) (h := (mSH, I, L)) rfl (mRet_int rfl) ?_
            show mWP mTb_ mFT ro (d + 7, 101, 22, [some (.ref 0), some (.int v0)], [.int (I 0 11)], 0, 0, (mSH, I, L)) _
            refine mRt (r := (some (.int (I 0 11)))) (h := (mSH, I, L)) rfl (mRet_int rfl) ?_
            exact hq _ _ mFr.rf ⟨hI.1, hI.2.1, hI.2.2.1, hI.2.2.2.1, hI.2.2.2.2.1, hI.2.2.2.2.2.1, hI.2.2.2.2.2.2⟩
          · by_cases c5 : v0 = 3
            · refine mCall (s2 := (d + 6, 107, 0, [some (.ref 0), some (.int v0)], [], 0, 0, (mSH, I, L))) rfl ?_
              refine mB 1 (s2 := (d + 6, 107, 1, [some (.ref 0), some (.int v0)], [.int v0], 0, 0, (mSH, I, L))) rfl ?_
              refine mSw1 (t := (d + 6, 107, 59, [some (.ref 0), some (.int v0)], [], 0, 0, (mSH, I, L))) rfl (by simp only [c5]; rfl) ?_
              refine mB 2 (s2 := (d + 6, 107, 63, [some (.ref 0), some (.int v0)], [.ref 26], 0, 0, (mSH, I, L))) rfl ?_
              refine mCall (s2 := (d + 5, 39, 0, [some (.ref 26)], [], 0, 0, (mSH, I, L))) rfl ?_
              refine mB 2 (s2 := (d + 5, 39, 4, [some (.ref 26)], [.int (I 26 1)], 0, 0, (mSH, I, L))) rfl ?_
              refine mRt (r := (some (.int (I 26 1)))) (h := (mSH, I, L)) rfl (mRet_int rfl) ?_
              show mWP mTb_ mFT ro (d + 6, 107, 66, [some (.ref 0), some (.int v0)], [.int (I 26 1)], 0, 0, (mSH, I, L)) _
              refine mRt (r := (some (.int (I 26 1)))) (h := (mSH, I, L)) rfl (mRet_int rfl) ?_
              show mWP mTb_ mFT ro (d + 7, 101, 22, [some (.ref 0), some (.int v0)], [.int (I 26 1)], 0, 0, (mSH, I, L)) _
              refine mRt (r := (some (.int (I 26 1)))) (h := (mSH, I, L)) rfl (mRet_int rfl) ?_
              exact hq _ _ mFr.rf ⟨hI.1, hI.2.1, hI.2.2.1, hI.2.2.2.1, hI.2.2.2.2.1, hI.2.2.2.2.2.1, hI.2.2.2.2.2.2⟩
            · by_cases c6 : v0 = 4
              · refine mCall (s2 := (d + 6, 107, 0, [some (.ref 0), some (.int v0)], [], 0, 0, (mSH, I, L))) rfl ?_
                refine mB 1 (s2 := (d + 6, 107, 1, [some (.ref 0), some (.int v0)], [.int v0], 0, 0, (mSH, I, L))) rfl ?_
                refine mSw1 (t := (d + 6, 107, 67, [some (.ref 0), some (.int v0)], [], 0, 0, (mSH, I, L))) rfl (by simp only [c6]; rfl) ?_
                refine mB 3 (s2 := (d + 6, 107, 74, [some (.ref 0), some (.int v0)], [.ref 2], 0, 0, (mSH, I, L))) rfl ?_
                refine mCall (s2 := (d + 5, 39, 0, [some (.ref 2)], [], 0, 0, (mSH, I, L))) rfl ?_
                refine mB 2 (s2 := (d + 5, 39, 4, [some (.ref 2)], [.int (I 2 1)], 0, 0, (mSH, I, L))) rfl ?_
                refine mRt (r := (some (.int (I 2 1)))) (h := (mSH, I, L)) rfl (mRet_int rfl) ?_
                show mWP mTb_ mFT ro (d + 6, 107, 77, [some (.ref 0), some (.int v0)], [.int (I 2 1)], 0, 0, (mSH, I, L)) _
                refine mRt (r := (some (.int (I 2 1)))) (h := (mSH, I, L)) rfl (mRet_int rfl) ?_
                show mWP mTb_ mFT ro (d + 7, 101, 22, [some (.ref 0), some (.int v0)], [.int (I 2 1)], 0, 0, (mSH, I, L)) _
                refine mRt (r := (some (.int (I 2 1)))) (h := (mSH, I, L)) rfl (mRet_int rfl) ?_
                exact hq _ _ mFr.rf ⟨hI.1, hI.2.1, hI.2.2.1, hI.2.2.2.1, hI.2.2.2.2.1, hI.2.2.2.2.2.1, hI.2.2.2.2.2.2⟩
              · by_cases c7 : v0 = 5
                · refine mCall (s2 := (d + 6, 107, 0, [some (.ref 0), some (.int v0)], [], 0, 0, (mSH, I, L))) rfl ?_
                  refine mB 1 (s2 := (d + 6, 107, 1, [some (.ref 0), some (.int v0)], [.int v0], 0, 0, (mSH, I, L))) rfl ?_
                  refine mSw1 (t := (d + 6, 107, 78, [some (.ref 0), some (.int v0)], [], 0, 0, (mSH, I, L))) rfl (by simp only [c7]; rfl) ?_
                  refine mB 3 (s2 := (d + 6, 107, 85, [some (.ref 0), some (.int v0)], [.ref 4], 0, 0, (mSH, I, L))) rfl ?_
                  refine mCall (s2 := (d + 5, 39, 0, [some (.ref 4)], [], 0, 0, (mSH, I, L))) rfl ?_
                  refine mB 2 (s2 := (d + 5, 39, 4, [some (.ref 4)], [.int (I 4 1)], 0, 0, (mSH, I, L))) rfl ?_
                  refine mRt (r := (some (.int (I 4 1)))) (h := (mSH, I, L)) rfl (mRet_int rfl) ?_
                  show mWP mTb_ mFT ro (d + 6, 107, 88, [some (.ref 0), some (.int v0)], [.int (I 4 1)], 0, 0, (mSH, I, L)) _
                  refine mRt (r := (some (.int (I 4 1)))) (h := (mSH, I, L)) rfl (mRet_int rfl) ?_
                  show mWP mTb_ mFT ro (d + 7, 101, 22, [some (.ref 0), some (.int v0)], [.int (I 4 1)], 0, 0, (mSH, I, L)) _
                  refine mRt (r := (some (.int (I 4 1)))) (h := (mSH, I, L)) rfl (mRet_int rfl) ?_
                  exact hq _ _ mFr.rf ⟨hI.1, hI.2.1, hI.2.2.1, hI.2.2.2.1, hI.2.2.2.2.1, hI.2.2.2.2.2.1, hI.2.2.2.2.2.2⟩
                · by_cases c8 : v0 = 6
                  · refine mCall (s2 := (d + 6, 107, 0, [some (.ref 0), some (.int v0)], [], 0, 0, (mSH, I, L))) rfl ?_
                    refine mB 1 (s2 := (d + 6, 107, 1, [some (.ref 0), some (.int v0)], [.int v0], 0, 0, (mSH, I, L))) rfl ?_
                    refine mSw1 (t := (d + 6, 107, 89, [some (.ref 0), some (.int v0)], [], 0, 0, (mSH, I, L))) rfl (by simp only [c8]; rfl) ?_
                    refine mB 3 (s2 := (d + 6, 107, 96, [some (.ref 0), some (.int v0)], [.int (I 1 2)], 0, 0, (mSH, I, L))) rfl ?_
                    refine mRt (r := (some (.int (I 1 2)))) (h := (mSH, I, L)) rfl (mRet_int rfl) ?_
                    show mWP mTb_ mFT ro (d + 7, 101, 22, [some (.ref 0), some (.int v0)], [.int (I 1 2)], 0, 0, (mSH, I, L)) _
                    refine mRt (r := (some (.int (I 1 2)))) (h := (mSH, I, L)) rfl (mRet_int rfl) ?_
                    exact hq _ _ mFr.rf ⟨hI.1, hI.2.1, hI.2.2.1, hI.2.2.2.1, hI.2.2.2.2.1, hI.2.2.2.2.2.1, hI.2.2.2.2.2.2⟩
                  · by_cases c9 : v0 = 7
                    · refine mCall (s2 := (d + 6, 107, 0, [some (.ref 0), some (.int v0)], [], 0, 0, (mSH, I, L))) rfl ?_
                      refine mB 1 (s2 := (d + 6, 107, 1, [some (.ref 0), some (.int v0)], [.int v0], 0, 0, (mSH, I, L))) rfl ?_
                      refine mSw1 (t := (d + 6, 107, 97, [some (.ref 0), some (.int v0)], [], 0, 0, (mSH, I, L))) rfl (by simp only [c9]; rfl) ?_
                      refine mB 5 (s2 := (d + 6, 107, 105, [some (.ref 0), some (.int v0)], [.int (v0 - 7), .ref 8], 0, 0, (mSH, I, L))) rfl ?_
                      refine mCall (s2 := (d + 5, 10, 0, [some (.ref 8), some (.int (v0 - 7))], [], 0, 0, (mSH, I, L))) rfl ?_
                      refine mB 2 (s2 := (d + 5, 10, 2, [some (.ref 8), some (.int (v0 - 7))], [.int (v0 - 7), .ref 8], 0, 0, (mSH, I, L))) rfl ?_
                      refine mCall (s2 := (d + 4, 8, 0, [some (.ref 8), some (.int (v0 - 7))], [], 0, 0, (mSH, I, L))) rfl ?_
                      refine mB 1 (s2 := (d + 4, 8, 1, [some (.ref 8), some (.int (v0 - 7))], [.int (v0 - 7)], 0, 0, (mSH, I, L))) rfl ?_
                      refine mBF (s3 := (d + 4, 8, 4, [some (.ref 8), some (.int (v0 - 7))], [], 0, 0, (mSH, I, L))) rfl (by first | (simp only [c9]; first | decide | rfl) | decide | rfl) ?_
                      refine mB 4 (s2 := (d + 4, 8, 10, [some (.ref 8), some (.int (v0 - 7))], [.int 3, .int (v0 - 7)], 0, 0, (mSH, I, L))) rfl ?_
                      refine mBF (s3 := (d + 4, 8, 13, [some (.ref 8), some (.int (v0 - 7))], [], 0, 0, (mSH, I, L))) rfl (by first | (simp only [c9]; first | decide | rfl) | decide | rfl) ?_
                      refine mB 2 (s2 := (d + 4, 8, 18, [some (.ref 8), some (.int (v0 - 7))], [.int 1], 0, 0, (mSH, I, L))) rfl ?_
                      refine mRt (r := (some (.int 1))) (h := (mSH, I, L)) rfl rfl ?_
                      show mWP mTb_ mFT ro (d + 5, 10, 5, [some (.ref 8), some (.int (v0 - 7))], [.int 1], 0, 0, (mSH, I, L)) _
                      refine mBF (s3 := (d + 5, 10, 8, [some (.ref 8), some (.int (v0 - 7))], [], 0, 0, (mSH, I, L))) rfl (by decide) ?_
                      refine mB 3 (s2 := (d + 5, 10, 13, [some (.ref 8), some (.int (v0 - 7))], [.int (v0 - 7), .ref 9], 0, 0, (mSH, I, L))) rfl ?_
                      refine mRq (s2 := (d + 5, 10, 14, [some (.ref 8), some (.int (v0 - 7))], [.int (I 9 ((v0 - 7).toNatClampNeg))], 0, 0, (mSH, I, L))) rfl (by first | (simp only [c9]; first | decide | rfl) | decide | rfl) ?_
                      refine mB 1 (s2 := (d + 5, 10, 18, [some (.ref 8), some (.int (v0 - 7))], [.int (I 9 ((v0 - 7).toNatClampNeg))], 0, 0, (mSH, I, L))) rfl ?_
                      refine mRt (r := (some (.int (I 9 ((v0 - 7).toNatClampNeg))))) (h := (mSH, I, L)) rfl (mRet_int rfl) ?_
                      show mWP mTb_ mFT ro (d + 6, 107, 108, [some (.ref 0), some (.int v0)], [.int (I 9 ((v0 - 7).toNatClampNeg))], 0, 0, (mSH, I, L)) _
                      refine mRt (r := (some (.int (I 9 ((v0 - 7).toNatClampNeg))))) (h := (mSH, I, L)) rfl (mRet_int rfl) ?_
                      show mWP mTb_ mFT ro (d + 7, 101, 22, [some (.ref 0), some (.int v0)], [.int (I 9 ((v0 - 7).toNatClampNeg))], 0, 0, (mSH, I, L)) _
                      refine mRt (r := (some (.int (I 9 ((v0 - 7).toNatClampNeg))))) (h := (mSH, I, L)) rfl (mRet_int rfl) ?_
                      exact hq _ _ mFr.rf ⟨hI.1, hI.2.1, hI.2.2.1, hI.2.2.2.1, hI.2.2.2.2.1, hI.2.2.2.2.2.1, hI.2.2.2.2.2.2⟩
                    · by_cases c10 : v0 = 8
                      · refine mCall (s2 := (d + 6, 107, 0, [some (.ref 0), some (.int v0)], [], 0, 0, (mSH, I, L))) rfl ?_
                        refine mB 1 (s2 := (d + 6, 107, 1, [some (.ref 0), some (.int v0)], [.int v0], 0, 0, (mSH, I, L))) rfl ?_
                        refine mSw1 (t := (d + 6, 107, 97, [some (.ref 0), some (.int v0)], [], 0, 0, (mSH, I, L))) rfl (by simp only [c10]; rfl) ?_
                        refine mB 5 (s2 := (d + 6, 107, 105, [some (.ref 0), some (.int v0)], [.int (v0 - 7), .ref 8], 0, 0, (mSH, I, L))) rfl ?_
                        refine mCall (s2 := (d + 5, 10, 0, [some (.ref 8), some (.int (v0 - 7))], [], 0, 0, (mSH, I, L))) rfl ?_
                        refine mB 2 (s2 := (d + 5, 10, 2, [some (.ref 8), some (.int (v0 - 7))], [.int (v0 - 7), .ref 8], 0, 0, (mSH, I, L))) rfl ?_
                        refine mCall (s2 := (d + 4, 8, 0, [some (.ref 8), some (.int (v0 - 7))], [], 0, 0, (mSH, I, L))) rfl ?_
                        refine mB 1 (s2 := (d + 4, 8, 1, [some (.ref 8), some (.int (v0 - 7))], [.int (v0 - 7)], 0, 0, (mSH, I, L))) rfl ?_
                        refine mBF (s3 := (d + 4, 8, 4, [some (.ref 8), some (.int (v0 - 7))], [], 0, 0, (mSH, I, L))) rfl (by first | (simp only [c10]; first | decide | rfl) | decide | rfl) ?_
                        refine mB 4 (s2 := (d + 4, 8, 10, [some (.ref 8), some (.int (v0 - 7))], [.int 3, .int (v0 - 7)], 0, 0, (mSH, I, L))) rfl ?_
                        refine mBF (s3 := (d + 4, 8, 13, [some (.ref 8), some (.int (v0 - 7))], [], 0, 0, (mSH, I, L))) rfl (by first | (simp only [c10]; first | decide | rfl) | decide | rfl) ?_
                        refine mB 2 (s2 := (d + 4, 8, 18, [some (.ref 8), some (.int (v0 - 7))], [.int 1], 0, 0, (mSH, I, L))) rfl ?_
                        refine mRt (r := (some (.int 1))) (h := (mSH, I, L)) rfl rfl ?_
                        show mWP mTb_ mFT ro (d + 5, 10, 5, [some (.ref 8), some (.int (v0 - 7))], [.int 1], 0, 0, (mSH, I, L)) _
                        refine mBF (s3 := (d + 5, 10, 8, [some (.ref 8), some (.int (v0 - 7))], [], 0, 0, (mSH, I, L))) rfl (by decide) ?_
                        refine mB 3 (s2 := (d + 5, 10, 13, [some (.ref 8), some (.int (v0 - 7))], [.int (v0 - 7), .ref 9], 0, 0, (mSH, I, L))) rfl ?_
                        refine mRq (s2 := (d + 5, 10, 14, [some (.ref 8), some (.int (v0 - 7))], [.int (I 9 ((v0 - 7).toNatClampNeg))], 0, 0, (mSH, I, L))) rfl (by first | (simp only [c10]; first | decide | rfl) | decide | rfl) ?_
                        refine mB 1 (s2 := (d + 5, 10, 18, [some (.ref 8), some (.int (v0 - 7))], [.int (I 9 ((v0 - 7).toNatClampNeg))], 0, 0, (mSH, I, L))) rfl ?_
                        refine mRt (r := (some (.int (I 9 ((v0 - 7).toNatClampNeg))))) (h := (mSH, I, L)) rfl (mRet_int rfl) ?_
                        show mWP mTb_ mFT ro (d + 6, 107, 108, [some (.ref 0), some (.int v0)], [.int (I 9 ((v0 - 7).toNatClampNeg))], 0, 0, (mSH, I, L)) _
                        refine mRt (r := (some (.int (I 9 ((v0 - 7).toNatClampNeg))))) (h := (mSH, I, L)) rfl (mRet_int rfl) ?_
                        show mWP mTb_ mFT ro (d + 7, 101, 22, [some (.ref 0), some (.int v0)], [.int (I 9 ((v0 - 7).toNatClampNeg))], 0, 0, (mSH, I, L)) _
                        refine mRt (r := (some (.int (I 9 ((v0 - 7).toNatClampNeg))))) (h := (mSH, I, L)) rfl (mRet_int rfl) ?_
                        exact hq _ _ mFr.rf ⟨hI.1, hI.2.1, hI.2.2.1, hI.2.2.2.1, hI.2.2.2.2.1, hI.2.2.2.2.2.1, hI.2.2.2.2.2.2⟩
                      · by_cases c11 : v0 = 9
                        · refine mCall (s2 := (d + 6, 107, 0, [some (.ref 0), some (.int v0)], [], 0, 0, (mSH, I, L))) rfl ?_
                          refine mB 1 (s2 := (d + 6, 107, 1, [some (.ref 0), some (.int v0)], [.int v0], 0, 0, (mSH, I, L))) rfl ?_
                          refine mSw1 (t := (d + 6, 107, 97, [some (.ref 0), some (.int v0)], [], 0, 0, (mSH, I, L))) rfl (by simp only [c11]; rfl) ?_
                          refine mB 5 (s2 := (d + 6, 107, 105, [some (.ref 0), some (.int v0)], [.int (v0 - 7), .ref 8], 0, 0, (mSH, I, L))) rfl ?_
                          refine mCall (s2 := (d + 5, 10, 0, [some (.ref 8), some (.int (v0 - 7))], [], 0, 0, (mSH, I, L))) rfl ?_
                          refine mB 2 (s2 := (d + 5, 10, 2, [some (.ref 8), some (.int (v0 - 7))], [.int (v0 - 7), .ref 8], 0, 0, (mSH, I, L))) rfl ?_
                          refine mCall (s2 := (d + 4, 8, 0, [some (.ref 8), some (.int (v0 - 7))], [], 0, 0, (mSH, I, L))) rfl ?_
                          refine mB 1 (s2 := (d + 4, 8, 1, [some (.ref 8), some (.int (v0 - 7))], [.int (v0 - 7)], 0, 0, (mSH, I, L))) rfl ?_
                          refine mBF (s3 := (d + 4, 8, 4, [some (.ref 8), some (.int (v0 - 7))], [], 0, 0, (mSH, I, L))) rfl (by first | (simp only [c11]; first | decide | rfl) | decide | rfl) ?_
                          refine mB 4 (s2 := (d + 4, 8, 10, [some (.ref 8), some (.int (v0 - 7))], [.int 3, .int (v0 - 7)], 0, 0, (mSH, I, L))) rfl ?_
                          refine mBF (s3 := (d + 4, 8, 13, [some (.ref 8), some (.int (v0 - 7))], [], 0, 0, (mSH, I, L))) rfl (by first | (simp only [c11]; first | decide | rfl) | decide | rfl) ?_
                          refine mB 2 (s2 := (d + 4, 8, 18, [some (.ref 8), some (.int (v0 - 7))], [.int 1], 0, 0, (mSH, I, L))) rfl ?_
                          refine mRt (r := (some (.int 1))) (h := (mSH, I, L)) rfl rfl ?_
                          show mWP mTb_ mFT ro (d + 5, 10, 5, [some (.ref 8), some (.int (v0 - 7))], [.int 1], 0, 0, (mSH, I, L)) _
                          refine mBF (s3 := (d + 5, 10, 8, [some (.ref 8), some (.int (v0 - 7))], [], 0, 0, (mSH, I, L))) rfl (by decide) ?_
                          refine mB 3 (s2 := (d + 5, 10, 13, [some (.ref 8), some (.int (v0 - 7))], [.int (v0 - 7), .ref 9], 0, 0, (mSH, I, L))) rfl ?_
                          refine mRq (s2 := (d + 5, 10, 14, [some (.ref 8), some (.int (v0 - 7))], [.int (I 9 ((v0 - 7).toNatClampNeg))], 0, 0, (mSH, I, L))) rfl (by first | (simp only [c11]; first | decide | rfl) | decide | rfl) ?_
                          refine mB 1 (s2 := (d + 5, 10, 18, [some (.ref 8), some (.int (v0 - 7))], [.int (I 9 ((v0 - 7).toNatClampNeg))], 0, 0, (mSH, I, L))) rfl ?_
                          refine mRt (r := (some (.int (I 9 ((v0 - 7).toNatClampNeg))))) (h := (mSH, I, L)) rfl (mRet_int rfl) ?_
                          show mWP mTb_ mFT ro (d + 6, 107, 108, [some (.ref 0), some (.int v0)], [.int (I 9 ((v0 - 7).toNatClampNeg))], 0, 0, (mSH, I, L)) _
                          refine mRt (r := (some (.int (I 9 ((v0 - 7).toNatClampNeg))))) (h := (mSH, I, L)) rfl (mRet_int rfl) ?_
                          show mWP mTb_ mFT ro (d + 7, 101, 22, [some (.ref 0), some (.int v0)], [.int (I 9 ((v0 - 7).toNatClampNeg))], 0, 0, (mSH, I, L)) _
                          refine mRt (r := (some (.int (I 9 ((v0 - 7).toNatClampNeg))))) (h := (mSH, I, L)) rfl (mRet_int rfl) ?_
                          exact hq _ _ mFr.rf ⟨hI.1, hI.2.1, hI.2.2.1, hI.2.2.2.1, hI.2.2.2.2.1, hI.2.2.2.2.2.1, hI.2.2.2.2.2.2⟩
                        · refine mCall (s2 := (d + 6, 107, 0, [some (.ref 0), some (.int v0)], [], 0, 0, (mSH, I, L))) rfl ?_
                          refine mB 1 (s2 := (d + 6, 107, 1, [some (.ref 0), some (.int v0)], [.int v0], 0, 0, (mSH, I, L))) rfl ?_
                          refine mSwA (l := [(decide (v0.toInt < 0 ∨ 6 < v0.toInt), (d + 6, 107, 97, [some (.ref 0), some (.int v0)], [], 0, 0, (mSH, I, L))), (decide (v0.toInt = 0), (d + 6, 107, 44, [some (.ref 0), some (.int v0)], [], 0, 0, (mSH, I, L))), (decide (v0.toInt = 1), (d + 6, 107, 49, [some (.ref 0), some (.int v0)], [], 0, 0, (mSH, I, L))), (decide (v0.toInt = 2), (d + 6, 107, 54, [some (.ref 0), some (.int v0)], [], 0, 0, (mSH, I, L))), (decide (v0.toInt = 3), (d + 6, 107, 59, [some (.ref 0), some (.int v0)], [], 0, 0, (mSH, I, L))), (decide (v0.toInt = 4), (d + 6, 107, 67, [some (.ref 0), some (.int v0)], [], 0, 0, (mSH, I, L))), (decide (v0.toInt = 5), (d + 6, 107, 78, [some (.ref 0), some (.int v0)], [], 0, 0, (mSH, I, L))), (decide (v0.toInt = 6), (d + 6, 107, 89, [some (.ref 0), some (.int v0)], [], 0, 0, (mSH, I, L)))]) rfl ⟨fun c12 => ?_, fun c12 => ?_, fun c12 => ?_, fun c12 => ?_, fun c12 => ?_, fun c12 => ?_, fun c12 => ?_, fun c12 => ?_, trivial⟩
                          · refine mB 5 (s2 := (d + 6, 107, 105, [some (.ref 0), some (.int v0)], [.int (v0 - 7), .ref 8], 0, 0, (mSH, I, L))) rfl ?_
                            refine mCall (s2 := (d + 5, 10, 0, [some (.ref 8), some (.int (v0 - 7))], [], 0, 0, (mSH, I, L))) rfl ?_
                            refine mB 2 (s2 := (d + 5, 10, 2, [some (.ref 8), some (.int (v0 - 7))], [.int (v0 - 7), .ref 8], 0, 0, (mSH, I, L))) rfl ?_
                            refine mCall (s2 := (d + 4, 8, 0, [some (.ref 8), some (.int (v0 - 7))], [], 0, 0, (mSH, I, L))) rfl ?_
                            refine mB 1 (s2 := (d + 4, 8, 1, [some (.ref 8), some (.int (v0 - 7))], [.int (v0 - 7)], 0, 0, (mSH, I, L))) rfl ?_
                            refine mBr (s2 := (d + 4, 8, 17, [some (.ref 8), some (.int (v0 - 7))], [], 0, 0, (mSH, I, L))) (s3 := (d + 4, 8, 4, [some (.ref 8), some (.int (v0 - 7))], [], 0, 0, (mSH, I, L))) rfl (fun c13 => ?_) (fun c13 => ?_)
                            · refine mB 1 (s2 := (d + 4, 8, 18, [some (.ref 8), some (.int (v0 - 7))], [.int 0], 0, 0, (mSH, I, L))) rfl ?_
                              refine mRt (r := (some (.int 0))) (h := (mSH, I, L)) rfl rfl ?_
                              show mWP mTb_ mFT ro (d + 5, 10, 5, [some (.ref 8), some (.int (v0 - 7))], [.int 0], 0, 0, (mSH, I, L)) _
                              refine mBT (s2 := (d + 5, 10, 17, [some (.ref 8), some (.int (v0 - 7))], [], 0, 0, (mSH, I, L))) rfl (by decide) ?_
                              refine mB 1 (s2 := (d + 5, 10, 18, [some (.ref 8), some (.int (v0 - 7))], [.int 0], 0, 0, (mSH, I, L))) rfl ?_
                              refine mRt (r := (some (.int 0))) (h := (mSH, I, L)) rfl (mRet_int rfl) ?_
                              show mWP mTb_ mFT ro (d + 6, 107, 108, [some (.ref 0), some (.int v0)], [.int 0], 0, 0, (mSH, I, L)) _
                              refine mRt (r := (some (.int 0))) (h := (mSH, I, L)) rfl (mRet_int rfl) ?_
                              show mWP mTb_ mFT ro (d + 7, 101, 22, [some (.ref 0), some (.int v0)], [.int 0], 0, 0, (mSH, I, L)) _
                              refine mRt (r := (some (.int 0))) (h := (mSH, I, L)) rfl (mRet_int rfl) ?_
                              exact hq _ _ mFr.rf ⟨hI.1, hI.2.1, hI.2.2.1, hI.2.2.2.1, hI.2.2.2.2.1, hI.2.2.2.2.2.1, hI.2.2.2.2.2.2⟩
                            · refine mB 4 (s2 := (d + 4, 8, 10, [some (.ref 8), some (.int (v0 - 7))], [.int 3, .int (v0 - 7)], 0, 0, (mSH, I, L))) rfl ?_
                              refine mBr (s2 := (d + 4, 8, 17, [some (.ref 8), some (.int (v0 - 7))], [], 0, 0, (mSH, I, L))) (s3 := (d + 4, 8, 13, [some (.ref 8), some (.int (v0 - 7))], [], 0, 0, (mSH, I, L))) rfl (fun c14 => ?_) (fun c14 => ?_)
                              · refine mB 1 (s2 := (d + 4, 8, 18, [some (.ref 8), some (.int (v0 - 7))], [.int 0], 0, 0, (mSH, I, L))) rfl ?_
                                refine mRt (r := (some (.int 0))) (h := (mSH, I, L)) rfl rfl ?_
                                show mWP mTb_ mFT ro (d + 5, 10, 5, [some (.ref 8), some (.int (v0 - 7))], [.int 0], 0, 0, (mSH, I, L)) _
                                refine mBT (s2 := (d + 5, 10, 17, [some (.ref 8), some (.int (v0 - 7))], [], 0, 0, (mSH, I, L))) rfl (by decide) ?_
                                refine mB 1 (s2 := (d + 5, 10, 18, [some (.ref 8), some (.int (v0 - 7))], [.int 0], 0, 0, (mSH, I, L))) rfl ?_
                                refine mRt (r := (some (.int 0))) (h := (mSH, I, L)) rfl (mRet_int rfl) ?_
                                show mWP mTb_ mFT ro (d + 6, 107, 108, [some (.ref 0), some (.int v0)], [.int 0], 0, 0, (mSH, I, L)) _
                                refine mRt (r := (some (.int 0))) (h := (mSH, I, L)) rfl (mRet_int rfl) ?_
                                show mWP mTb_ mFT ro (d + 7, 101, 22, [some (.ref 0), some (.int v0)], [.int 0], 0, 0, (mSH, I, L)) _
                                refine mRt (r := (some (.int 0))) (h := (mSH, I, L)) rfl (mRet_int rfl) ?_
                                exact hq _ _ mFr.rf ⟨hI.1, hI.2.1, hI.2.2.1, hI.2.2.2.1, hI.2.2.2.2.1, hI.2.2.2.2.2.1, hI.2.2.2.2.2.2⟩
                              · refine mB 2 (s2 := (d + 4, 8, 18, [some (.ref 8), some (.int (v0 - 7))], [.int 1], 0, 0, (mSH, I, L))) rfl ?_
                                refine mRt (r := (some (.int 1))) (h := (mSH, I, L)) rfl rfl ?_
                                show mWP mTb_ mFT ro (d + 5, 10, 5, [some (.ref 8), some (.int (v0 - 7))], [.int 1], 0, 0, (mSH, I, L)) _
                                refine mBF (s3 := (d + 5, 10, 8, [some (.ref 8), some (.int (v0 - 7))], [], 0, 0, (mSH, I, L))) rfl (by decide) ?_
                                refine mB 3 (s2 := (d + 5, 10, 13, [some (.ref 8), some (.int (v0 - 7))], [.int (v0 - 7), .ref 9], 0, 0, (mSH, I, L))) rfl ?_
                                refine mRq (s2 := (d + 5, 10, 14, [some (.ref 8), some (.int (v0 - 7))], [.int (I 9 ((v0 - 7).toNatClampNeg))], 0, 0, (mSH, I, L))) rfl (mVp_of (vp_in_iff.mpr (by have a0 := of_decide_eq_false c0; have a1 := of_decide_eq_true c1; have a2 := c2; have a3 := c3; have a4 := c4; have a5 := c5; have a6 := c6; have a7 := c7; have a8 := c8; have a9 := c9; have a10 := c10; have a11 := c11; have a12 := of_decide_eq_false c13; have a13 := of_decide_eq_false c14; simp only [Int32.lt_iff_toInt_lt, Int32.le_iff_toInt_le, ← Int32.toInt_inj, mLi0, mLi1, mLi2, mLi3, mLi4, mLi5, mLi6, mLi7, mLi8, mLi9, mLi10, mLi16, mLi32, mLi48, mLi57, mLi59, mLi65, mLi90, mLi97, mLi99, mLi120, mLi122, mLi127, mLi1584, mLi999999, mLim] at a0 a1 a2 a3 a4 a5 a6 a7 a8 a9 a10 a11 a12 a13 ⊢; omega))) ?_
                                refine mB 1 (s2 := (d + 5, 10, 18, [some (.ref 8), some (.int (v0 - 7))], [.int (I 9 ((v0 - 7).toNatClampNeg))], 0, 0, (mSH, I, L))) rfl ?_
                                refine mRt (r := (some (.int (I 9 ((v0 - 7).toNatClampNeg))))) (h := (mSH, I, L)) rfl (mRet_int rfl) ?_
                                show mWP mTb_ mFT ro (d + 6, 107, 108, [some (.ref 0), some (.int v0)], [.int (I 9 ((v0 - 7).toNatClampNeg))], 0, 0, (mSH, I, L)) _
                                refine mRt (r := (some (.int (I 9 ((v0 - 7).toNatClampNeg))))) (h := (mSH, I, L)) rfl (mRet_int rfl) ?_
                                show mWP mTb_ mFT ro (d + 7, 101, 22, [some (.ref 0), some (.int v0)], [.int (I 9 ((v0 - 7).toNatClampNeg))], 0, 0, (mSH, I, L)) _
                                refine mRt (r := (some (.int (I 9 ((v0 - 7).toNatClampNeg))))) (h := (mSH, I, L)) rfl (mRet_int rfl) ?_
                                exact hq _ _ mFr.rf ⟨hI.1, hI.2.1, hI.2.2.1, hI.2.2.2.1, hI.2.2.2.2.1, hI.2.2.2.2.2.1, hI.2.2.2.2.2.2⟩
                          · refine mB 2 (s2 := (d + 6, 107, 48, [some (.ref 0), some (.int v0)], [.int (I 0 9)], 0, 0, (mSH, I, L))) rfl ?_
                            refine mRt (r := (some (.int (I 0 9)))) (h := (mSH, I, L)) rfl (mRet_int rfl) ?_
                            show mWP mTb_ mFT ro (d + 7, 101, 22, [some (.ref 0), some (.int v0)], [.int (I 0 9)], 0, 0, (mSH, I, L)) _
                            refine mRt (r := (some (.int (I 0 9)))) (h := (mSH, I, L)) rfl (mRet_int rfl) ?_
                            exact hq _ _ mFr.rf ⟨hI.1, hI.2.1, hI.2.2.1, hI.2.2.2.1, hI.2.2.2.2.1, hI.2.2.2.2.2.1, hI.2.2.2.2.2.2⟩
                          · refine mB 2 (s2 := (d + 6, 107, 53, [some (.ref 0), some (.int v0)], [.int (I 0 10)], 0, 0, (mSH, I, L))) rfl ?_
                            refine mRt (r := (some (.int (I 0 10)))) (h := (mSH, I, L)) rfl (mRet_int rfl) ?_
                            show mWP mTb_ mFT ro (d + 7, 101, 22, [some (.ref 0), some (.int v0)], [.int (I 0 10)], 0, 0, (mSH, I, L)) _
                            refine mRt (r := (some (.int (I 0 10)))) (h := (mSH, I, L)) rfl (mRet_int rfl) ?_
                            exact hq _ _ mFr.rf ⟨hI.1, hI.2.1, hI.2.2.1, hI.2.2.2.1, hI.2.2.2.2.1, hI.2.2.2.2.2.1, hI.2.2.2.2.2.2⟩
                          · refine mB 2 (s2 := (d + 6, 107, 58, [some (.ref 0), some (.int v0)], [.int (I 0 11)], 0, 0, (mSH, I, L))) rfl ?_
                            refine mRt (r := (some (.int (I 0 11)))) (h := (mSH, I, L)) rfl (mRet_int rfl) ?_
                            show mWP mTb_ mFT ro (d + 7, 101, 22, [some (.ref 0), some (.int v0)], [.int (I 0 11)], 0, 0, (mSH, I, L)) _
                            refine mRt (r := (some (.int (I 0 11)))) (h := (mSH, I, L)) rfl (mRet_int rfl) ?_
                            exact hq _ _ mFr.rf ⟨hI.1, hI.2.1, hI.2.2.1, hI.2.2.2.1, hI.2.2.2.2.1, hI.2.2.2.2.2.1, hI.2.2.2.2.2.2⟩
                          · refine mB 2 (s2 := (d + 6, 107, 63, [some (.ref 0), some (.int v0)], [.ref 26], 0, 0, (mSH, I, L))) rfl ?_
                            refine mCall (s2 := (d + 5, 39, 0, [some (.ref 26)], [], 0, 0, (mSH, I, L))) rfl ?_
                            refine mB 2 (s2 := (d + 5, 39, 4, [some (.ref 26)], [.int (I 26 1)], 0, 0, (mSH, I, L))) rfl ?_
                            refine mRt (r := (some (.int (I 26 1)))) (h := (mSH, I, L)) rfl (mRet_int rfl) ?_
                            show mWP mTb_ mFT ro (d + 6, 107, 66, [some (.ref 0), some (.int v0)], [.int (I 26 1)], 0, 0, (mSH, I, L)) _
                            refine mRt (r := (some (.int (I 26 1)))) (h := (mSH, I, L)) rfl (mRet_int rfl) ?_
                            show mWP mTb_ mFT ro (d + 7, 101, 22, [some (.ref 0), some (.int v0)], [.int (I 26 1)], 0, 0, (mSH, I, L)) _
                            refine mRt (r := (some (.int (I 26 1)))) (h := (mSH, I, L)) rfl (mRet_int rfl) ?_
                            exact hq _ _ mFr.rf ⟨hI.1, hI.2.1, hI.2.2.1, hI.2.2.2.1, hI.2.2.2.2.1, hI.2.2.2.2.2.1, hI.2.2.2.2.2.2⟩
                          · refine mB 3 (s2 := (d + 6, 107, 74, [some (.ref 0), some (.int v0)], [.ref 2], 0, 0, (mSH, I, L))) rfl ?_
                            refine mCall (s2 := (d + 5, 39, 0, [some (.ref 2)], [], 0, 0, (mSH, I, L))) rfl ?_
                            refine mB 2 (s2 := (d + 5, 39, 4, [some (.ref 2)], [.int (I 2 1)], 0, 0, (mSH, I, L))) rfl ?_
                            refine mRt (r := (some (.int (I 2 1)))) (h := (mSH, I, L)) rfl (mRet_int rfl) ?_
                            show mWP mTb_ mFT ro (d + 6, 107, 77, [some (.ref 0), some (.int v0)], [.int (I 2 1)], 0, 0, (mSH, I, L)) _
                            refine mRt (r := (some (.int (I 2 1)))) (h := (mSH, I, L)) rfl (mRet_int rfl) ?_
                            show mWP mTb_ mFT ro (d + 7, 101, 22, [some (.ref 0), some (.int v0)], [.int (I 2 1)], 0, 0, (mSH, I, L)) _
                            refine mRt (r := (some (.int (I 2 1)))) (h := (mSH, I, L)) rfl (mRet_int rfl) ?_
                            exact hq _ _ mFr.rf ⟨hI.1, hI.2.1, hI.2.2.1, hI.2.2.2.1, hI.2.2.2.2.1, hI.2.2.2.2.2.1, hI.2.2.2.2.2.2⟩
                          · refine mB 3 (s2 := (d + 6, 107, 85, [some (.ref 0), some (.int v0)], [.ref 4], 0, 0, (mSH, I, L))) rfl ?_
                            refine mCall (s2 := (d + 5, 39, 0, [some (.ref 4)], [], 0, 0, (mSH, I, L))) rfl ?_
                            refine mB 2 (s2 := (d + 5, 39, 4, [some (.ref 4)], [.int (I 4 1)], 0, 0, (mSH, I, L))) rfl ?_
                            refine mRt (r := (some (.int (I 4 1)))) (h := (mSH, I, L)) rfl (mRet_int rfl) ?_
                            show mWP mTb_ mFT ro (d + 6, 107, 88, [some (.ref 0), some (.int v0)], [.int (I 4 1)], 0, 0, (mSH, I, L)) _
                            refine mRt (r := (some (.int (I 4 1)))) (h := (mSH, I, L)) rfl (mRet_int rfl) ?_
                            show mWP mTb_ mFT ro (d + 7, 101, 22, [some (.ref 0), some (.int v0)], [.int (I 4 1)], 0, 0, (mSH, I, L)) _
                            refine mRt (r := (some (.int (I 4 1)))) (h := (mSH, I, L)) rfl (mRet_int rfl) ?_
                            exact hq _ _ mFr.rf ⟨hI.1, hI.2.1, hI.2.2.1, hI.2.2.2.1, hI.2.2.2.2.1, hI.2.2.2.2.2.1, hI.2.2.2.2.2.2⟩
                          · refine mB 3 (s2 := (d + 6, 107, 96, [some (.ref 0), some (.int v0)], [.int (I 1 2)], 0, 0, (mSH, I, L))) rfl ?_
                            refine mRt (r := (some (.int (I 1 2)))) (h := (mSH, I, L)) rfl (mRet_int rfl) ?_
                            show mWP mTb_ mFT ro (d + 7, 101, 22, [some (.ref 0), some (.int v0)], [.int (I 1 2)], 0, 0, (mSH, I, L)) _
                            refine mRt (r := (some (.int (I 1 2)))) (h := (mSH, I, L)) rfl (mRet_int rfl) ?_
                            exact hq _ _ mFr.rf ⟨hI.1, hI.2.1, hI.2.2.1, hI.2.2.2.1, hI.2.2.2.2.1, hI.2.2.2.2.2.1, hI.2.2.2.2.2.2⟩
    · refine mB 2 (s2 := (d + 7, 101, 13, [some (.ref 0), some (.int v0)], [.int (-2), .ref 0], 0, 0, (mSH, I, L))) rfl ?_
      refine mCall (s2 := (d + 6, 103, 0, [some (.ref 0), some (.int (-2))], [], 0, 0, (mSH, I, L))) rfl ?_
      refine mB 2 (s2 := (d + 6, 103, 3, [some (.ref 0), some (.int (-2))], [.int (-2), .int (-2)], 0, 0, (mSH, I, L))) rfl ?_
      refine mBT (s2 := (d + 6, 103, 6, [some (.ref 0), some (.int (-2))], [], 0, 0, (mSH, I, L))) rfl (by decide) ?_
      refine mB 8 (s2 := (d + 6, 103, 49, [some (.ref 0), some (.int (-2))], [.int (-2)], 0, 0, (mSH, (mUp I 0 9 ((I 0 9) + 1)), L))) rfl ?_
      refine mRt (r := (some (.int (-2)))) (h := (mSH, (mUp I 0 9 ((I 0 9) + 1)), L)) rfl (mRet_int rfl) ?_
      show mWP mTb_ mFT ro (d + 7, 101, 16, [some (.ref 0), some (.int v0)], [.int (-2)], 0, 0, (mSH, (mUp I 0 9 ((I 0 9) + 1)), L)) _
      refine mRt (r := (some (.int (-2)))) (h := (mSH, (mUp I 0 9 ((I 0 9) + 1)), L)) rfl (mRet_int rfl) ?_
      exact hq _ _ (mFr.up (by rfl) mFr.rf) ⟨hI.1, hI.2.1, hI.2.2.1, hI.2.2.2.1, hI.2.2.2.2.1, hI.2.2.2.2.2.1, (mRk.up hI.2.2.2.2.2.2 (by rfl) (by rfl))⟩
theorem u_digest {ro : Nat → Nat × (Nat → Int32)} {Q : mPo} {d : Nat} {I : Nat → Nat → Int32} {L : Nat → Nat → Int64} (hI : mIC I) (hq : ∀ r I1, mFr mSQ I I1 → mIC I1 → Q (some (.long r)) (mSH, I1, L))   : mWP mTb_ mFT ro (d + 7, 102, 0, [some (.ref 0), none, none, none], [], 0, 0, (mSH, I, L)) Q := by
  refine mB 6 (s2 := (d + 7, 102, 9, [some (.ref 0), some (.long 2003), none, some (.int 0)], [.int 9, .int 0], 0, 0, (mSH, I, L))) rfl ?_
  refine mBF (s3 := (d + 7, 102, 12, [some (.ref 0), some (.long 2003), none, some (.int 0)], [], 0, 0, (mSH, I, L))) rfl (by decide) ?_
  refine mB 5 (s2 := (d + 7, 102, 19, [some (.ref 0), some (.long 2003), none, some (.int 0)], [.int 0, .ref 0, .long 62093], 0, 0, (mSH, I, L))) rfl ?_
  refine mCall (s2 := (d + 6, 107, 0, [some (.ref 0), some (.int 0)], [], 0, 0, (mSH, I, L))) rfl ?_
  refine mB 1 (s2 := (d + 6, 107, 1, [some (.ref 0), some (.int 0)], [.int 0], 0, 0, (mSH, I, L))) rfl ?_
  refine mSw1 (t := (d + 6, 107, 44, [some (.ref 0), some (.int 0)], [], 0, 0, (mSH, I, L))) rfl rfl ?_
  refine mB 2 (s2 := (d + 6, 107, 48, [some (.ref 0), some (.int 0)], [.int (I 0 9)], 0, 0, (mSH, I, L))) rfl ?_
  refine mRt (r := (some (.int (I 0 9)))) (h := (mSH, I, L)) rfl (mRet_int rfl) ?_
  show mWP mTb_ mFT ro (d + 7, 102, 22, [some (.ref 0), some (.long 2003), none, some (.int 0)], [.int (I 0 9), .long 62093], 0, 0, (mSH, I, L)) _
  refine mB 7 (s2 := (d + 7, 102, 9, [some (.ref 0), some (.long (62093 + ((I 0 9 : Int32).toInt64))), none, some (.int 1)], [.int 9, .int 1], 0, 0, (mSH, I, L))) rfl ?_
  refine mBF (s3 := (d + 7, 102, 12, [some (.ref 0), some (.long (62093 + ((I 0 9 : Int32).toInt64))), none, some (.int 1)], [], 0, 0, (mSH, I, L))) rfl (by decide) ?_
  refine mB 5 (s2 := (d + 7, 102, 19, [some (.ref 0), some (.long (62093 + ((I 0 9 : Int32).toInt64))), none, some (.int 1)], [.int 1, .ref 0, .long (31 * (62093 + ((I 0 9 : Int32).toInt64)))], 0, 0, (mSH, I, L))) rfl ?_
  refine mCall (s2 := (d + 6, 107, 0, [some (.ref 0), some (.int 1)], [], 0, 0, (mSH, I, L))) rfl ?_
  refine mB 1 (s2 := (d + 6, 107, 1, [some (.ref 0), some (.int 1)], [.int 1], 0, 0, (mSH, I, L))) rfl ?_
  refine mSw1 (t := (d + 6, 107, 49, [some (.ref 0), some (.int 1)], [], 0, 0, (mSH, I, L))) rfl rfl ?_
  refine mB 2 (s2 := (d + 6, 107, 53, [some (.ref 0), some (.int 1)], [.int (I 0 10)], 0, 0, (mSH, I, L))) rfl ?_
  refine mRt (r := (some (.int (I 0 10)))) (h := (mSH, I, L)) rfl (mRet_int rfl) ?_
  show mWP mTb_ mFT ro (d + 7, 102, 22, [some (.ref 0), some (.long (62093 + ((I 0 9 : Int32).toInt64))), none, some (.int 1)], [.int (I 0 10), .long (31 * (62093 + ((I 0 9 : Int32).toInt64)))], 0, 0, (mSH, I, L)) _
  refine mB 7 (s2 := (d + 7, 102, 9, [some (.ref 0), some (.long ((31 * (62093 + ((I 0 9 : Int32).toInt64))) + ((I 0 10 : Int32).toInt64))), none, some (.int 2)], [.int 9, .int 2], 0, 0, (mSH, I, L))) rfl ?_
  refine mBF (s3 := (d + 7, 102, 12, [some (.ref 0), some (.long ((31 * (62093 + ((I 0 9 : Int32).toInt64))) + ((I 0 10 : Int32).toInt64))), none, some (.int 2)], [], 0, 0, (mSH, I, L))) rfl (by decide) ?_
  refine mB 5 (s2 := (d + 7, 102, 19, [some (.ref 0), some (.long ((31 * (62093 + ((I 0 9 : Int32).toInt64))) + ((I 0 10 : Int32).toInt64))), none, some (.int 2)], [.int 2, .ref 0, .long (31 * ((31 * (62093 + ((I 0 9 : Int32).toInt64))) + ((I 0 10 : Int32).toInt64)))], 0, 0, (mSH, I, L))) rfl ?_
  refine mCall (s2 := (d + 6, 107, 0, [some (.ref 0), some (.int 2)], [], 0, 0, (mSH, I, L))) rfl ?_
  refine mB 1 (s2 := (d + 6, 107, 1, [some (.ref 0), some (.int 2)], [.int 2], 0, 0, (mSH, I, L))) rfl ?_
  refine mSw1 (t := (d + 6, 107, 54, [some (.ref 0), some (.int 2)], [], 0, 0, (mSH, I, L))) rfl rfl ?_
  refine mB 2 (s2 := (d + 6, 107, 58, [some (.ref 0), some (.int 2)], [.int (I 0 11)], 0, 0, (mSH, I, L))) rfl ?_
  refine mRt (r := (some (.int (I 0 11)))) (h := (mSH, I, L)) rfl (mRet_int rfl) ?_
  show mWP mTb_ mFT ro (d + 7, 102, 22, [some (.ref 0), some (.long ((31 * (62093 + ((I 0 9 : Int32).toInt64))) + ((I 0 10 : Int32).toInt64))), none, some (.int 2)], [.int (I 0 11), .long (31 * ((31 * (62093 + ((I 0 9 : Int32).toInt64))) + ((I 0 10 : Int32).toInt64)))], 0, 0, (mSH, I, L)) _
  refine mB 7 (s2 := (d + 7, 102, 9, [some (.ref 0), some (.long ((31 * ((31 * (62093 + ((I 0 9 : Int32).toInt64))) + ((I 0 10 : Int32).toInt64))) + ((I 0 11 : Int32).toInt64))), none, some (.int 3)], [.int 9, .int 3], 0, 0, (mSH, I, L))) rfl ?_
  refine mBF (s3 := (d + 7, 102, 12, [some (.ref 0), some (.long ((31 * ((31 * (62093 + ((I 0 9 : Int32).toInt64))) + ((I 0 10 : Int32).toInt64))) + ((I 0 11 : Int32).toInt64))), none, some (.int 3)], [], 0, 0, (mSH, I, L))) rfl (by decide) ?_
  refine mB 5 (s2 := (d + 7, 102, 19, [some (.ref 0), some (.long ((31 * ((31 * (62093 + ((I 0 9 : Int32).toInt64))) + ((I 0 10 : Int32).toInt64))) + ((I 0 11 : Int32).toInt64))), none, some (.int 3)], [.int 3, .ref 0, .long (31 * ((31 * ((31 * (62093 + ((I 0 9 : Int32).toInt64))) + ((I 0 10 : Int32).toInt64))) + ((I 0 11 : Int32).toInt64)))], 0, 0, (mSH, I, L))) rfl ?_
  refine mCall (s2 := (d + 6, 107, 0, [some (.ref 0), some (.int 3)], [], 0, 0, (mSH, I, L))) rfl ?_
  refine mB 1 (s2 := (d + 6, 107, 1, [some (.ref 0), some (.int 3)], [.int 3], 0, 0, (mSH, I, L))) rfl ?_
  refine mSw1 (t := (d + 6, 107, 59, [some (.ref 0), some (.int 3)], [], 0, 0, (mSH, I, L))) rfl rfl ?_
  refine mB 2 (s2 := (d + 6, 107, 63, [some (.ref 0), some (.int 3)], [.ref 26], 0, 0, (mSH, I, L))) rfl ?_
  refine mCall (s2 := (d + 5, 39, 0, [some (.ref 26)], [], 0, 0, (mSH, I, L))) rfl ?_
  refine mB 2 (s2 := (d + 5, 39, 4, [some (.ref 26)], [.int (I 26 1)], 0, 0, (mSH, I, L))) rfl ?_
  refine mRt (r := (some (.int (I 26 1)))) (h := (mSH, I, L)) rfl (mRet_int rfl) ?_
  show mWP mTb_ mFT ro (d + 6, 107, 66, [some (.ref 0), some (.int 3)], [.int (I 26 1)], 0, 0, (mSH, I, L)) _
  refine mRt (r := (some (.int (I 26 1)))) (h := (mSH, I, L)) rfl (mRet_int rfl) ?_
  show mWP mTb_ mFT ro (d + 7, 102, 22, [some (.ref 0), some (.long ((31 * ((31 * (62093 + ((I 0 9 : Int32).toInt64))) + ((I 0 10 : Int32).toInt64))) + ((I 0 11 : Int32).toInt64))), none, some (.int 3)], [.int (I 26 1), .long (31 * ((31 * ((31 * (62093 + ((I 0 9 : Int32).toInt64))) + ((I 0 10 : Int32).toInt64))) + ((I 0 11 : Int32).toInt64)))], 0, 0, (mSH, I, L)) _
  refine mB 7 (s2 := (d + 7, 102, 9, [some (.ref 0), some (.long ((31 * ((31 * ((31 * (62093 + ((I 0 9 : Int32).toInt64))) + ((I 0 10 : Int32).toInt64))) + ((I 0 11 : Int32).toInt64))) + ((I 26 1 : Int32).toInt64))), none, some (.int 4)], [.int 9, .int 4], 0, 0, (mSH, I, L))) rfl ?_
  refine mBF (s3 := (d + 7, 102, 12, [some (.ref 0), some (.long ((31 * ((31 * ((31 * (62093 + ((I 0 9 : Int32).toInt64))) + ((I 0 10 : Int32).toInt64))) + ((I 0 11 : Int32).toInt64))) + ((I 26 1 : Int32).toInt64))), none, some (.int 4)], [], 0, 0, (mSH, I, L))) rfl (by decide) ?_
  refine mB 5 (s2 := (d + 7, 102, 19, [some (.ref 0), some (.long ((31 * ((31 * ((31 * (62093 + ((I 0 9 : Int32).toInt64))) + ((I 0 10 : Int32).toInt64))) + ((I 0 11 : Int32).toInt64))) + ((I 26 1 : Int32).toInt64))), none, some (.int 4)], [.int 4, .ref 0, .long (31 * ((31 * ((31 * ((31 * (62093 + ((I 0 9 : Int32).toInt64))) + ((I 0 10 : Int32).toInt64))) + ((I 0 11 : Int32).toInt64))) + ((I 26 1 : Int32).toInt64)))], 0, 0, (mSH, I, L))) rfl ?_
  refine mCall (s2 := (d + 6, 107, 0, [some (.ref 0), some (.int 4)], [], 0, 0, (mSH, I, L))) rfl ?_
  refine mB 1 (s2 := (d + 6, 107, 1, [some (.ref 0), some (.int 4)], [.int 4], 0, 0, (mSH, I, L))) rfl ?_
  refine mSw1 (t := (d + 6, 107, 67, [some (.ref 0), some (.int 4)], [], 0, 0, (mSH, I, L))) rfl rfl ?_
  refine mB 3 (s2 := (d + 6, 107, 74, [some (.ref 0), some (.int 4)], [.ref 2], 0, 0, (mSH, I, L))) rfl ?_
  refine mCall (s2 := (d + 5, 39, 0, [some (.ref 2)], [], 0, 0, (mSH, I, L))) rfl ?_
  refine mB 2 (s2 := (d + 5, 39, 4, [some (.ref 2)], [.int (I 2 1)], 0, 0, (mSH, I, L))) rfl ?_
  refine mRt (r := (some (.int (I 2 1)))) (h := (mSH, I, L)) rfl (mRet_int rfl) ?_
  show mWP mTb_ mFT ro (d + 6, 107, 77, [some (.ref 0), some (.int 4)], [.int (I 2 1)], 0, 0, (mSH, I, L)) _
  refine mRt (r := (some (.int (I 2 1)))) (h := (mSH, I, L)) rfl (mRet_int rfl) ?_
  show mWP mTb_ mFT ro (d + 7, 102, 22, [some (.ref 0), some (.long ((31 * ((31 * ((31 * (62093 + ((I 0 9 : Int32).toInt64))) + ((I 0 10 : Int32).toInt64))) + ((I 0 11 : Int32).toInt64))) + ((I 26 1 : Int32).toInt64))), none, some (.int 4)], [.int (I 2 1), .long (31 * ((31 * ((31 * ((31 * (62093 + ((I 0 9 : Int32).toInt64))) + ((I 0 10 : Int32).toInt64))) + ((I 0 11 : Int32).toInt64))) + ((I 26 1 : Int32).toInt64)))], 0, 0, (mSH, I, L)) _
  refine mB 7 (s2 := (d + 7, 102, 9, [some (.ref 0), some (.long ((31 * ((31 * ((31 * ((31 * (62093 + ((I 0 9 : Int32).toInt64))) + ((I 0 10 : Int32).toInt64))) + ((I 0 11 : Int32).toInt64))) + ((I 26 1 : Int32).toInt64))) + ((I 2 1 : Int32).toInt64))), none, some (.int 5)], [.int 9, .int 5], 0, 0, (mSH, I, L))) rfl ?_
  refine mBF (s3 := (d + 7, 102, 12, [some (.ref 0), some (.long ((31 * ((31 * ((31 * ((31 * (62093 + ((I 0 9 : Int32).toInt64))) + ((I 0 10 : Int32).toInt64))) + ((I 0 11 : Int32).toInt64))) + ((I 26 1 : Int32).toInt64))) + ((I 2 1 : Int32).toInt64))), none, some (.int 5)], [], 0, 0, (mSH, I, L))) rfl (by decide) ?_
  refine mB 5 (s2 := (d + 7, 102, 19, [some (.ref 0), some (.long ((31 * ((31 * ((31 * ((31 * (62093 + ((I 0 9 : Int32).toInt64))) + ((I 0 10 : Int32).toInt64))) + ((I 0 11 : Int32).toInt64))) + ((I 26 1 : Int32).toInt64))) + ((I 2 1 : Int32).toInt64))), none, some (.int 5)], [.int 5, .ref 0, .long (31 * ((31 * ((31 * ((31 * ((31 * (62093 + ((I 0 9 : Int32).toInt64))) + ((I 0 10 : Int32).toInt64))) + ((I 0 11 : Int32).toInt64))) + ((I 26 1 : Int32).toInt64))) + ((I 2 1 : Int32).toInt64)))], 0, 0, (mSH, I, L))) rfl ?_
  refine mCall (s2 := (d + 6, 107, 0, [some (.ref 0), some (.int 5)], [], 0, 0, (mSH, I, L))) rfl ?_
  refine mB 1 (s2 := (d + 6, 107, 1, [some (.ref 0), some (.int 5)], [.int 5], 0, 0, (mSH, I, L))) rfl ?_
  refine mSw1 (t := (d + 6, 107, 78, [some (.ref 0), some (.int 5)], [], 0, 0, (mSH, I, L))) rfl rfl ?_
  refine mB 3 (s2 := (d + 6, 107, 85, [some (.ref 0), some (.int 5)], [.ref 4], 0, 0, (mSH, I, L))) rfl ?_
  refine mCall (s2 := (d + 5, 39, 0, [some (.ref 4)], [], 0, 0, (mSH, I, L))) rfl ?_
  refine mB 2 (s2 := (d + 5, 39, 4, [some (.ref 4)], [.int (I 4 1)], 0, 0, (mSH, I, L))) rfl ?_
  refine mRt (r := (some (.int (I 4 1)))) (h := (mSH, I, L)) rfl (mRet_int rfl) ?_
  show mWP mTb_ mFT ro (d + 6, 107, 88, [some (.ref 0), some (.int 5)], [.int (I 4 1)], 0, 0, (mSH, I, L)) _
  refine mRt (r := (some (.int (I 4 1)))) (h := (mSH, I, L)) rfl (mRet_int rfl) ?_
  show mWP mTb_ mFT ro (d + 7, 102, 22, [some (.ref 0), some (.long ((31 * ((31 * ((31 * ((31 * (62093 + ((I 0 9 : Int32).toInt64))) + ((I 0 10 : Int32).toInt64))) + ((I 0 11 : Int32).toInt64))) + ((I 26 1 : Int32).toInt64))) + ((I 2 1 : Int32).toInt64))), none, some (.int 5)], [.int (I 4 1), .long (31 * ((31 * ((31 * ((31 * ((31 * (62093 + ((I 0 9 : Int32).toInt64))) + ((I 0 10 : Int32).toInt64))) + ((I 0 11 : Int32).toInt64))) + ((I 26 1 : Int32).toInt64))) + ((I 2 1 : Int32).toInt64)))], 0, 0, (mSH, I, L)) _
  refine mB 7 (s2 := (d + 7, 102, 9, [some (.ref 0), some (.long ((31 * ((31 * ((31 * ((31 * ((31 * (62093 + ((I 0 9 : Int32).toInt64))) + ((I 0 10 : Int32).toInt64))) + ((I 0 11 : Int32).toInt64))) + ((I 26 1 : Int32).toInt64))) + ((I 2 1 : Int32).toInt64))) + ((I 4 1 : Int32).toInt64))), none, some (.int 6)], [.int 9, .int 6], 0, 0, (mSH, I, L))) rfl ?_
  refine mBF (s3 := (d + 7, 102, 12, [some (.ref 0), some (.long ((31 * ((31 * ((31 * ((31 * ((31 * (62093 + ((I 0 9 : Int32).toInt64))) + ((I 0 10 : Int32).toInt64))) + ((I 0 11 : Int32).toInt64))) + ((I 26 1 : Int32).toInt64))) + ((I 2 1 : Int32).toInt64))) + ((I 4 1 : Int32).toInt64))), none, some (.int 6)], [], 0, 0, (mSH, I, L))) rfl (by decide) ?_
  refine mB 5 (s2 := (d + 7, 102, 19, [some (.ref 0), some (.long ((31 * ((31 * ((31 * ((31 * ((31 * (62093 + ((I 0 9 : Int32).toInt64))) + ((I 0 10 : Int32).toInt64))) + ((I 0 11 : Int32).toInt64))) + ((I 26 1 : Int32).toInt64))) + ((I 2 1 : Int32).toInt64))) + ((I 4 1 : Int32).toInt64))), none, some (.int 6)], [.int 6, .ref 0, .long (31 * ((31 * ((31 * ((31 * ((31 * ((31 * (62093 + ((I 0 9 : Int32).toInt64))) + ((I 0 10 : Int32).toInt64))) + ((I 0 11 : Int32).toInt64))) + ((I 26 1 : Int32).toInt64))) + ((I 2 1 : Int32).toInt64))) + ((I 4 1 : Int32).toInt64)))], 0, 0, (mSH, I, L))) rfl ?_
  refine mCall (s2 := (d + 6, 107, 0, [some (.ref 0), some (.int 6)], [], 0, 0, (mSH, I, L))) rfl ?_
  refine mB 1 (s2 := (d + 6, 107, 1, [some (.ref 0), some (.int 6)], [.int 6], 0, 0, (mSH, I, L))) rfl ?_
  refine mSw1 (t := (d + 6, 107, 89, [some (.ref 0), some (.int 6)], [], 0, 0, (mSH, I, L))) rfl rfl ?_
  refine mB 3 (s2 := (d + 6, 107, 96, [some (.ref 0), some (.int 6)], [.int (I 1 2)], 0, 0, (mSH, I, L))) rfl ?_
  refine mRt (r := (some (.int (I 1 2)))) (h := (mSH, I, L)) rfl (mRet_int rfl) ?_
  show mWP mTb_ mFT ro (d + 7, 102, 22, [some (.ref 0), some (.long ((31 * ((31 * ((31 * ((31 * ((31 * (62093 + ((I 0 9 : Int32).toInt64))) + ((I 0 10 : Int32).toInt64))) + ((I 0 11 : Int32).toInt64))) + ((I 26 1 : Int32).toInt64))) + ((I 2 1 : Int32).toInt64))) + ((I 4 1 : Int32).toInt64))), none, some (.int 6)], [.int (I 1 2), .long (31 * ((31 * ((31 * ((31 * ((31 * ((31 * (62093 + ((I 0 9 : Int32).toInt64))) + ((I 0 10 : Int32).toInt64))) + ((I 0 11 : Int32).toInt64))) + ((I 26 1 : Int32).toInt64))) + ((I 2 1 : Int32).toInt64))) + ((I 4 1 : Int32).toInt64)))], 0, 0, (mSH, I, L)) _
  refine mB 7 (s2 := (d + 7, 102, 9, [some (.ref 0), some (.long ((31 * ((31 * ((31 * ((31 * ((31 * ((31 * (62093 + ((I 0 9 : Int32).toInt64))) + ((I 0 10 : Int32).toInt64))) + ((I 0 11 : Int32).toInt64))) + ((I 26 1 : Int32).toInt64))) + ((I 2 1 : Int32).toInt64))) + ((I 4 1 : Int32).toInt64))) + ((I 1 2 : Int32).toInt64))), none, some (.int 7)], [.int 9, .int 7], 0, 0, (mSH, I, L))) rfl ?_
  refine mBF (s3 := (d + 7, 102, 12, [some (.ref 0), some (.long ((31 * ((31 * ((31 * ((31 * ((31 * ((31 * (62093 + ((I 0 9 : Int32).toInt64))) + ((I 0 10 : Int32).toInt64))) + ((I 0 11 : Int32).toInt64))) + ((I 26 1 : Int32).toInt64))) + ((I 2 1 : Int32).toInt64))) + ((I 4 1 : Int32).toInt64))) + ((I 1 2 : Int32).toInt64))), none, some (.int 7)], [], 0, 0, (mSH, I, L))) rfl (by decide) ?_
  refine mB 5 (s2 := (d + 7, 102, 19, [some (.ref 0), some (.long ((31 * ((31 * ((31 * ((31 * ((31 * ((31 * (62093 + ((I 0 9 : Int32).toInt64))) + ((I 0 10 : Int32).toInt64))) + ((I 0 11 : Int32).toInt64))) + ((I 26 1 : Int32).toInt64))) + ((I 2 1 : Int32).toInt64))) + ((I 4 1 : Int32).toInt64))) + ((I 1 2 : Int32).toInt64))), none, some (.int 7)], [.int 7, .ref 0, .long (31 * ((31 * ((31 * ((31 * ((31 * ((31 * ((31 * (62093 + ((I 0 9 : Int32).toInt64))) + ((I 0 10 : Int32).toInt64))) + ((I 0 11 : Int32).toInt64))) + ((I 26 1 : Int32).toInt64))) + ((I 2 1 : Int32).toInt64))) + ((I 4 1 : Int32).toInt64))) + ((I 1 2 : Int32).toInt64)))], 0, 0, (mSH, I, L))) rfl ?_
  refine mCall (s2 := (d + 6, 107, 0, [some (.ref 0), some (.int 7)], [], 0, 0, (mSH, I, L))) rfl ?_
  refine mB 1 (s2 := (d + 6, 107, 1, [some (.ref 0), some (.int 7)], [.int 7], 0, 0, (mSH, I, L))) rfl ?_
  refine mSw1 (t := (d + 6, 107, 97, [some (.ref 0), some (.int 7)], [], 0, 0, (mSH, I, L))) rfl rfl ?_
  refine mB 5 (s2 := (d + 6, 107, 105, [some (.ref 0), some (.int 7)], [.int 0, .ref 8], 0, 0, (mSH, I, L))) rfl ?_
  refine mCall (s2 := (d + 5, 10, 0, [some (.ref 8), some (.int 0)], [], 0, 0, (mSH, I, L))) rfl ?_
  refine mB 2 (s2 := (d + 5, 10, 2, [some (.ref 8), some (.int 0)], [.int 0, .ref 8], 0, 0, (mSH, I, L))) rfl ?_
  refine mCall (s2 := (d + 4, 8, 0, [some (.ref 8), some (.int 0)], [], 0, 0, (mSH, I, L))) rfl ?_
  refine mB 1 (s2 := (d + 4, 8, 1, [some (.ref 8), some (.int 0)], [.int 0], 0, 0, (mSH, I, L))) rfl ?_
  refine mBF (s3 := (d + 4, 8, 4, [some (.ref 8), some (.int 0)], [], 0, 0, (mSH, I, L))) rfl (by decide) ?_
  refine mB 4 (s2 := (d + 4, 8, 10, [some (.ref 8), some (.int 0)], [.int 3, .int 0], 0, 0, (mSH, I, L))) rfl ?_
  refine mBF (s3 := (d + 4, 8, 13, [some (.ref 8), some (.int 0)], [], 0, 0, (mSH, I, L))) rfl (by decide) ?_
  refine mB 2 (s2 := (d + 4, 8, 18, [some (.ref 8), some (.int 0)], [.int 1], 0, 0, (mSH, I, L))) rfl ?_
  refine mRt (r := (some (.int 1))) (h := (mSH, I, L)) rfl rfl ?_
  show mWP mTb_ mFT ro (d + 5, 10, 5, [some (.ref 8), some (.int 0)], [.int 1], 0, 0, (mSH, I, L)) _
  refine mBF (s3 := (d + 5, 10, 8, [some (.ref 8), some (.int 0)], [], 0, 0, (mSH, I, L))) rfl (by decide) ?_
  refine mB 3 (s2 := (d + 5, 10, 13, [some (.ref 8), some (.int 0)], [.int 0, .ref 9], 0, 0, (mSH, I, L))) rfl ?_
  refine mRq (s2 := (d + 5, 10, 14, [some (.ref 8), some (.int 0)], [.int (I 9 0)], 0, 0, (mSH, I, L))) rfl (by decide) ?_
  refine mB 1 (s2 := (d + 5, 10, 18, [some (.ref 8), some (.int 0)], [.int (I 9 0)], 0, 0, (mSH, I, L))) rfl ?_
  refine mRt (r := (some (.int (I 9 0)))) (h := (mSH, I, L)) rfl (mRet_int rfl) ?_
  show mWP mTb_ mFT ro (d + 6, 107, 108, [some (.ref 0), some (.int 7)], [.int (I 9 0)], 0, 0, (mSH, I, L)) _
  refine mRt (r := (some (.int (I 9 0)))) (h := (mSH, I, L)) rfl (mRet_int rfl) ?_
  show mWP mTb_ mFT ro (d + 7, 102, 22, [some (.ref 0), some (.long ((31 * ((31 * ((31 * ((31 * ((31 * ((31 * (62093 + ((I 0 9 : Int32).toInt64))) + ((I 0 10 : Int32).toInt64))) + ((I 0 11 : Int32).toInt64))) + ((I 26 1 : Int32).toInt64))) + ((I 2 1 : Int32).toInt64))) + ((I 4 1 : Int32).toInt64))) + ((I 1 2 : Int32).toInt64))), none, some (.int 7)], [.int (I 9 0), .long (31 * ((31 * ((31 * ((31 * ((31 * ((31 * ((31 * (62093 + ((I 0 9 : Int32).toInt64))) + ((I 0 10 : Int32).toInt64))) + ((I 0 11 : Int32).toInt64))) + ((I 26 1 : Int32).toInt64))) + ((I 2 1 : Int32).toInt64))) + ((I 4 1 : Int32).toInt64))) + ((I 1 2 : Int32).toInt64)))], 0, 0, (mSH, I, L)) _
  refine mB 7 (s2 := (d + 7, 102, 9, [some (.ref 0), some (.long ((31 * ((31 * ((31 * ((31 * ((31 * ((31 * ((31 * (62093 + ((I 0 9 : Int32).toInt64))) + ((I 0 10 : Int32).toInt64))) + ((I 0 11 : Int32).toInt64))) + ((I 26 1 : Int32).toInt64))) + ((I 2 1 : Int32).toInt64))) + ((I 4 1 : Int32).toInt64))) + ((I 1 2 : Int32).toInt64))) + ((I 9 0 : Int32).toInt64))), none, some (.int 8)], [.int 9, .int 8], 0, 0, (mSH, I, L))) rfl ?_
  refine mBF (s3 := (d + 7, 102, 12, [some (.ref 0), some (.long ((31 * ((31 * ((31 * ((31 * ((31 * ((31 * ((31 * (62093 + ((I 0 9 : Int32).toInt64))) + ((I 0 10 : Int32).toInt64))) + ((I 0 11 : Int32).toInt64))) + ((I 26 1 : Int32).toInt64))) + ((I 2 1 : Int32).toInt64))) + ((I 4 1 : Int32).toInt64))) + ((I 1 2 : Int32).toInt64))) + ((I 9 0 : Int32).toInt64))), none, some (.int 8)], [], 0, 0, (mSH, I, L))) rfl (by decide) ?_
  refine mB 5 (s2 := (d + 7, 102, 19, [some (.ref 0), some (.long ((31 * ((31 * ((31 * ((31 * ((31 * ((31 * ((31 * (62093 + ((I 0 9 : Int32).toInt64))) + ((I 0 10 : Int32).toInt64))) + ((I 0 11 : Int32).toInt64))) + ((I 26 1 : Int32).toInt64))) + ((I 2 1 : Int32).toInt64))) + ((I 4 1 : Int32).toInt64))) + ((I 1 2 : Int32).toInt64))) + ((I 9 0 : Int32).toInt64))), none, some (.int 8)], [.int 8, .ref 0, .long (31 * ((31 * ((31 * ((31 * ((31 * ((31 * ((31 * ((31 * (62093 + ((I 0 9 : Int32).toInt64))) + ((I 0 10 : Int32).toInt64))) + ((I 0 11 : Int32).toInt64))) + ((I 26 1 : Int32).toInt64))) + ((I 2 1 : Int32).toInt64))) + ((I 4 1 : Int32).toInt64))) + ((I 1 2 : Int32).toInt64))) + ((I 9 0 : Int32).toInt64)))], 0, 0, (mSH, I, L))) rfl ?_
  refine mCall (s2 := (d + 6, 107, 0, [some (.ref 0), some (.int 8)], [], 0, 0, (mSH, I, L))) rfl ?_
  refine mB 1 (s2 := (d + 6, 107, 1, [some (.ref 0), some (.int 8)], [.int 8], 0, 0, (mSH, I, L))) rfl ?_
  refine mSw1 (t := (d + 6, 107, 97, [some (.ref 0), some (.int 8)], [], 0, 0, (mSH, I, L))) rfl rfl ?_
  refine mB 5 (s2 := (d + 6, 107, 105, [some (.ref 0), some (.int 8)], [.int 1, .ref 8], 0, 0, (mSH, I, L))) rfl ?_
  refine mCall (s2 := (d + 5, 10, 0, [some (.ref 8), some (.int 1)], [], 0, 0, (mSH, I, L))) rfl ?_
  refine mB 2 (s2 := (d + 5, 10, 2, [some (.ref 8), some (.int 1)], [.int 1, .ref 8], 0, 0, (mSH, I, L))) rfl ?_
  refine mCall (s2 := (d + 4, 8, 0, [some (.ref 8), some (.int 1)], [], 0, 0, (mSH, I, L))) rfl ?_
  refine mB 1 (s2 := (d + 4, 8, 1, [some (.ref 8), some (.int 1)], [.int 1], 0, 0, (mSH, I, L))) rfl ?_
  refine mBF (s3 := (d + 4, 8, 4, [some (.ref 8), some (.int 1)], [], 0, 0, (mSH, I, L))) rfl (by decide) ?_
  refine mB 4 (s2 := (d + 4, 8, 10, [some (.ref 8), some (.int 1)], [.int 3, .int 1], 0, 0, (mSH, I, L))) rfl ?_
  refine mBF (s3 := (d + 4, 8, 13, [some (.ref 8), some (.int 1)], [], 0, 0, (mSH, I, L))) rfl (by decide) ?_
  refine mB 2 (s2 := (d + 4, 8, 18, [some (.ref 8), some (.int 1)], [.int 1], 0, 0, (mSH, I, L))) rfl ?_
  refine mRt (r := (some (.int 1))) (h := (mSH, I, L)) rfl rfl ?_
  show mWP mTb_ mFT ro (d + 5, 10, 5, [some (.ref 8), some (.int 1)], [.int 1], 0, 0, (mSH, I, L)) _
  refine mBF (s3 := (d + 5, 10, 8, [some (.ref 8), some (.int 1)], [], 0, 0, (mSH, I, L))) rfl (by decide) ?_
  refine mB 3 (s2 := (d + 5, 10, 13, [some (.ref 8), some (.int 1)], [.int 1, .ref 9], 0, 0, (mSH, I, L))) rfl ?_
  refine mRq (s2 := (d + 5, 10, 14, [some (.ref 8), some (.int 1)], [.int (I 9 1)], 0, 0, (mSH, I, L))) rfl (by decide) ?_
  refine mB 1 (s2 := (d + 5, 10, 18, [some (.ref 8), some (.int 1)], [.int (I 9 1)], 0, 0, (mSH, I, L))) rfl ?_
  refine mRt (r := (some (.int (I 9 1)))) (h := (mSH, I, L)) rfl (mRet_int rfl) ?_
  show mWP mTb_ mFT ro (d + 6, 107, 108, [some (.ref 0), some (.int 8)], [.int (I 9 1)], 0, 0, (mSH, I, L)) _
  refine mRt (r := (some (.int (I 9 1)))) (h := (mSH, I, L)) rfl (mRet_int rfl) ?_
  show mWP mTb_ mFT ro (d + 7, 102, 22, [some (.ref 0), some (.long ((31 * ((31 * ((31 * ((31 * ((31 * ((31 * ((31 * (62093 + ((I 0 9 : Int32).toInt64))) + ((I 0 10 : Int32).toInt64))) + ((I 0 11 : Int32).toInt64))) + ((I 26 1 : Int32).toInt64))) + ((I 2 1 : Int32).toInt64))) + ((I 4 1 : Int32).toInt64))) + ((I 1 2 : Int32).toInt64))) + ((I 9 0 : Int32).toInt64))), none, some (.int 8)], [.int (I 9 1), .long (31 * ((31 * ((31 * ((31 * ((31 * ((31 * ((31 * ((31 * (62093 + ((I 0 9 : Int32).toInt64))) + ((I 0 10 : Int32).toInt64))) + ((I 0 11 : Int32).toInt64))) + ((I 26 1 : Int32).toInt64))) + ((I 2 1 : Int32).toInt64))) + ((I 4 1 : Int32).toInt64))) + ((I 1 2 : Int32).toInt64))) + ((I 9 0 : Int32).toInt64)))], 0, 0, (mSH, I, L)) _
  refine mB 7 (s2 := (d + 7, 102, 9, [some (.ref 0), some (.long ((31 * ((31 * ((31 * ((31 * ((31 * ((31 * ((31 * ((31 * (62093 + ((I 0 9 : Int32).toInt64))) + ((I 0 10 : Int32).toInt64))) + ((I 0 11 : Int32).toInt64))) + ((I 26 1 : Int32).toInt64))) + ((I 2 1 : Int32).toInt64))) + ((I 4 1 : Int32).toInt64))) + ((I 1 2 : Int32).toInt64))) + ((I 9 0 : Int32).toInt64))) + ((I 9 1 : Int32).toInt64))), none, some (.int 9)], [.int 9, .int 9], 0, 0, (mSH, I, L))) rfl ?_
  refine mBF (s3 := (d + 7, 102, 12, [some (.ref 0), some (.long ((31 * ((31 * ((31 * ((31 * ((31 * ((31 * ((31 * ((31 * (62093 + ((I 0 9 : Int32).toInt64))) + ((I 0 10 : Int32).toInt64))) + ((I 0 11 : Int32).toInt64))) + ((I 26 1 : Int32).toInt64))) + ((I 2 1 : Int32).toInt64))) + ((I 4 1 : Int32).toInt64))) + ((I 1 2 : Int32).toInt64))) + ((I 9 0 : Int32).toInt64))) + ((I 9 1 : Int32).toInt64))), none, some (.int 9)], [], 0, 0, (mSH, I, L))) rfl (by decide) ?_
  refine mB 5 (s2 := (d + 7, 102, 19, [some (.ref 0), some (.long ((31 * ((31 * ((31 * ((31 * ((31 * ((31 * ((31 * ((31 * (62093 + ((I 0 9 : Int32).toInt64))) + ((I 0 10 : Int32).toInt64))) + ((I 0 11 : Int32).toInt64))) + ((I 26 1 : Int32).toInt64))) + ((I 2 1 : Int32).toInt64))) + ((I 4 1 : Int32).toInt64))) + ((I 1 2 : Int32).toInt64))) + ((I 9 0 : Int32).toInt64))) + ((I 9 1 : Int32).toInt64))), none, some (.int 9)], [.int 9, .ref 0, .long (31 * ((31 * ((31 * ((31 * ((31 * ((31 * ((31 * ((31 * ((31 * (62093 + ((I 0 9 : Int32).toInt64))) + ((I 0 10 : Int32).toInt64))) + ((I 0 11 : Int32).toInt64))) + ((I 26 1 : Int32).toInt64))) + ((I 2 1 : Int32).toInt64))) + ((I 4 1 : Int32).toInt64))) + ((I 1 2 : Int32).toInt64))) + ((I 9 0 : Int32).toInt64))) + ((I 9 1 : Int32).toInt64)))], 0, 0, (mSH, I, L))) rfl ?_
  refine mCall (s2 := (d + 6, 107, 0, [some (.ref 0), some (.int 9)], [], 0, 0, (mSH, I, L))) rfl ?_
  refine mB 1 (s2 := (d + 6, 107, 1, [some (.ref 0), some (.int 9)], [.int 9], 0, 0, (mSH, I, L))) rfl ?_
  refine mSw1 (t := (d + 6, 107, 97, [some (.ref 0), some (.int 9)], [], 0, 0, (mSH, I, L))) rfl rfl ?_
  refine mB 5 (s2 := (d + 6, 107, 105, [some (.ref 0), some (.int 9)], [.int 2, .ref 8], 0, 0, (mSH, I, L))) rfl ?_
  refine mCall (s2 := (d + 5, 10, 0, [some (.ref 8), some (.int 2)], [], 0, 0, (mSH, I, L))) rfl ?_
  refine mB 2 (s2 := (d + 5, 10, 2, [some (.ref 8), some (.int 2)], [.int 2, .ref 8], 0, 0, (mSH, I, L))) rfl ?_
  refine mCall (s2 := (d + 4, 8, 0, [some (.ref 8), some (.int 2)], [], 0, 0, (mSH, I, L))) rfl ?_
  refine mB 1 (s2 := (d + 4, 8, 1, [some (.ref 8), some (.int 2)], [.int 2], 0, 0, (mSH, I, L))) rfl ?_
  refine mBF (s3 := (d + 4, 8, 4, [some (.ref 8), some (.int 2)], [], 0, 0, (mSH, I, L))) rfl (by decide) ?_
  refine mB 4 (s2 := (d + 4, 8, 10, [some (.ref 8), some (.int 2)], [.int 3, .int 2], 0, 0, (mSH, I, L))) rfl ?_
  refine mBF (s3 := (d + 4, 8, 13, [some (.ref 8), some (.int 2)], [], 0, 0, (mSH, I, L))) rfl (by decide) ?_
  refine mB 2 (s2 := (d + 4, 8, 18, [some (.ref 8), some (.int 2)], [.int 1], 0, 0, (mSH, I, L))) rfl ?_
  refine mRt (r := (some (.int 1))) (h := (mSH, I, L)) rfl rfl ?_
  show mWP mTb_ mFT ro (d + 5, 10, 5, [some (.ref 8), some (.int 2)], [.int 1], 0, 0, (mSH, I, L)) _
  refine mBF (s3 := (d + 5, 10, 8, [some (.ref 8), some (.int 2)], [], 0, 0, (mSH, I, L))) rfl (by decide) ?_
  refine mB 3 (s2 := (d + 5, 10, 13, [some (.ref 8), some (.int 2)], [.int 2, .ref 9], 0, 0, (mSH, I, L))) rfl ?_
  refine mRq (s2 := (d + 5, 10, 14, [some (.ref 8), some (.int 2)], [.int (I 9 2)], 0, 0, (mSH, I, L))) rfl (by decide) ?_
  refine mB 1 (s2 := (d + 5, 10, 18, [some (.ref 8), some (.int 2)], [.int (I 9 2)], 0, 0, (mSH, I, L))) rfl ?_
  refine mRt (r := (some (.int (I 9 2)))) (h := (mSH, I, L)) rfl (mRet_int rfl) ?_
  show mWP mTb_ mFT ro (d + 6, 107, 108, [some (.ref 0), some (.int 9)], [.int (I 9 2)], 0, 0, (mSH, I, L)) _
  refine mRt (r := (some (.int (I 9 2)))) (h := (mSH, I, L)) rfl (mRet_int rfl) ?_
  show mWP mTb_ mFT ro (d + 7, 102, 22, [some (.ref 0), some (.long ((31 * ((31 * ((31 * ((31 * ((31 * ((31 * ((31 * ((31 * (62093 + ((I 0 9 : Int32).toInt64))) + ((I 0 10 : Int32).toInt64))) + ((I 0 11 : Int32).toInt64))) + ((I 26 1 : Int32).toInt64))) + ((I 2 1 : Int32).toInt64))) + ((I 4 1 : Int32).toInt64))) + ((I 1 2 : Int32).toInt64))) + ((I 9 0 : Int32).toInt64))) + ((I 9 1 : Int32).toInt64))), none, some (.int 9)], [.int (I 9 2), .long (31 * ((31 * ((31 * ((31 * ((31 * ((31 * ((31 * ((31 * ((31 * (62093 + ((I 0 9 : Int32).toInt64))) + ((I 0 10 : Int32).toInt64))) + ((I 0 11 : Int32).toInt64))) + ((I 26 1 : Int32).toInt64))) + ((I 2 1 : Int32).toInt64))) + ((I 4 1 : Int32).toInt64))) + ((I 1 2 : Int32).toInt64))) + ((I 9 0 : Int32).toInt64))) + ((I 9 1 : Int32).toInt64)))], 0, 0, (mSH, I, L)) _
  refine mB 7 (s2 := (d + 7, 102, 9, [some (.ref 0), some (.long ((31 * ((31 * ((31 * ((31 * ((31 * ((31 * ((31 * ((31 * ((31 * (62093 + ((I 0 9 : Int32).toInt64))) + ((I 0 10 : Int32).toInt64))) + ((I 0 11 : Int32).toInt64))) + ((I 26 1 : Int32).toInt64))) + ((I 2 1 : Int32).toInt64))) + ((I 4 1 : Int32).toInt64))) + ((I 1 2 : Int32).toInt64))) + ((I 9 0 : Int32).toInt64))) + ((I 9 1 : Int32).toInt64))) + ((I 9 2 : Int32).toInt64))), none, some (.int 10)], [.int 9, .int 10], 0, 0, (mSH, I, L))) rfl ?_
  refine mBT (s2 := (d + 7, 102, 31, [some (.ref 0), some (.long ((31 * ((31 * ((31 * ((31 * ((31 * ((31 * ((31 * ((31 * ((31 * (62093 + ((I 0 9 : Int32).toInt64))) + ((I 0 10 : Int32).toInt64))) + ((I 0 11 : Int32).toInt64))) + ((I 26 1 : Int32).toInt64))) + ((I 2 1 : Int32).toInt64))) + ((I 4 1 : Int32).toInt64))) + ((I 1 2 : Int32).toInt64))) + ((I 9 0 : Int32).toInt64))) + ((I 9 1 : Int32).toInt64))) + ((I 9 2 : Int32).toInt64))), none, some (.int 10)], [], 0, 0, (mSH, I, L))) rfl (by decide) ?_
  refine mB 4 (s2 := (d + 7, 102, 39, [some (.ref 0), some (.long ((31 * ((31 * ((31 * ((31 * ((31 * ((31 * ((31 * ((31 * ((31 * (62093 + ((I 0 9 : Int32).toInt64))) + ((I 0 10 : Int32).toInt64))) + ((I 0 11 : Int32).toInt64))) + ((I 26 1 : Int32).toInt64))) + ((I 2 1 : Int32).toInt64))) + ((I 4 1 : Int32).toInt64))) + ((I 1 2 : Int32).toInt64))) + ((I 9 0 : Int32).toInt64))) + ((I 9 1 : Int32).toInt64))) + ((I 9 2 : Int32).toInt64))), none, some (.int 10)], [.long ((31 * ((31 * ((31 * ((31 * ((31 * ((31 * ((31 * ((31 * ((31 * (62093 + ((I 0 9 : Int32).toInt64))) + ((I 0 10 : Int32).toInt64))) + ((I 0 11 : Int32).toInt64))) + ((I 26 1 : Int32).toInt64))) + ((I 2 1 : Int32).toInt64))) + ((I 4 1 : Int32).toInt64))) + ((I 1 2 : Int32).toInt64))) + ((I 9 0 : Int32).toInt64))) + ((I 9 1 : Int32).toInt64))) + ((I 9 2 : Int32).toInt64)), .ref 2], 0, 0, (mSH, I, L))) rfl ?_
  refine mCall (s2 := (d + 6, 49, 0, [some (.ref 2), some (.long ((31 * ((31 * ((31 * ((31 * ((31 * ((31 * ((31 * ((31 * ((31 * (62093 + ((I 0 9 : Int32).toInt64))) + ((I 0 10 : Int32).toInt64))) + ((I 0 11 : Int32).toInt64))) + ((I 26 1 : Int32).toInt64))) + ((I 2 1 : Int32).toInt64))) + ((I 4 1 : Int32).toInt64))) + ((I 1 2 : Int32).toInt64))) + ((I 9 0 : Int32).toInt64))) + ((I 9 1 : Int32).toInt64))) + ((I 9 2 : Int32).toInt64))), none, none, none, none], [], 0, 0, (mSH, I, L))) rfl ?_
  refine w_mixed_2 hI.1 (fun r1 => ?_)
  show mWP mTb_ mFT ro (d + 7, 102, 42, [some (.ref 0), some (.long ((31 * ((31 * ((31 * ((31 * ((31 * ((31 * ((31 * ((31 * ((31 * (62093 + ((I 0 9 : Int32).toInt64))) + ((I 0 10 : Int32).toInt64))) + ((I 0 11 : Int32).toInt64))) + ((I 26 1 : Int32).toInt64))) + ((I 2 1 : Int32).toInt64))) + ((I 4 1 : Int32).toInt64))) + ((I 1 2 : Int32).toInt64))) + ((I 9 0 : Int32).toInt64))) + ((I 9 1 : Int32).toInt64))) + ((I 9 2 : Int32).toInt64))), none, some (.int 10)], [.long r1], 0, 0, (mSH, I, L)) _
  refine mB 5 (s2 := (d + 7, 102, 51, [some (.ref 0), some (.long r1), none, some (.int 10)], [.long r1, .ref 4], 0, 0, (mSH, I, L))) rfl ?_
  refine mCall (s2 := (d + 6, 49, 0, [some (.ref 4), some (.long r1), none, none, none, none], [], 0, 0, (mSH, I, L))) rfl ?_
  refine w_mixed_4 hI.2.1 (fun r2 => ?_)
  show mWP mTb_ mFT ro (d + 7, 102, 54, [some (.ref 0), some (.long r1), none, some (.int 10)], [.long r2], 0, 0, (mSH, I, L)) _
  refine mB 4 (s2 := (d + 7, 102, 60, [some (.ref 0), some (.long r2), none, some (.int 10)], [.long r2, .ref 6], 0, 0, (mSH, I, L))) rfl ?_
  refine mCall (s2 := (d + 6, 3, 0, [some (.ref 6), some (.long r2), none, none, none], [], 0, 0, (mSH, I, L))) rfl ?_
  refine mB 31 (s2 := (d + 6, 3, 47, [some (.ref 6), some (.long r2), none, some (.long ((31 * ((31 * ((31 * r2) + ((I 6 0 : Int32).toInt64))) + ((I 6 1 : Int32).toInt64))) + ((I 6 2 : Int32).toInt64))), none], [.long ((31 * ((31 * ((31 * ((31 * r2) + ((I 6 0 : Int32).toInt64))) + ((I 6 1 : Int32).toInt64))) + ((I 6 2 : Int32).toInt64))) + ((I 6 3 : Int32).toInt64))], 0, 0, (mSH, I, L))) rfl ?_
  refine mRt (r := (some (.long ((31 * ((31 * ((31 * ((31 * r2) + ((I 6 0 : Int32).toInt64))) + ((I 6 1 : Int32).toInt64))) + ((I 6 2 : Int32).toInt64))) + ((I 6 3 : Int32).toInt64))))) (h := (mSH, I, L)) rfl rfl ?_
  show mWP mTb_ mFT ro (d + 7, 102, 63, [some (.ref 0), some (.long r2), none, some (.int 10)], [.long ((31 * ((31 * ((31 * ((31 * r2) + ((I 6 0 : Int32).toInt64))) + ((I 6 1 : Int32).toInt64))) + ((I 6 2 : Int32).toInt64))) + ((I 6 3 : Int32).toInt64))], 0, 0, (mSH, I, L)) _
  refine mB 20 (s2 := (d + 7, 102, 95, [some (.ref 0), some (.long ((31 * ((31 * ((31 * ((31 * ((31 * ((31 * r2) + ((I 6 0 : Int32).toInt64))) + ((I 6 1 : Int32).toInt64))) + ((I 6 2 : Int32).toInt64))) + ((I 6 3 : Int32).toInt64))) + ((I 25 0 : Int32).toInt64))) + ((I 25 1 : Int32).toInt64))), none, some (.int 10)], [.ref 0], 0, 0, (mSH, I, L))) rfl ?_
  refine mCall (s2 := (d + 6, 105, 0, [some (.ref 0)], [], 0, 0, (mSH, I, L))) rfl ?_
  refine mB 7 (s2 := (d + 6, 105, 13, [some (.ref 0)], [.int 0, .ref 8, .ref 6, .ref 10], 0, 0, (mSH, I, L))) rfl ?_
  refine mCall (s2 := (d + 5, 10, 0, [some (.ref 8), some (.int 0)], [], 0, 0, (mSH, I, L))) rfl ?_
  refine mB 2 (s2 := (d + 5, 10, 2, [some (.ref 8), some (.int 0)], [.int 0, .ref 8], 0, 0, (mSH, I, L))) rfl ?_
  refine mCall (s2 := (d + 4, 8, 0, [some (.ref 8), some (.int 0)], [], 0, 0, (mSH, I, L))) rfl ?_
  refine mB 1 (s2 := (d + 4, 8, 1, [some (.ref 8), some (.int 0)], [.int 0], 0, 0, (mSH, I, L))) rfl ?_
  refine mBF (s3 := (d + 4, 8, 4, [some (.ref 8), some (.int 0)], [], 0, 0, (mSH, I, L))) rfl (by decide) ?_
  refine mB 4 (s2 := (d + 4, 8, 10, [some (.ref 8), some (.int 0)], [.int 3, .int 0], 0, 0, (mSH, I, L))) rfl ?_
  refine mBF (s3 := (d + 4, 8, 13, [some (.ref 8), some (.int 0)], [], 0, 0, (mSH, I, L))) rfl (by decide) ?_
  refine mB 2 (s2 := (d + 4, 8, 18, [some (.ref 8), some (.int 0)], [.int 1], 0, 0, (mSH, I, L))) rfl ?_
  refine mRt (r := (some (.int 1))) (h := (mSH, I, L)) rfl rfl ?_
  show mWP mTb_ mFT ro (d + 5, 10, 5, [some (.ref 8), some (.int 0)], [.int 1], 0, 0, (mSH, I, L)) _
  refine mBF (s3 := (d + 5, 10, 8, [some (.ref 8), some (.int 0)], [], 0, 0, (mSH, I, L))) rfl (by decide) ?_
  refine mB 3 (s2 := (d + 5, 10, 13, [some (.ref 8), some (.int 0)], [.int 0, .ref 9], 0, 0, (mSH, I, L))) rfl ?_
  refine mRq (s2 := (d + 5, 10, 14, [some (.ref 8), some (.int 0)], [.int (I 9 0)], 0, 0, (mSH, I, L))) rfl (by decide) ?_
  refine mB 1 (s2 := (d + 5, 10, 18, [some (.ref 8), some (.int 0)], [.int (I 9 0)], 0, 0, (mSH, I, L))) rfl ?_
  refine mRt (r := (some (.int (I 9 0)))) (h := (mSH, I, L)) rfl (mRet_int rfl) ?_
  show mWP mTb_ mFT ro (d + 6, 105, 16, [some (.ref 0)], [.int (I 9 0), .ref 6, .ref 10], 0, 0, (mSH, I, L)) _
  refine mCall (s2 := (d + 5, 52, 0, [some (.ref 10), some (.ref 6), some (.int (I 9 0)), none, none, none], [], 0, 0, (mSH, I, L))) rfl ?_
  refine w_fill_L6 hI.1 hI.2.1 hI.2.2.2.2.2.2 (fun K3 hK3 => ?_)
  show mWP mTb_ mFT ro (d + 6, 105, 19, [some (.ref 0)], [], 0, 0, (mSH, (mMix mSS I K3), L)) _
  refine mRt (r := none) (h := (mSH, (mMix mSS I K3), L)) rfl rfl ?_
  show mWP mTb_ mFT ro (d + 7, 102, 98, [some (.ref 0), some (.long ((31 * ((31 * ((31 * ((31 * ((31 * ((31 * r2) + ((I 6 0 : Int32).toInt64))) + ((I 6 1 : Int32).toInt64))) + ((I 6 2 : Int32).toInt64))) + ((I 6 3 : Int32).toInt64))) + ((I 25 0 : Int32).toInt64))) + ((I 25 1 : Int32).toInt64))), none, some (.int 10)], [], 0, 0, (mSH, (mMix mSS I K3), L)) _
  refine mB 5 (s2 := (d + 7, 102, 107, [some (.ref 0), some (.long ((31 * ((31 * ((31 * ((31 * ((31 * ((31 * r2) + ((I 6 0 : Int32).toInt64))) + ((I 6 1 : Int32).toInt64))) + ((I 6 2 : Int32).toInt64))) + ((I 6 3 : Int32).toInt64))) + ((I 25 0 : Int32).toInt64))) + ((I 25 1 : Int32).toInt64))), none, some (.int 10)], [.ref 10, .long (31 * ((31 * ((31 * ((31 * ((31 * ((31 * ((31 * r2) + ((I 6 0 : Int32).toInt64))) + ((I 6 1 : Int32).toInt64))) + ((I 6 2 : Int32).toInt64))) + ((I 6 3 : Int32).toInt64))) + ((I 25 0 : Int32).toInt64))) + ((I 25 1 : Int32).toInt64)))], 0, 0, (mSH, (mMix mSS I K3), L))) rfl ?_
  refine mCall (s2 := (d + 6, 61, 0, [some (.ref 10)], [], 0, 0, (mSH, (mMix mSS I K3), L))) rfl ?_
  refine mB 2 (s2 := (d + 6, 61, 4, [some (.ref 10)], [.int 153, .ref 10], 0, 0, (mSH, (mMix mSS I K3), L))) rfl ?_
  refine mCall (s2 := (d + 5, 60, 0, [some (.ref 10), some (.int 153)], [], 0, 0, (mSH, (mMix mSS I K3), L))) rfl ?_
  refine mB 3 (s2 := (d + 5, 60, 5, [some (.ref 10), some (.int 153)], [.int 0, .ref 11], 0, 0, (mSH, (mMix mSS I K3), L))) rfl ?_
  refine mRq (s2 := (d + 5, 60, 6, [some (.ref 10), some (.int 153)], [.ref 12], 0, 0, (mSH, (mMix mSS I K3), L))) rfl (by decide) ?_
  refine mB 1 (s2 := (d + 5, 60, 7, [some (.ref 10), some (.int 153)], [.int 153, .ref 12], 0, 0, (mSH, (mMix mSS I K3), L))) rfl ?_
  refine mRq (s2 := (d + 5, 60, 8, [some (.ref 10), some (.int 153)], [.int (K3 12 153)], 0, 0, (mSH, (mMix mSS I K3), L))) rfl (by decide) ?_
  refine mB 1 (s2 := (d + 5, 60, 10, [some (.ref 10), some (.int 153)], [.int 1000000000, .int (K3 12 153)], 0, 0, (mSH, (mMix mSS I K3), L))) rfl ?_
  refine mBr (s2 := (d + 5, 60, 13, [some (.ref 10), some (.int 153)], [], 0, 0, (mSH, (mMix mSS I K3), L))) (s3 := (d + 5, 60, 17, [some (.ref 10), some (.int 153)], [], 0, 0, (mSH, (mMix mSS I K3), L))) rfl (fun c4 => ?_) (fun c4 => ?_)
  · refine mB 2 (s2 := (d + 5, 60, 25, [some (.ref 10), some (.int 153)], [.int (-1)], 0, 0, (mSH, (mMix mSS I K3), L))) rfl ?_
    refine mRt (r := (some (.int (-1)))) (h := (mSH, (mMix mSS I K3), L)) rfl (mRet_int rfl) ?_
    show mWP mTb_ mFT ro (d + 6, 61, 7, [some (.ref 10)], [.int (-1)], 0, 0, (mSH, (mMix mSS I K3), L)) _
    refine mRt (r := (some (.int (-1)))) (h := (mSH, (mMix mSS I K3), L)) rfl (mRet_int rfl) ?_
    show mWP mTb_ mFT ro (d + 7, 102, 110, [some (.ref 0), some (.long ((31 * ((31 * ((31 * ((31 * ((31 * ((31 * r2) + ((I 6 0 : Int32).toInt64))) + ((I 6 1 : Int32).toInt64))) + ((I 6 2 : Int32).toInt64))) + ((I 6 3 : Int32).toInt64))) + ((I 25 0 : Int32).toInt64))) + ((I 25 1 : Int32).toInt64))), none, some (.int 10)], [.int (-1), .long (31 * ((31 * ((31 * ((31 * ((31 * ((31 * ((31 * r2) + ((I 6 0 : Int32).toInt64))) + ((I 6 1 : Int32).toInt64))) + ((I 6 2 : Int32).toInt64))) + ((I 6 3 : Int32).toInt64))) + ((I 25 0 : Int32).toInt64))) + ((I 25 1 : Int32).toInt64)))], 0, 0, (mSH, (mMix mSS I K3), L)) _
    refine mB 2 (s2 := (d + 7, 102, 112, [some (.ref 0), some (.long ((31 * ((31 * ((31 * ((31 * ((31 * ((31 * r2) + ((I 6 0 : Int32).toInt64))) + ((I 6 1 : Int32).toInt64))) + ((I 6 2 : Int32).toInt64))) + ((I 6 3 : Int32).toInt64))) + ((I 25 0 : Int32).toInt64))) + ((I 25 1 : Int32).toInt64))), none, some (.int 10)], [.long ((31 * ((31 * ((31 * ((31 * ((31 * ((31 * ((31 * r2) + ((I 6 0 : Int32).toInt64))) + ((I 6 1 : Int32).toInt64))) + ((I 6 2 : Int32).toInt64))) + ((I 6 3 : Int32).toInt64))) + ((I 25 0 : Int32).toInt64))) + ((I 25 1 : Int32).toInt64))) + (((-1) : Int32).toInt64))], 0, 0, (mSH, (mMix mSS I K3), L))) rfl ?_
    refine mRt (r := (some (.long ((31 * ((31 * ((31 * ((31 * ((31 * ((31 * ((31 * r2) + ((I 6 0 : Int32).toInt64))) + ((I 6 1 : Int32).toInt64))) + ((I 6 2 : Int32).toInt64))) + ((I 6 3 : Int32).toInt64))) + ((I 25 0 : Int32).toInt64))) + ((I 25 1 : Int32).toInt64))) + (((-1) : Int32).toInt64))))) (h := (mSH, (mMix mSS I K3), L)) rfl rfl ?_
    exact hq _ _ (mFr.mix (by decide) mFr.rf) ⟨hI.1, hI.2.1, hI.2.2.1, hI.2.2.2.1, hI.2.2.2.2.1, hI.2.2.2.2.2.1, hK3⟩
  · refine mB 3 (s2 := (d + 5, 60, 22, [some (.ref 10), some (.int 153)], [.int 0, .ref 11], 0, 0, (mSH, (mMix mSS I K3), L))) rfl ?_
    refine mRq (s2 := (d + 5, 60, 23, [some (.ref 10), some (.int 153)], [.ref 12], 0, 0, (mSH, (mMix mSS I K3), L))) rfl (by decide) ?_
    refine mB 1 (s2 := (d + 5, 60, 24, [some (.ref 10), some (.int 153)], [.int 153, .ref 12], 0, 0, (mSH, (mMix mSS I K3), L))) rfl ?_
    refine mRq (s2 := (d + 5, 60, 25, [some (.ref 10), some (.int 153)], [.int (K3 12 153)], 0, 0, (mSH, (mMix mSS I K3), L))) rfl (by decide) ?_
    refine mRt (r := (some (.int (K3 12 153)))) (h := (mSH, (mMix mSS I K3), L)) rfl (mRet_int rfl) ?_
    show mWP mTb_ mFT ro (d + 6, 61, 7, [some (.ref 10)], [.int (K3 12 153)], 0, 0, (mSH, (mMix mSS I K3), L)) _
    refine mRt (r := (some (.int (K3 12 153)))) (h := (mSH, (mMix mSS I K3), L)) rfl (mRet_int rfl) ?_
    show mWP mTb_ mFT ro (d + 7, 102, 110, [some (.ref 0), some (.long ((31 * ((31 * ((31 * ((31 * ((31 * ((31 * r2) + ((I 6 0 : Int32).toInt64))) + ((I 6 1 : Int32).toInt64))) + ((I 6 2 : Int32).toInt64))) + ((I 6 3 : Int32).toInt64))) + ((I 25 0 : Int32).toInt64))) + ((I 25 1 : Int32).toInt64))), none, some (.int 10)], [.int (K3 12 153), .long (31 * ((31 * ((31 * ((31 * ((31 * ((31 * ((31 * r2) + ((I 6 0 : Int32).toInt64))) + ((I 6 1 : Int32).toInt64))) + ((I 6 2 : Int32).toInt64))) + ((I 6 3 : Int32).toInt64))) + ((I 25 0 : Int32).toInt64))) + ((I 25 1 : Int32).toInt64)))], 0, 0, (mSH, (mMix mSS I K3), L)) _
    refine mB 2 (s2 := (d + 7, 102, 112, [some (.ref 0), some (.long ((31 * ((31 * ((31 * ((31 * ((31 * ((31 * r2) + ((I 6 0 : Int32).toInt64))) + ((I 6 1 : Int32).toInt64))) + ((I 6 2 : Int32).toInt64))) + ((I 6 3 : Int32).toInt64))) + ((I 25 0 : Int32).toInt64))) + ((I 25 1 : Int32).toInt64))), none, some (.int 10)], [.long ((31 * ((31 * ((31 * ((31 * ((31 * ((31 * ((31 * r2) + ((I 6 0 : Int32).toInt64))) + ((I 6 1 : Int32).toInt64))) + ((I 6 2 : Int32).toInt64))) + ((I 6 3 : Int32).toInt64))) + ((I 25 0 : Int32).toInt64))) + ((I 25 1 : Int32).toInt64))) + ((K3 12 153 : Int32).toInt64))], 0, 0, (mSH, (mMix mSS I K3), L))) rfl ?_
    refine mRt (r := (some (.long ((31 * ((31 * ((31 * ((31 * ((31 * ((31 * ((31 * r2) + ((I 6 0 : Int32).toInt64))) + ((I 6 1 : Int32).toInt64))) + ((I 6 2 : Int32).toInt64))) + ((I 6 3 : Int32).toInt64))) + ((I 25 0 : Int32).toInt64))) + ((I 25 1 : Int32).toInt64))) + ((K3 12 153 : Int32).toInt64))))) (h := (mSH, (mMix mSS I K3), L)) rfl rfl ?_
    exact hq _ _ (mFr.mix (by decide) mFr.rf) ⟨hI.1, hI.2.1, hI.2.2.1, hI.2.2.2.1, hI.2.2.2.2.1, hI.2.2.2.2.2.1, hK3⟩
theorem s_ubegins {ro : Nat → Nat × (Nat → Int32)} {Q : mPo} {d : Nat} {I : Nat → Nat → Int32} {L : Nat → Nat → Int64} {K : Nat → Nat → Int32} {x0 : Int32} {b : Int32} (hI : mIC I) (hK : mRk K) (hq : ∀ r I1, mFr mSQ I I1 → mIC I1 → Q (some (.int r)) (mSH, I1, L)) (ih : ¬ (I 2 1) ≤ x0 → ∀ (K : Nat → Nat → Int32) (b : Int32), mRk K → mWP mTb_ mFT ro (d + 7, 89, 8, [some (.ref 0), some (.int b), some (.int (x0 + 1))], [], 0, 0, (mSH, (mMix mSS I K), L)) Q)  : mWP mTb_ mFT ro (d + 7, 89, 8, [some (.ref 0), some (.int b), some (.int x0)], [], 0, 0, (mSH, (mMix mSS I K), L)) Q := by
  refine mB 4 (s2 := (d + 7, 89, 16, [some (.ref 0), some (.int b), some (.int x0)], [.ref 2, .int x0], 0, 0, (mSH, (mMix mSS I K), L))) rfl ?_
  refine mCall (s2 := (d + 6, 39, 0, [some (.ref 2)], [], 0, 0, (mSH, (mMix mSS I K), L))) rfl ?_
  refine mB 2 (s2 := (d + 6, 39, 4, [some (.ref 2)], [.int (I 2 1)], 0, 0, (mSH, (mMix mSS I K), L))) rfl ?_
  refine mRt (r := (some (.int (I 2 1)))) (h := (mSH, (mMix mSS I K), L)) rfl (mRet_int rfl) ?_
  show mWP mTb_ mFT ro (d + 7, 89, 19, [some (.ref 0), some (.int b), some (.int x0)], [.int (I 2 1), .int x0], 0, 0, (mSH, (mMix mSS I K), L)) _
  refine mBr (s2 := (d + 7, 89, 46, [some (.ref 0), some (.int b), some (.int x0)], [], 0, 0, (mSH, (mMix mSS I K), L))) (s3 := (d + 7, 89, 22, [some (.ref 0), some (.int b), some (.int x0)], [], 0, 0, (mSH, (mMix mSS I K), L))) rfl (fun c0 => ?_) (fun c0 => ?_)
  · refine mB 1 (s2 := (d + 7, 89, 47, [some (.ref 0), some (.int b), some (.int x0)], [.int b], 0, 0, (mSH, (mMix mSS I K), L))) rfl ?_
    refine mRt (r := (some (.int b))) (h := (mSH, (mMix mSS I K), L)) rfl (mRet_int rfl) ?_
    exact hq _ _ (mFr.mix (by decide) mFr.rf) ⟨hI.1, hI.2.1, hI.2.2.1, hI.2.2.2.1, hI.2.2.2.2.1, hI.2.2.2.2.2.1, hK⟩
  · refine mB 3 (s2 := (d + 7, 89, 27, [some (.ref 0), some (.int b), some (.int x0)], [.int x0, .ref 10], 0, 0, (mSH, (mMix mSS I K), L))) rfl ?_
    refine mCall (s2 := (d + 6, 62, 0, [some (.ref 10), some (.int x0)], [], 0, 0, (mSH, (mMix mSS I K), L))) rfl ?_
    refine mB 3 (s2 := (d + 6, 62, 3, [some (.ref 10), some (.int x0)], [.int x0, .int 0, .ref 10], 0, 0, (mSH, (mMix mSS I K), L))) rfl ?_
    refine mCall (s2 := (d + 5, 59, 0, [some (.int 0), some (.int x0), none], [], 0, 0, (mSH, (mMix mSS I K), L))) rfl ?_
    refine w_cellOf (fun x1 hx1 => ?_)
    show mWP mTb_ mFT ro (d + 6, 62, 6, [some (.ref 10), some (.int x0)], [.int x1, .ref 10], 0, 0, (mSH, (mMix mSS I K), L)) _
    refine mCall (s2 := (d + 5, 60, 0, [some (.ref 10), some (.int x1)], [], 0, 0, (mSH, (mMix mSS I K), L))) rfl ?_
    refine mB 3 (s2 := (d + 5, 60, 5, [some (.ref 10), some (.int x1)], [.int 0, .ref 11], 0, 0, (mSH, (mMix mSS I K), L))) rfl ?_
    refine mRq (s2 := (d + 5, 60, 6, [some (.ref 10), some (.int x1)], [.ref 12], 0, 0, (mSH, (mMix mSS I K), L))) rfl (by decide) ?_
    refine mB 1 (s2 := (d + 5, 60, 7, [some (.ref 10), some (.int x1)], [.int x1, .ref 12], 0, 0, (mSH, (mMix mSS I K), L))) rfl ?_
    refine mRq (s2 := (d + 5, 60, 8, [some (.ref 10), some (.int x1)], [.int (K 12 x1.toNatClampNeg)], 0, 0, (mSH, (mMix mSS I K), L))) rfl (mVp_of hx1) ?_
    refine mB 1 (s2 := (d + 5, 60, 10, [some (.ref 10), some (.int x1)], [.int 1000000000, .int (K 12 x1.toNatClampNeg)], 0, 0, (mSH, (mMix mSS I K), L))) rfl ?_
    refine mBr (s2 := (d + 5, 60, 13, [some (.ref 10), some (.int x1)], [], 0, 0, (mSH, (mMix mSS I K), L))) (s3 := (d + 5, 60, 17, [some (.ref 10), some (.int x1)], [], 0, 0, (mSH, (mMix mSS I K), L))) rfl (fun c3 => ?_) (fun c3 => ?_)
    · refine mB 2 (s2 := (d + 5, 60, 25, [some (.ref 10), some (.int x1)], [.int (-1)], 0, 0, (mSH, (mMix mSS I K), L))) rfl ?_
      refine mRt (r := (some (.int (-1)))) (h := (mSH, (mMix mSS I K), L)) rfl (mRet_int rfl) ?_
      show mWP mTb_ mFT ro (d + 6, 62, 9, [some (.ref 10), some (.int x0)], [.int (-1)], 0, 0, (mSH, (mMix mSS I K), L)) _
      refine mRt (r := (some (.int (-1)))) (h := (mSH, (mMix mSS I K), L)) rfl (mRet_int rfl) ?_
      show mWP mTb_ mFT ro (d + 7, 89, 30, [some (.ref 0), some (.int b), some (.int x0)], [.int (-1)], 0, 0, (mSH, (mMix mSS I K), L)) _
      refine mB 1 (s2 := (d + 7, 89, 31, [some (.ref 0), some (.int b), some (.int x0)], [.int (-1), .int (-1)], 0, 0, (mSH, (mMix mSS I K), L))) rfl ?_
      refine mBT (s2 := (d + 7, 89, 40, [some (.ref 0), some (.int b), some (.int x0)], [], 0, 0, (mSH, (mMix mSS I K), L))) rfl (by decide) ?_
      refine mB 2 (s2 := (d + 7, 89, 8, [some (.ref 0), some (.int b), some (.int (x0 + 1))], [], 0, 0, (mSH, (mMix mSS I K), L))) rfl ?_
      (rw [← ((mFr.mix (by decide) mFr.rf) : mFr mSS I (mMix mSS I K)).eq]; exact ih (of_decide_eq_false c0) _ _ hK)
    · refine mB 3 (s2 := (d + 5, 60, 22, [some (.ref 10), some (.int x1)], [.int 0, .ref 11], 0, 0, (mSH, (mMix mSS I K), L))) rfl ?_
      refine mRq (s2 := (d + 5, 60, 23, [some (.ref 10), some (.int x1)], [.ref 12], 0, 0, (mSH, (mMix mSS I K), L))) rfl (by decide) ?_
      refine mB 1 (s2 := (d + 5, 60, 24, [some (.ref 10), some (.int x1)], [.int x1, .ref 12], 0, 0, (mSH, (mMix mSS I K), L))) rfl ?_
      refine mRq (s2 := (d + 5, 60, 25, [some (.ref 10), some (.int x1)], [.int (K 12 x1.toNatClampNeg)], 0, 0, (mSH, (mMix mSS I K), L))) rfl (mVp_of hx1) ?_
      refine mRt (r := (some (.int (K 12 x1.toNatClampNeg)))) (h := (mSH, (mMix mSS I K), L)) rfl (mRet_int rfl) ?_
      show mWP mTb_ mFT ro (d + 6, 62, 9, [some (.ref 10), some (.int x0)], [.int (K 12 x1.toNatClampNeg)], 0, 0, (mSH, (mMix mSS I K), L)) _
      refine mRt (r := (some (.int (K 12 x1.toNatClampNeg)))) (h := (mSH, (mMix mSS I K), L)) rfl (mRet_int rfl) ?_
      show mWP mTb_ mFT ro (d + 7, 89, 30, [some (.ref 0), some (.int b), some (.int x0)], [.int (K 12 x1.toNatClampNeg)], 0, 0, (mSH, (mMix mSS I K), L)) _
      refine mB 1 (s2 := (d + 7, 89, 31, [some (.ref 0), some (.int b), some (.int x0)], [.int (-1), .int (K 12 x1.toNatClampNeg)], 0, 0, (mSH, (mMix mSS I K), L))) rfl ?_
      refine mBr (s2 := (d + 7, 89, 40, [some (.ref 0), some (.int b), some (.int x0)], [], 0, 0, (mSH, (mMix mSS I K), L))) (s3 := (d + 7, 89, 34, [some (.ref 0), some (.int b), some (.int x0)], [], 0, 0, (mSH, (mMix mSS I K), L))) rfl (fun c4 => ?_) (fun c4 => ?_)
      · refine mB 2 (s2 := (d + 7, 89, 8, [some (.ref 0), some (.int b), some (.int (x0 + 1))], [], 0, 0, (mSH, (mMix mSS I K), L))) rfl ?_
        (rw [← ((mFr.mix (by decide) mFr.rf) : mFr mSS I (mMix mSS I K)).eq]; exact ih (of_decide_eq_false c0) _ _ hK)
      · refine mB 8 (s2 := (d + 7, 89, 8, [some (.ref 0), some (.int (b ||| (1 <<< (x0 &&& 31)))), some (.int (x0 + 1))], [], 0, 0, (mSH, (mMix mSS I K), L))) rfl ?_
        (rw [← ((mFr.mix (by decide) mFr.rf) : mFr mSS I (mMix mSS I K)).eq]; exact ih (of_decide_eq_false c0) _ _ hK)
theorem l_ubegins {ro : Nat → Nat × (Nat → Int32)} {Q : mPo} {d : Nat} {I : Nat → Nat → Int32} {L : Nat → Nat → Int64} (hI : mIC I) (hq : ∀ r I1, mFr mSQ I I1 → mIC I1 → Q (some (.int r)) (mSH, I1, L)) (m : Nat) : ∀ (x0 : Int32) (K : Nat → Nat → Int32) (b : Int32), (I 2 1).toInt ≤ x0.toInt + m → mRk K → mWP mTb_ mFT ro (d + 7, 89, 8, [some (.ref 0), some (.int b), some (.int x0)], [], 0, 0, (mSH, (mMix mSS I K), L)) Q := by
  induction m with
  | zero =>
    intro x0 K b hm hK
    exact s_ubegins hI hK hq (fun c => absurd (Int32.le_iff_toInt_le.mpr (by omega)) c)
  | succ m ih =>
    intro x0 K b hm hK
    refine s_ubegins hI hK hq (fun c K b hK => ih _ K b ?_ hK)
    rw [mSucc c]
    omega
theorem u_begins {ro : Nat → Nat × (Nat → Int32)} {Q : mPo} {d : Nat} {I : Nat → Nat → Int32} {L : Nat → Nat → Int64} (hI : mIC I) (hq : ∀ r I1, mFr mSQ I I1 → mIC I1 → Q (some (.int r)) (mSH, I1, L))   : mWP mTb_ mFT ro (d + 7, 89, 0, [some (.ref 0), none, none], [], 0, 0, (mSH, I, L)) Q := by
  refine mB 1 (s2 := (d + 7, 89, 1, [some (.ref 0), none, none], [.ref 0], 0, 0, (mSH, I, L))) rfl ?_
  refine mCall (s2 := (d + 6, 105, 0, [some (.ref 0)], [], 0, 0, (mSH, I, L))) rfl ?_
  refine mB 7 (s2 := (d + 6, 105, 13, [some (.ref 0)], [.int 0, .ref 8, .ref 6, .ref 10], 0, 0, (mSH, I, L))) rfl ?_
  refine mCall (s2 := (d + 5, 10, 0, [some (.ref 8), some (.int 0)], [], 0, 0, (mSH, I, L))) rfl ?_
  refine mB 2 (s2 := (d + 5, 10, 2, [some (.ref 8), some (.int 0)], [.int 0, .ref 8], 0, 0, (mSH, I, L))) rfl ?_
  refine mCall (s2 := (d + 4, 8, 0, [some (.ref 8), some (.int 0)], [], 0, 0, (mSH, I, L))) rfl ?_
  refine mB 1 (s2 := (d + 4, 8, 1, [some (.ref 8), some (.int 0)], [.int 0], 0, 0, (mSH, I, L))) rfl ?_
  refine mBF (s3 := (d + 4, 8, 4, [some (.ref 8), some (.int 0)], [], 0, 0, (mSH, I, L))) rfl (by decide) ?_
  refine mB 4 (s2 := (d + 4, 8, 10, [some (.ref 8), some (.int 0)], [.int 3, .int 0], 0, 0, (mSH, I, L))) rfl ?_
  refine mBF (s3 := (d + 4, 8, 13, [some (.ref 8), some (.int 0)], [], 0, 0, (mSH, I, L))) rfl (by decide) ?_
  refine mB 2 (s2 := (d + 4, 8, 18, [some (.ref 8), some (.int 0)], [.int 1], 0, 0, (mSH, I, L))) rfl ?_
  refine mRt (r := (some (.int 1))) (h := (mSH, I, L)) rfl rfl ?_
  show mWP mTb_ mFT ro (d + 5, 10, 5, [some (.ref 8), some (.int 0)], [.int 1], 0, 0, (mSH, I, L)) _
  refine mBF (s3 := (d + 5, 10, 8, [some (.ref 8), some (.int 0)], [], 0, 0, (mSH, I, L))) rfl (by decide) ?_
  refine mB 3 (s2 := (d + 5, 10, 13, [some (.ref 8), some (.int 0)], [.int 0, .ref 9], 0, 0, (mSH, I, L))) rfl ?_
  refine mRq (s2 := (d + 5, 10, 14, [some (.ref 8), some (.int 0)], [.int (I 9 0)], 0, 0, (mSH, I, L))) rfl (by decide) ?_
  refine mB 1 (s2 := (d + 5, 10, 18, [some (.ref 8), some (.int 0)], [.int (I 9 0)], 0, 0, (mSH, I, L))) rfl ?_
  refine mRt (r := (some (.int (I 9 0)))) (h := (mSH, I, L)) rfl (mRet_int rfl) ?_
  show mWP mTb_ mFT ro (d + 6, 105, 16, [some (.ref 0)], [.int (I 9 0), .ref 6, .ref 10], 0, 0, (mSH, I, L)) _
  refine mCall (s2 := (d + 5, 52, 0, [some (.ref 10), some (.ref 6), some (.int (I 9 0)), none, none, none], [], 0, 0, (mSH, I, L))) rfl ?_
  refine w_fill_L6 hI.1 hI.2.1 hI.2.2.2.2.2.2 (fun K1 hK1 => ?_)
  show mWP mTb_ mFT ro (d + 6, 105, 19, [some (.ref 0)], [], 0, 0, (mSH, (mMix mSS I K1), L)) _
  refine mRt (r := none) (h := (mSH, (mMix mSS I K1), L)) rfl rfl ?_
  show mWP mTb_ mFT ro (d + 7, 89, 4, [some (.ref 0), none, none], [], 0, 0, (mSH, (mMix mSS I K1), L)) _
  refine mB 4 (s2 := (d + 7, 89, 8, [some (.ref 0), some (.int 0), some (.int 0)], [], 0, 0, (mSH, (mMix mSS I K1), L))) rfl ?_
  (rw [← ((mFr.mix (by decide) mFr.rf) : mFr mSS I (mMix mSS I K1)).eq]; exact l_ubegins hI hq 4294967296 _ _ _ (by have := (I 2 1).toInt_lt; have := (0 : Int32).le_toInt; omega) hK1)
theorem s_umild {ro : Nat → Nat × (Nat → Int32)} {Q : mPo} {d : Nat} {I : Nat → Nat → Int32} {L : Nat → Nat → Int64} {K : Nat → Nat → Int32} {x0 : Int32} {a : Int32} {b : Int32} {o5 : Option Value} {v0 : Int32} (hI : mIC I) (hK : mRk K) (hq : ∀ r I1, mFr mSQ I I1 → mIC I1 → Q (some (.int r)) (mSH, I1, L)) (ih : ¬ ((4 : Int32)) ≤ x0 → ∀ (K : Nat → Nat → Int32) (a : Int32) (b : Int32) (o5 : Option Value), mRk K → mWP mTb_ mFT ro (d + 7, 91, 21, [some (.ref 0), some (.int v0), some (.int a), some (.int b), some (.int (x0 + 1)), o5], [], 0, 0, (mSH, (mMix mSS I K), L)) Q)  : mWP mTb_ mFT ro (d + 7, 91, 21, [some (.ref 0), some (.int v0), some (.int a), some (.int b), some (.int x0), o5], [], 0, 0, (mSH, (mMix mSS I K), L)) Q := by
  refine mB 2 (s2 := (d + 7, 91, 24, [some (.ref 0), some (.int v0), some (.int a), some (.int b), some (.int x0), o5], [.int 4, .int x0], 0, 0, (mSH, (mMix mSS I K), L))) rfl ?_
  refine mBr (s2 := (d + 7, 91, 78, [some (.ref 0), some (.int v0), some (.int a), some (.int b), some (.int x0), o5], [], 0, 0, (mSH, (mMix mSS I K), L))) (s3 := (d + 7, 91, 27, [some (.ref 0), some (.int v0), some (.int a), some (.int b), some (.int x0), o5], [], 0, 0, (mSH, (mMix mSS I K), L))) rfl (fun c0 => ?_) (fun c0 => ?_)
  · refine mB 2 (s2 := (d + 7, 91, 80, [some (.ref 0), some (.int v0), some (.int a), some (.int b), some (.int x0), o5], [.int (-1), .int b], 0, 0, (mSH, (mMix mSS I K), L))) rfl ?_
    refine mBr (s2 := (d + 7, 91, 83, [some (.ref 0), some (.int v0), some (.int a), some (.int b), some (.int x0), o5], [], 0, 0, (mSH, (mMix mSS I K), L))) (s3 := (d + 7, 91, 90, [some (.ref 0), some (.int v0), some (.int a), some (.int b), some (.int x0), o5], [], 0, 0, (mSH, (mMix mSS I K), L))) rfl (fun c1 => ?_) (fun c1 => ?_)
    · refine mB 2 (s2 := (d + 7, 91, 86, [some (.ref 0), some (.int v0), some (.int a), some (.int b), some (.int x0), o5], [.int (-3), .ref 0], 0, 0, (mSH, (mMix mSS I K), L))) rfl ?_
      refine mCall (s2 := (d + 6, 103, 0, [some (.ref 0), some (.int (-3))], [], 0, 0, (mSH, (mMix mSS I K), L))) rfl ?_
      refine mB 2 (s2 := (d + 6, 103, 3, [some (.ref 0), some (.int (-3))], [.int (-2), .int (-3)], 0, 0, (mSH, (mMix mSS I K), L))) rfl ?_
      refine mBF (s3 := (d + 6, 103, 19, [some (.ref 0), some (.int (-3))], [], 0, 0, (mSH, (mMix mSS I K), L))) rfl (by decide) ?_
      refine mB 2 (s2 := (d + 6, 103, 22, [some (.ref 0), some (.int (-3))], [.int (-3), .int (-3)], 0, 0, (mSH, (mMix mSS I K), L))) rfl ?_
      refine mBT (s2 := (d + 6, 103, 25, [some (.ref 0), some (.int (-3))], [], 0, 0, (mSH, (mMix mSS I K), L))) rfl (by decide) ?_
      refine mB 8 (s2 := (d + 6, 103, 49, [some (.ref 0), some (.int (-3))], [.int (-3)], 0, 0, (mSH, (mUp (mMix mSS I K) 0 10 ((I 0 10) + 1)), L))) rfl ?_
      refine mRt (r := (some (.int (-3)))) (h := (mSH, (mUp (mMix mSS I K) 0 10 ((I 0 10) + 1)), L)) rfl (mRet_int rfl) ?_
      show mWP mTb_ mFT ro (d + 7, 91, 89, [some (.ref 0), some (.int v0), some (.int a), some (.int b), some (.int x0), o5], [.int (-3)], 0, 0, (mSH, (mUp (mMix mSS I K) 0 10 ((I 0 10) + 1)), L)) _
      refine mRt (r := (some (.int (-3)))) (h := (mSH, (mUp (mMix mSS I K) 0 10 ((I 0 10) + 1)), L)) rfl (mRet_int rfl) ?_
      exact hq _ _ (mFr.up (by rfl) (mFr.mix (by decide) mFr.rf)) ⟨hI.1, hI.2.1, hI.2.2.1, hI.2.2.2.1, hI.2.2.2.2.1, hI.2.2.2.2.2.1, (mRk.up hK (by rfl) (by rfl))⟩
    · refine mB 1 (s2 := (d + 7, 91, 91, [some (.ref 0), some (.int v0), some (.int a), some (.int b), some (.int x0), o5], [.int v0], 0, 0, (mSH, (mMix mSS I K), L))) rfl ?_
      refine mBr (s2 := (d + 7, 91, 94, [some (.ref 0), some (.int v0), some (.int a), some (.int b), some (.int x0), o5], [], 0, 0, (mSH, (mMix mSS I K), L))) (s3 := (d + 7, 91, 98, [some (.ref 0), some (.int v0), some (.int a), some (.int b), some (.int x0), o5], [], 0, 0, (mSH, (mMix mSS I K), L))) rfl (fun c2 => ?_) (fun c2 => ?_)
      · refine mB 2 (s2 := (d + 7, 91, 99, [some (.ref 0), some (.int v0), some (.int a), some (.int b), some (.int x0), o5], [.int a], 0, 0, (mSH, (mMix mSS I K), L))) rfl ?_
        refine mRt (r := (some (.int a))) (h := (mSH, (mMix mSS I K), L)) rfl (mRet_int rfl) ?_
        exact hq _ _ (mFr.mix (by decide) mFr.rf) ⟨hI.1, hI.2.1, hI.2.2.1, hI.2.2.2.1, hI.2.2.2.2.1, hI.2.2.2.2.2.1, hK⟩
      · refine mB 1 (s2 := (d + 7, 91, 99, [some (.ref 0), some (.int v0), some (.int a), some (.int b), some (.int x0), o5], [.int b], 0, 0, (mSH, (mMix mSS I K), L))) rfl ?_
        refine mRt (r := (some (.int b))) (h := (mSH, (mMix mSS I K), L)) rfl (mRet_int rfl) ?_
        exact hq _ _ (mFr.mix (by decide) mFr.rf) ⟨hI.1, hI.2.1, hI.2.2.1, hI.2.2.2.1, hI.2.2.2.2.1, hI.2.2.2.2.2.1, hK⟩
  · refine mB 5 (s2 := (d + 7, 91, 37, [some (.ref 0), some (.int v0), some (.int a), some (.int b), some (.int x0), o5], [.int x0, .ref 6, .ref 10], 0, 0, (mSH, (mMix mSS I K), L))) rfl ?_
    refine mCall (s2 := (d + 6, 52, 0, [some (.ref 10), some (.ref 6), some (.int x0), none, none, none], [], 0, 0, (mSH, (mMix mSS I K), L))) rfl ?_
    refine w_fill_L6 hI.1 hI.2.1 hK (fun K1 hK1 => ?_)
    show mWP mTb_ mFT ro (d + 7, 91, 40, [some (.ref 0), some (.int v0), some (.int a), some (.int b), some (.int x0), o5], [], 0, 0, (mSH, (mMix mSS (mMix mSS I K) K1), L)) _
    refine mB 2 (s2 := (d + 7, 91, 44, [some (.ref 0), some (.int v0), some (.int a), some (.int b), some (.int x0), o5], [.ref 10], 0, 0, (mSH, (mMix mSS (mMix mSS I K) K1), L))) rfl ?_
    refine mCall (s2 := (d + 6, 61, 0, [some (.ref 10)], [], 0, 0, (mSH, (mMix mSS (mMix mSS I K) K1), L))) rfl ?_
    refine mB 2 (s2 := (d + 6, 61, 4, [some (.ref 10)], [.int 153, .ref 10], 0, 0, (mSH, (mMix mSS (mMix mSS I K) K1), L))) rfl ?_
    refine mCall (s2 := (d + 5, 60, 0, [some (.ref 10), some (.int 153)], [], 0, 0, (mSH, (mMix mSS (mMix mSS I K) K1), L))) rfl ?_
    refine mB 3 (s2 := (d + 5, 60, 5, [some (.ref 10), some (.int 153)], [.int 0, .ref 11], 0, 0, (mSH, (mMix mSS (mMix mSS I K) K1), L))) rfl ?_
    refine mRq (s2 := (d + 5, 60, 6, [some (.ref 10), some (.int 153)], [.ref 12], 0, 0, (mSH, (mMix mSS (mMix mSS I K) K1), L))) rfl (by decide) ?_
    refine mB 1 (s2 := (d + 5, 60, 7, [some (.ref 10), some (.int 153)], [.int 153, .ref 12], 0, 0, (mSH, (mMix mSS (mMix mSS I K) K1), L))) rfl ?_
    refine mRq (s2 := (d + 5, 60, 8, [some (.ref 10), some (.int 153)], [.int (K1 12 153)], 0, 0, (mSH, (mMix mSS (mMix mSS I K) K1), L))) rfl (by decide) ?_
    refine mB 1 (s2 := (d + 5, 60, 10, [some (.ref 10), some (.int 153)], [.int 1000000000, .int (K1 12 153)], 0, 0, (mSH, (mMix mSS (mMix mSS I K) K1), L))) rfl ?_
    refine mBr (s2 := (d + 5, 60, 13, [some (.ref 10), some (.int 153)], [], 0, 0, (mSH, (mMix mSS (mMix mSS I K) K1), L))) (s3 := (d + 5, 60, 17, [some (.ref 10), some (.int 153)], [], 0, 0, (mSH, (mMix mSS (mMix mSS I K) K1), L))) rfl (fun c3 => ?_) (fun c3 => ?_)
    · refine mB 2 (s2 := (d + 5, 60, 25, [some (.ref 10), some (.int 153)], [.int (-1)], 0, 0, (mSH, (mMix mSS (mMix mSS I K) K1), L))) rfl ?_
      refine mRt (r := (some (.int (-1)))) (h := (mSH, (mMix mSS (mMix mSS I K) K1), L)) rfl (mRet_int rfl) ?_
      show mWP mTb_ mFT ro (d + 6, 61, 7, [some (.ref 10)], [.int (-1)], 0, 0, (mSH, (mMix mSS (mMix mSS I K) K1), L)) _
      refine mRt (r := (some (.int (-1)))) (h := (mSH, (mMix mSS (mMix mSS I K) K1), L)) rfl (mRet_int rfl) ?_
      show mWP mTb_ mFT ro (d + 7, 91, 47, [some (.ref 0), some (.int v0), some (.int a), some (.int b), some (.int x0), o5], [.int (-1)], 0, 0, (mSH, (mMix mSS (mMix mSS I K) K1), L)) _
      refine mB 3 (s2 := (d + 7, 91, 52, [some (.ref 0), some (.int v0), some (.int a), some (.int b), some (.int x0), some (.int (-1))], [.int (-1), .int (-1)], 0, 0, (mSH, (mMix mSS (mMix mSS I K) K1), L))) rfl ?_
      refine mBT (s2 := (d + 7, 91, 72, [some (.ref 0), some (.int v0), some (.int a), some (.int b), some (.int x0), some (.int (-1))], [], 0, 0, (mSH, (mMix mSS (mMix mSS I K) K1), L))) rfl (by decide) ?_
      refine mB 2 (s2 := (d + 7, 91, 21, [some (.ref 0), some (.int v0), some (.int a), some (.int b), some (.int (x0 + 1)), some (.int (-1))], [], 0, 0, (mSH, (mMix mSS (mMix mSS I K) K1), L))) rfl ?_
      (rw [← ((mFr.mix (by decide) (mFr.mix (by decide) mFr.rf)) : mFr mSS I (mMix mSS (mMix mSS I K) K1)).eq]; exact ih (of_decide_eq_false c0) _ _ _ _ hK1)
    · refine mB 3 (s2 := (d + 5, 60, 22, [some (.ref 10), some (.int 153)], [.int 0, .ref 11], 0, 0, (mSH, (mMix mSS (mMix mSS I K) K1), L))) rfl ?_
      refine mRq (s2 := (d + 5, 60, 23, [some (.ref 10), some (.int 153)], [.ref 12], 0, 0, (mSH, (mMix mSS (mMix mSS I K) K1), L))) rfl (by decide) ?_
      refine mB 1 (s2 := (d + 5, 60, 24, [some (.ref 10), some (.int 153)], [.int 153, .ref 12], 0, 0, (mSH, (mMix mSS (mMix mSS I K) K1), L))) rfl ?_
      refine mRq (s2 := (d + 5, 60, 25, [some (.ref 10), some (.int 153)], [.int (K1 12 153)], 0, 0, (mSH, (mMix mSS (mMix mSS I K) K1), L))) rfl (by decide) ?_
      refine mRt (r := (some (.int (K1 12 153)))) (h := (mSH, (mMix mSS (mMix mSS I K) K1), L)) rfl (mRet_int rfl) ?_
      show mWP mTb_ mFT ro (d + 6, 61, 7, [some (.ref 10)], [.int (K1 12 153)], 0, 0, (mSH, (mMix mSS (mMix mSS I K) K1), L)) _
      refine mRt (r := (some (.int (K1 12 153)))) (h := (mSH, (mMix mSS (mMix mSS I K) K1), L)) rfl (mRet_int rfl) ?_
      show mWP mTb_ mFT ro (d + 7, 91, 47, [some (.ref 0), some (.int v0), some (.int a), some (.int b), some (.int x0), o5], [.int (K1 12 153)], 0, 0, (mSH, (mMix mSS (mMix mSS I K) K1), L)) _
      refine mB 3 (s2 := (d + 7, 91, 52, [some (.ref 0), some (.int v0), some (.int a), some (.int b), some (.int x0), some (.int (K1 12 153))], [.int (-1), .int (K1 12 153)], 0, 0, (mSH, (mMix mSS (mMix mSS I K) K1), L))) rfl ?_
      refine mBr (s2 := (d + 7, 91, 72, [some (.ref 0), some (.int v0), some (.int a), some (.int b), some (.int x0), some (.int (K1 12 153))], [], 0, 0, (mSH, (mMix mSS (mMix mSS I K) K1), L))) (s3 := (d + 7, 91, 55, [some (.ref 0), some (.int v0), some (.int a), some (.int b), some (.int x0), some (.int (K1 12 153))], [], 0, 0, (mSH, (mMix mSS (mMix mSS I K) K1), L))) rfl (fun c4 => ?_) (fun c4 => ?_)
      · refine mB 2 (s2 := (d + 7, 91, 21, [some (.ref 0), some (.int v0), some (.int a), some (.int b), some (.int (x0 + 1)), some (.int (K1 12 153))], [], 0, 0, (mSH, (mMix mSS (mMix mSS I K) K1), L))) rfl ?_
        (rw [← ((mFr.mix (by decide) (mFr.mix (by decide) mFr.rf)) : mFr mSS I (mMix mSS (mMix mSS I K) K1)).eq]; exact ih (of_decide_eq_false c0) _ _ _ _ hK1)
      · refine mB 2 (s2 := (d + 7, 91, 57, [some (.ref 0), some (.int v0), some (.int a), some (.int b), some (.int x0), some (.int (K1 12 153))], [.int (-1), .int b], 0, 0, (mSH, (mMix mSS (mMix mSS I K) K1), L))) rfl ?_
        refine mBr (s2 := (d + 7, 91, 66, [some (.ref 0), some (.int v0), some (.int a), some (.int b), some (.int x0), some (.int (K1 12 153))], [], 0, 0, (mSH, (mMix mSS (mMix mSS I K) K1), L))) (s3 := (d + 7, 91, 60, [some (.ref 0), some (.int v0), some (.int a), some (.int b), some (.int x0), some (.int (K1 12 153))], [], 0, 0, (mSH, (mMix mSS (mMix mSS I K) K1), L))) rfl (fun c5 => ?_) (fun c5 => ?_)
        · refine mB 6 (s2 := (d + 7, 91, 21, [some (.ref 0), some (.int v0), some (.int x0), some (.int (K1 12 153)), some (.int (x0 + 1)), some (.int (K1 12 153))], [], 0, 0, (mSH, (mMix mSS (mMix mSS I K) K1), L))) rfl ?_
          (rw [← ((mFr.mix (by decide) (mFr.mix (by decide) mFr.rf)) : mFr mSS I (mMix mSS (mMix mSS I K) K1)).eq]; exact ih (of_decide_eq_false c0) _ _ _ _ hK1)
        · refine mB 2 (s2 := (d + 7, 91, 63, [some (.ref 0), some (.int v0), some (.int a), some (.int b), some (.int x0), some (.int (K1 12 153))], [.int b, .int (K1 12 153)], 0, 0, (mSH, (mMix mSS (mMix mSS I K) K1), L))) rfl ?_
          refine mBr (s2 := (d + 7, 91, 72, [some (.ref 0), some (.int v0), some (.int a), some (.int b), some (.int x0), some (.int (K1 12 153))], [], 0, 0, (mSH, (mMix mSS (mMix mSS I K) K1), L))) (s3 := (d + 7, 91, 66, [some (.ref 0), some (.int v0), some (.int a), some (.int b), some (.int x0), some (.int (K1 12 153))], [], 0, 0, (mSH, (mMix mSS (mMix mSS I K) K1), L))) rfl (fun c6 => ?_) (fun c6 => ?_)
          · refine mB 2 (s2 := (d + 7, 91, 21, [some (.ref 0), some (.int v0), some (.int a), some (.int b), some (.int (x0 + 1)), some (.int (K1 12 153))], [], 0, 0, (mSH, (mMix mSS (mMix mSS I K) K1), L))) rfl ?_
            (rw [← ((mFr.mix (by decide) (mFr.mix (by decide) mFr.rf)) : mFr mSS I (mMix mSS (mMix mSS I K) K1)).eq]; exact ih (of_decide_eq_false c0) _ _ _ _ hK1)
          · refine mB 6 (s2 := (d + 7, 91, 21, [some (.ref 0), some (.int v0), some (.int x0), some (.int (K1 12 153)), some (.int (x0 + 1)), some (.int (K1 12 153))], [], 0, 0, (mSH, (mMix mSS (mMix mSS I K) K1), L))) rfl ?_
            (rw [← ((mFr.mix (by decide) (mFr.mix (by decide) mFr.rf)) : mFr mSS I (mMix mSS (mMix mSS I K) K1)).eq]; exact ih (of_decide_eq_false c0) _ _ _ _ hK1)
theorem l_umild {ro : Nat → Nat × (Nat → Int32)} {Q : mPo} {d : Nat} {I : Nat → Nat → Int32} {L : Nat → Nat → Int64} {v0 : Int32} (hI : mIC I) (hq : ∀ r I1, mFr mSQ I I1 → mIC I1 → Q (some (.int r)) (mSH, I1, L)) (m : Nat) : ∀ (x0 : Int32) (K : Nat → Nat → Int32) (a : Int32) (b : Int32) (o5 : Option Value), ((4 : Int32)).toInt ≤ x0.toInt + m → mRk K → mWP mTb_ mFT ro (d + 7, 91, 21, [some (.ref 0), some (.int v0), some (.int a), some (.int b), some (.int x0), o5], [], 0, 0, (mSH, (mMix mSS I K), L)) Q := by
  induction m with
  | zero =>
    intro x0 K a b o5 hm hK
    exact s_umild hI hK hq (fun c => absurd (Int32.le_iff_toInt_le.mpr (by omega)) c)
  | succ m ih =>
    intro x0 K a b o5 hm hK
    refine s_umild hI hK hq (fun c K a b o5 hK => ih _ K a b o5 ?_ hK)
    rw [mSucc c]
    omega
theorem u_mildest {ro : Nat → Nat × (Nat → Int32)} {Q : mPo} {d : Nat} {I : Nat → Nat → Int32} {L : Nat → Nat → Int64} {v0 : Int32} (hI : mIC I) (hq : ∀ r I1, mFr mSQ I I1 → mIC I1 → Q (some (.int r)) (mSH, I1, L))   : mWP mTb_ mFT ro (d + 7, 91, 0, [some (.ref 0), some (.int v0), none, none, none, none], [], 0, 0, (mSH, I, L)) Q := by
  refine mB 1 (s2 := (d + 7, 91, 1, [some (.ref 0), some (.int v0), none, none, none, none], [.int v0], 0, 0, (mSH, I, L))) rfl ?_
  refine mCall (s2 := (d + 6, 108, 0, [some (.int v0)], [], 0, 0, (mSH, I, L))) rfl ?_
  refine mB 1 (s2 := (d + 6, 108, 1, [some (.int v0)], [.int v0], 0, 0, (mSH, I, L))) rfl ?_
  refine mBr (s2 := (d + 6, 108, 9, [some (.int v0)], [], 0, 0, (mSH, I, L))) (s3 := (d + 6, 108, 4, [some (.int v0)], [], 0, 0, (mSH, I, L))) rfl (fun c0 => ?_) (fun c0 => ?_)
  · refine mB 2 (s2 := (d + 6, 108, 14, [some (.int v0)], [.int 1], 0, 0, (mSH, I, L))) rfl ?_
    refine mRt (r := (some (.int 1))) (h := (mSH, I, L)) rfl rfl ?_
    show mWP mTb_ mFT ro (d + 7, 91, 4, [some (.ref 0), some (.int v0), none, none, none, none], [.int 1], 0, 0, (mSH, I, L)) _
    refine mBF (s3 := (d + 7, 91, 14, [some (.ref 0), some (.int v0), none, none, none, none], [], 0, 0, (mSH, I, L))) rfl (by decide) ?_
    refine mB 6 (s2 := (d + 7, 91, 21, [some (.ref 0), some (.int v0), some (.int (-1)), some (.int (-1)), some (.int 0), none], [], 0, 0, (mSH, I, L))) rfl ?_
    (rw [← (mFr.rf : mFr mSS I I).eq]; exact l_umild hI hq 4294967296 _ _ _ _ _ (by have := (0 : Int32).le_toInt; have := (4 : Int32).toInt_lt; omega) hI.2.2.2.2.2.2)
  · refine mB 2 (s2 := (d + 6, 108, 6, [some (.int v0)], [.int 1, .int v0], 0, 0, (mSH, I, L))) rfl ?_
    refine mBr (s2 := (d + 6, 108, 9, [some (.int v0)], [], 0, 0, (mSH, I, L))) (s3 := (d + 6, 108, 13, [some (.int v0)], [], 0, 0, (mSH, I, L))) rfl (fun c1 => ?_) (fun c1 => ?_)
    · refine mB 2 (s2 := (d + 6, 108, 14, [some (.int v0)], [.int 1], 0, 0, (mSH, I, L))) rfl ?_
      refine mRt (r := (some (.int 1))) (h := (mSH, I, L)) rfl rfl ?_
      show mWP mTb_ mFT ro (d + 7, 91, 4, [some (.ref 0), some (.int v0), none, none, none, none], [.int 1], 0, 0, (mSH, I, L)) _
      refine mBF (s3 := (d + 7, 91, 14, [some (.ref 0), some (.int v0), none, none, none, none], [], 0, 0, (mSH, I, L))) rfl (by decide) ?_
      refine mB 6 (s2 := (d + 7, 91, 21, [some (.ref 0), some (.int v0), some (.int (-1)), some (.int (-1)), some (.int 0), none], [], 0, 0, (mSH, I, L))) rfl ?_
      (rw [← (mFr.rf : mFr mSS I I).eq]; exact l_umild hI hq 4294967296 _ _ _ _ _ (by have := (0 : Int32).le_toInt; have := (4 : Int32).toInt_lt; omega) hI.2.2.2.2.2.2)
    · refine mB 1 (s2 := (d + 6, 108, 14, [some (.int v0)], [.int 0], 0, 0, (mSH, I, L))) rfl ?_
      refine mRt (r := (some (.int 0))) (h := (mSH, I, L)) rfl rfl ?_
      show mWP mTb_ mFT ro (d + 7, 91, 4, [some (.ref 0), some (.int v0), none, none, none, none], [.int 0], 0, 0, (mSH, I, L)) _
      refine mBT (s2 := (d + 7, 91, 7, [some (.ref 0), some (.int v0), none, none, none, none], [], 0, 0, (mSH, I, L))) rfl (by decide) ?_
      refine mB 2 (s2 := (d + 7, 91, 10, [some (.ref 0), some (.int v0), none, none, none, none], [.int (-2), .ref 0], 0, 0, (mSH, I, L))) rfl ?_
      refine mCall (s2 := (d + 6, 103, 0, [some (.ref 0), some (.int (-2))], [], 0, 0, (mSH, I, L))) rfl ?_
      refine mB 2 (s2 := (d + 6, 103, 3, [some (.ref 0), some (.int (-2))], [.int (-2), .int (-2)], 0, 0, (mSH, I, L))) rfl ?_
      refine mBT (s2 := (d + 6, 103, 6, [some (.ref 0), some (.int (-2))], [], 0, 0, (mSH, I, L))) rfl (by decide) ?_
      refine mB 8 (s2 := (d + 6, 103, 49, [some (.ref 0), some (.int (-2))], [.int (-2)], 0, 0, (mSH, (mUp I 0 9 ((I 0 9) + 1)), L))) rfl ?_
      refine mRt (r := (some (.int (-2)))) (h := (mSH, (mUp I 0 9 ((I 0 9) + 1)), L)) rfl (mRet_int rfl) ?_
      show mWP mTb_ mFT ro (d + 7, 91, 13, [some (.ref 0), some (.int v0), none, none, none, none], [.int (-2)], 0, 0, (mSH, (mUp I 0 9 ((I 0 9) + 1)), L)) _
      refine mRt (r := (some (.int (-2)))) (h := (mSH, (mUp I 0 9 ((I 0 9) + 1)), L)) rfl (mRet_int rfl) ?_
      exact hq _ _ (mFr.up (by rfl) mFr.rf) ⟨hI.1, hI.2.1, hI.2.2.1, hI.2.2.2.1, hI.2.2.2.2.1, hI.2.2.2.2.2.1, (mRk.up hI.2.2.2.2.2.2 (by rfl) (by rfl))⟩
