/-! Matches. Written by a program (wip/mk_c.py). -/
theorem w_yearsOf {ro : Nat → Nat × (Nat → Int32)} {Q : mPo} {d : Nat} {I : Nat → Nat → Int32} {L : Nat → Nat → Int64} {v0 : Int32} (n2 : mCn I 2 16) (n23 : mCn I 23 8) (hq : ∀ r, Q (some (.int r)) (mSH, I, L))  : mWP mTb_ mFT ro (d + 2, 17, 0, [some (.ref 22), some (.int v0)], [], 0, 0, (mSH, I, L)) Q := by
  refine mB 7 (s2 := (d + 2, 17, 13, [some (.ref 22), some (.int v0)], [.int v0, .ref 23, .int (I 22 2), .ref 1], 0, 0, (mSH, I, L))) rfl ?_
  refine mCall (s2 := (d + 1, 47, 0, [some (.ref 23), some (.int v0), none, none], [], 0, 0, (mSH, I, L))) rfl ?_
  refine w_total_23 n23 (fun r1 => ?_)
  show mWP mTb_ mFT ro (d + 2, 17, 16, [some (.ref 22), some (.int v0)], [.int r1, .int (I 22 2), .ref 1], 0, 0, (mSH, I, L)) _
  refine mB 4 (s2 := (d + 2, 17, 22, [some (.ref 22), some (.int v0)], [.int v0, .ref 23, .int ((I 22 2) + r1), .ref 1], 0, 0, (mSH, I, L))) rfl ?_
  refine mCall (s2 := (d + 1, 42, 0, [some (.ref 23), some (.int v0)], [], 0, 0, (mSH, I, L))) rfl ?_
  refine w_at_23 n23 ?_
  show mWP mTb_ mFT ro (d + 2, 17, 25, [some (.ref 22), some (.int v0)], [.int (mAt I 23 24 v0), .int ((I 22 2) + r1), .ref 1], 0, 0, (mSH, I, L)) _
  refine mCall (s2 := (d + 1, 69, 0, [some (.ref 1), some (.int ((I 22 2) + r1)), some (.int (mAt I 23 24 v0)), none, none], [], 0, 0, (mSH, I, L))) rfl ?_
  refine w_years n2 (fun r2 => ?_)
  show mWP mTb_ mFT ro (d + 2, 17, 28, [some (.ref 22), some (.int v0)], [.int r2], 0, 0, (mSH, I, L)) _
  refine mRt (r := (some (.int r2))) (h := (mSH, I, L)) rfl (mRet_int rfl) ?_
  exact hq _
theorem w_ageAbove {ro : Nat → Nat × (Nat → Int32)} {Q : mPo} {d : Nat} {I : Nat → Nat → Int32} {L : Nat → Nat → Int64} {v0 : Int32} (n2 : mCn I 2 16) (n23 : mCn I 23 8) (hq : ∀ r, Q (some (.int r)) (mSH, I, L))  : mWP mTb_ mFT ro (d + 1, 20, 0, [some (.ref 22), some (.int v0)], [], 0, 0, (mSH, I, L)) Q := by
  refine mB 8 (s2 := (d + 1, 20, 16, [some (.ref 22), some (.int v0)], [.int v0, .ref 23, .int (I 22 2), .ref 2], 0, 0, (mSH, I, L))) rfl ?_
  refine mCall (s2 := (d, 47, 0, [some (.ref 23), some (.int v0), none, none], [], 0, 0, (mSH, I, L))) rfl ?_
  refine w_total_23 n23 (fun r1 => ?_)
  show mWP mTb_ mFT ro (d + 1, 20, 19, [some (.ref 22), some (.int v0)], [.int r1, .int (I 22 2), .ref 2], 0, 0, (mSH, I, L)) _
  refine mB 1 (s2 := (d + 1, 20, 20, [some (.ref 22), some (.int v0)], [.int ((I 22 2) + r1), .ref 2], 0, 0, (mSH, I, L))) rfl ?_
  refine mCall (s2 := (d, 47, 0, [some (.ref 2), some (.int ((I 22 2) + r1)), none, none], [], 0, 0, (mSH, I, L))) rfl ?_
  refine w_total_2 n2 (fun r2 => ?_)
  show mWP mTb_ mFT ro (d + 1, 20, 23, [some (.ref 22), some (.int v0)], [.int r2], 0, 0, (mSH, I, L)) _
  refine mRt (r := (some (.int r2))) (h := (mSH, I, L)) rfl (mRet_int rfl) ?_
  exact hq _
theorem w_behind {ro : Nat → Nat × (Nat → Int32)} {Q : mPo} {d : Nat} {I : Nat → Nat → Int32} {L : Nat → Nat → Int64} (n23 : mCn I 23 8) (hq : ∀ r, Q (some (.int r)) (mSH, I, L))  : mWP mTb_ mFT ro (d + 2, 16, 0, [some (.ref 22)], [], 0, 0, (mSH, I, L)) Q := by
  refine mB 4 (s2 := (d + 2, 16, 8, [some (.ref 22)], [.ref 23, .int (I 22 2)], 0, 0, (mSH, I, L))) rfl ?_
  refine mCall (s2 := (d + 1, 48, 0, [some (.ref 23)], [], 0, 0, (mSH, I, L))) rfl ?_
  refine mB 3 (s2 := (d + 1, 48, 5, [some (.ref 23)], [.int (I 23 1), .ref 23], 0, 0, (mSH, I, L))) rfl ?_
  refine mCall (s2 := (d, 47, 0, [some (.ref 23), some (.int (I 23 1)), none, none], [], 0, 0, (mSH, I, L))) rfl ?_
  refine w_total_23 n23 (fun r1 => ?_)
  show mWP mTb_ mFT ro (d + 1, 48, 8, [some (.ref 23)], [.int r1], 0, 0, (mSH, I, L)) _
  refine mRt (r := (some (.int r1))) (h := (mSH, I, L)) rfl (mRet_int rfl) ?_
  show mWP mTb_ mFT ro (d + 2, 16, 11, [some (.ref 22)], [.int r1, .int (I 22 2)], 0, 0, (mSH, I, L)) _
  refine mB 1 (s2 := (d + 2, 16, 12, [some (.ref 22)], [.int ((I 22 2) + r1)], 0, 0, (mSH, I, L))) rfl ?_
  refine mRt (r := (some (.int ((I 22 2) + r1)))) (h := (mSH, I, L)) rfl (mRet_int rfl) ?_
  exact hq _
theorem w_missed {ro : Nat → Nat × (Nat → Int32)} {Q : mPo} {d : Nat} {I : Nat → Nat → Int32} {L : Nat → Nat → Int64} (n23 : mCn I 23 8) (hq : ∀ r, Q (some (.int r)) (mSH, I, L))  : mWP mTb_ mFT ro (d + 2, 15, 0, [some (.ref 22)], [], 0, 0, (mSH, I, L)) Q := by
  refine mB 2 (s2 := (d + 2, 15, 4, [some (.ref 22)], [.ref 23], 0, 0, (mSH, I, L))) rfl ?_
  refine mCall (s2 := (d + 1, 48, 0, [some (.ref 23)], [], 0, 0, (mSH, I, L))) rfl ?_
  refine mB 3 (s2 := (d + 1, 48, 5, [some (.ref 23)], [.int (I 23 1), .ref 23], 0, 0, (mSH, I, L))) rfl ?_
  refine mCall (s2 := (d, 47, 0, [some (.ref 23), some (.int (I 23 1)), none, none], [], 0, 0, (mSH, I, L))) rfl ?_
  refine w_total_23 n23 (fun r1 => ?_)
  show mWP mTb_ mFT ro (d + 1, 48, 8, [some (.ref 23)], [.int r1], 0, 0, (mSH, I, L)) _
  refine mRt (r := (some (.int r1))) (h := (mSH, I, L)) rfl (mRet_int rfl) ?_
  show mWP mTb_ mFT ro (d + 2, 15, 7, [some (.ref 22)], [.int r1], 0, 0, (mSH, I, L)) _
  refine mB 2 (s2 := (d + 2, 15, 11, [some (.ref 22)], [.ref 23, .int r1], 0, 0, (mSH, I, L))) rfl ?_
  refine mCall (s2 := (d + 1, 39, 0, [some (.ref 23)], [], 0, 0, (mSH, I, L))) rfl ?_
  refine mB 2 (s2 := (d + 1, 39, 4, [some (.ref 23)], [.int (I 23 1)], 0, 0, (mSH, I, L))) rfl ?_
  refine mRt (r := (some (.int (I 23 1)))) (h := (mSH, I, L)) rfl (mRet_int rfl) ?_
  show mWP mTb_ mFT ro (d + 2, 15, 14, [some (.ref 22)], [.int (I 23 1), .int r1], 0, 0, (mSH, I, L)) _
  refine mB 2 (s2 := (d + 2, 15, 16, [some (.ref 22)], [.int 2, .int (r1 - (I 23 1))], 0, 0, (mSH, I, L))) rfl ?_
  refine mRq (s2 := (d + 2, 15, 17, [some (.ref 22)], [.int ((r1 - (I 23 1)) / 2)], 0, 0, (mSH, I, L))) rfl (by decide) ?_
  refine mRt (r := (some (.int ((r1 - (I 23 1)) / 2)))) (h := (mSH, I, L)) rfl (mRet_int rfl) ?_
  exact hq _
theorem w_topAge {ro : Nat → Nat × (Nat → Int32)} {Q : mPo} {d : Nat} {I : Nat → Nat → Int32} {L : Nat → Nat → Int64} (n2 : mCn I 2 16) (hq : ∀ r, Q (some (.int r)) (mSH, I, L))  : mWP mTb_ mFT ro (d + 2, 18, 0, [some (.ref 22)], [], 0, 0, (mSH, I, L)) Q := by
  refine mB 5 (s2 := (d + 2, 18, 11, [some (.ref 22)], [.int (I 22 2), .ref 2], 0, 0, (mSH, I, L))) rfl ?_
  refine mCall (s2 := (d + 1, 47, 0, [some (.ref 2), some (.int (I 22 2)), none, none], [], 0, 0, (mSH, I, L))) rfl ?_
  refine w_total_2 n2 (fun r1 => ?_)
  show mWP mTb_ mFT ro (d + 2, 18, 14, [some (.ref 22)], [.int r1], 0, 0, (mSH, I, L)) _
  refine mRt (r := (some (.int r1))) (h := (mSH, I, L)) rfl (mRet_int rfl) ?_
  exact hq _
theorem w_bottomAge {ro : Nat → Nat × (Nat → Int32)} {Q : mPo} {d : Nat} {I : Nat → Nat → Int32} {L : Nat → Nat → Int64} (n2 : mCn I 2 16) (n23 : mCn I 23 8) (hq : ∀ r, Q (some (.int r)) (mSH, I, L))  : mWP mTb_ mFT ro (d + 3, 19, 0, [some (.ref 22)], [], 0, 0, (mSH, I, L)) Q := by
  refine mB 4 (s2 := (d + 3, 19, 8, [some (.ref 22)], [.ref 22, .ref 2], 0, 0, (mSH, I, L))) rfl ?_
  refine mCall (s2 := (d + 2, 16, 0, [some (.ref 22)], [], 0, 0, (mSH, I, L))) rfl ?_
  refine w_behind n23 (fun r1 => ?_)
  show mWP mTb_ mFT ro (d + 3, 19, 11, [some (.ref 22)], [.int r1, .ref 2], 0, 0, (mSH, I, L)) _
  refine mCall (s2 := (d + 2, 47, 0, [some (.ref 2), some (.int r1), none, none], [], 0, 0, (mSH, I, L))) rfl ?_
  refine w_total_2 n2 (fun r2 => ?_)
  show mWP mTb_ mFT ro (d + 3, 19, 14, [some (.ref 22)], [.int r2], 0, 0, (mSH, I, L)) _
  refine mRt (r := (some (.int r2))) (h := (mSH, I, L)) rfl (mRet_int rfl) ?_
  exact hq _
theorem s_lad {ro : Nat → Nat × (Nat → Int32)} {Q : mPo} {d : Nat} {I : Nat → Nat → Int32} {L : Nat → Nat → Int64} {v : Int32} {x0 : Int32} (n2 : mCn I 2 16) (n4 : mCn I 4 8) (n23 : mCn I 23 8)  (h1 : (((I 23 1) - 1) ≤ x0) → Q (some (.int x0)) (mSH, I, L)) (h2 : ¬ (((I 23 1) - 1) ≤ x0) → ∀ (r1 : Int32), (v ≤ r1) → Q (some (.int x0)) (mSH, I, L)) (h3 : ¬ (((I 23 1) - 1) ≤ x0) → ∀ (r1 : Int32), ¬ (v ≤ r1) → mWP mTb_ mFT ro (d + 1, 21, 2, [some (.ref 22), some (.int v), some (.int (x0 + 1))], [], 0, 0, (mSH, I, L)) Q) : mWP mTb_ mFT ro (d + 1, 21, 2, [some (.ref 22), some (.int v), some (.int x0)], [], 0, 0, (mSH, I, L)) Q := by
  refine mB 3 (s2 := (d + 1, 21, 7, [some (.ref 22), some (.int v), some (.int x0)], [.ref 23, .int x0], 0, 0, (mSH, I, L))) rfl ?_
  refine mCall (s2 := (d, 39, 0, [some (.ref 23)], [], 0, 0, (mSH, I, L))) rfl ?_
  refine mB 2 (s2 := (d, 39, 4, [some (.ref 23)], [.int (I 23 1)], 0, 0, (mSH, I, L))) rfl ?_
  refine mRt (r := (some (.int (I 23 1)))) (h := (mSH, I, L)) rfl (mRet_int rfl) ?_
  show mWP mTb_ mFT ro (d + 1, 21, 10, [some (.ref 22), some (.int v), some (.int x0)], [.int (I 23 1), .int x0], 0, 0, (mSH, I, L)) _
  refine mB 2 (s2 := (d + 1, 21, 12, [some (.ref 22), some (.int v), some (.int x0)], [.int ((I 23 1) - 1), .int x0], 0, 0, (mSH, I, L))) rfl ?_
  refine mBr (s2 := (d + 1, 21, 38, [some (.ref 22), some (.int v), some (.int x0)], [], 0, 0, (mSH, I, L))) (s3 := (d + 1, 21, 15, [some (.ref 22), some (.int v), some (.int x0)], [], 0, 0, (mSH, I, L))) rfl (fun c0 => ?_) (fun c0 => ?_)
  · refine mB 1 (s2 := (d + 1, 21, 39, [some (.ref 22), some (.int v), some (.int x0)], [.int x0], 0, 0, (mSH, I, L))) rfl ?_
    refine mRt (r := (some (.int x0))) (h := (mSH, I, L)) rfl (mRet_int rfl) ?_
    exact h1 (of_decide_eq_true c0)
  · refine mB 7 (s2 := (d + 1, 21, 26, [some (.ref 22), some (.int v), some (.int x0)], [.int (x0 + 1), .ref 4, .int v], 0, 0, (mSH, I, L))) rfl ?_
    refine mCall (s2 := (d, 47, 0, [some (.ref 4), some (.int (x0 + 1)), none, none], [], 0, 0, (mSH, I, L))) rfl ?_
    refine w_total_4 n4 (fun r1 => ?_)
    show mWP mTb_ mFT ro (d + 1, 21, 29, [some (.ref 22), some (.int v), some (.int x0)], [.int r1, .int v], 0, 0, (mSH, I, L)) _
    refine mBr (s2 := (d + 1, 21, 38, [some (.ref 22), some (.int v), some (.int x0)], [], 0, 0, (mSH, I, L))) (s3 := (d + 1, 21, 32, [some (.ref 22), some (.int v), some (.int x0)], [], 0, 0, (mSH, I, L))) rfl (fun c2 => ?_) (fun c2 => ?_)
    · refine mB 1 (s2 := (d + 1, 21, 39, [some (.ref 22), some (.int v), some (.int x0)], [.int x0], 0, 0, (mSH, I, L))) rfl ?_
      refine mRt (r := (some (.int x0))) (h := (mSH, I, L)) rfl (mRet_int rfl) ?_
      exact h2 (of_decide_eq_false c0) r1 (of_decide_eq_true c2)
    · refine mB 2 (s2 := (d + 1, 21, 2, [some (.ref 22), some (.int v), some (.int (x0 + 1))], [], 0, 0, (mSH, I, L))) rfl ?_
      exact h3 (of_decide_eq_false c0) r1 (of_decide_eq_false c2)
theorem l_lad {ro : Nat → Nat × (Nat → Int32)} {Q : mPo} {d : Nat} {I : Nat → Nat → Int32} {L : Nat → Nat → Int64} {v : Int32} (n2 : mCn I 2 16) (n4 : mCn I 4 8) (n23 : mCn I 23 8) (hq : ∀ r, Q (some (.int r)) (mSH, I, L)) (m : Nat) : ∀ (k : Nat), (I 23 1 - 1).toInt ≤ k + m → k < 2 ^ 31 → mWP mTb_ mFT ro (d + 1, 21, 2, [some (.ref 22), some (.int v), some (.int (nI k))], [], 0, 0, (mSH, I, L)) Q := by
  induction m with
  | zero =>
    intro k  hm hk
    have z : I 23 1 - 1 ≤ nI k := (mLeI hk).mpr (by omega)
    apply s_lad n2 n4 n23 <;> intros <;> first | exact hq _ | exact absurd z (by assumption)
  | succ m ih =>
    intro k  hm hk
    by_cases z : I 23 1 - 1 ≤ nI k
    · apply s_lad n2 n4 n23 <;> intros <;> first | exact hq _ | exact absurd z (by assumption)
    · have hk1 : k + 1 < 2 ^ 31 := mLe1 hk z
      apply s_lad n2 n4 n23 <;> intros <;> first | exact absurd (by assumption) z | exact hq _ | (rw [nI_1]; exact ih (k + 1) (by omega) hk1)
theorem w_lad {ro : Nat → Nat × (Nat → Int32)} {Q : mPo} {d : Nat} {I : Nat → Nat → Int32} {L : Nat → Nat → Int64} {v0 : Int32} (n2 : mCn I 2 16) (n4 : mCn I 4 8) (n23 : mCn I 23 8) (hq : ∀ r, Q (some (.int r)) (mSH, I, L))  : mWP mTb_ mFT ro (d + 1, 21, 0, [some (.ref 22), some (.int v0), none], [], 0, 0, (mSH, I, L)) Q := by
  refine mB 2 (s2 := (d + 1, 21, 2, [some (.ref 22), some (.int v0), some (.int 0)], [], 0, 0, (mSH, I, L))) rfl ?_
  exact l_lad n2 n4 n23 hq 2147483648 0 (by have := (I 23 1 - 1).toInt_lt; omega) (by omega)
theorem s_laa {ro : Nat → Nat × (Nat → Int32)} {Q : mPo} {d : Nat} {I : Nat → Nat → Int32} {L : Nat → Nat → Int64} {v : Int32} {x0 : Int32} (n2 : mCn I 2 16) (n4 : mCn I 4 8) (n23 : mCn I 23 8)  (h1 : (((I 23 1) - 1) ≤ x0) → Q (some (.int x0)) (mSH, I, L)) (h2 : ¬ (((I 23 1) - 1) ≤ x0) → ∀ (r1 : Int32), (v ≤ r1) → Q (some (.int x0)) (mSH, I, L)) (h3 : ¬ (((I 23 1) - 1) ≤ x0) → ∀ (r1 : Int32), ¬ (v ≤ r1) → mWP mTb_ mFT ro (d + 2, 22, 2, [some (.ref 22), some (.int v), some (.int (x0 + 1))], [], 0, 0, (mSH, I, L)) Q) : mWP mTb_ mFT ro (d + 2, 22, 2, [some (.ref 22), some (.int v), some (.int x0)], [], 0, 0, (mSH, I, L)) Q := by
  refine mB 3 (s2 := (d + 2, 22, 7, [some (.ref 22), some (.int v), some (.int x0)], [.ref 23, .int x0], 0, 0, (mSH, I, L))) rfl ?_
  refine mCall (s2 := (d + 1, 39, 0, [some (.ref 23)], [], 0, 0, (mSH, I, L))) rfl ?_
  refine mB 2 (s2 := (d + 1, 39, 4, [some (.ref 23)], [.int (I 23 1)], 0, 0, (mSH, I, L))) rfl ?_
  refine mRt (r := (some (.int (I 23 1)))) (h := (mSH, I, L)) rfl (mRet_int rfl) ?_
  show mWP mTb_ mFT ro (d + 2, 22, 10, [some (.ref 22), some (.int v), some (.int x0)], [.int (I 23 1), .int x0], 0, 0, (mSH, I, L)) _
  refine mB 2 (s2 := (d + 2, 22, 12, [some (.ref 22), some (.int v), some (.int x0)], [.int ((I 23 1) - 1), .int x0], 0, 0, (mSH, I, L))) rfl ?_
  refine mBr (s2 := (d + 2, 22, 32, [some (.ref 22), some (.int v), some (.int x0)], [], 0, 0, (mSH, I, L))) (s3 := (d + 2, 22, 15, [some (.ref 22), some (.int v), some (.int x0)], [], 0, 0, (mSH, I, L))) rfl (fun c0 => ?_) (fun c0 => ?_)
  · refine mB 1 (s2 := (d + 2, 22, 33, [some (.ref 22), some (.int v), some (.int x0)], [.int x0], 0, 0, (mSH, I, L))) rfl ?_
    refine mRt (r := (some (.int x0))) (h := (mSH, I, L)) rfl (mRet_int rfl) ?_
    exact h1 (of_decide_eq_true c0)
  · refine mB 5 (s2 := (d + 2, 22, 20, [some (.ref 22), some (.int v), some (.int x0)], [.int (x0 + 1), .ref 22, .int v], 0, 0, (mSH, I, L))) rfl ?_
    refine mCall (s2 := (d + 1, 20, 0, [some (.ref 22), some (.int (x0 + 1))], [], 0, 0, (mSH, I, L))) rfl ?_
    refine w_ageAbove n2 n23 (fun r1 => ?_)
    show mWP mTb_ mFT ro (d + 2, 22, 23, [some (.ref 22), some (.int v), some (.int x0)], [.int r1, .int v], 0, 0, (mSH, I, L)) _
    refine mBr (s2 := (d + 2, 22, 32, [some (.ref 22), some (.int v), some (.int x0)], [], 0, 0, (mSH, I, L))) (s3 := (d + 2, 22, 26, [some (.ref 22), some (.int v), some (.int x0)], [], 0, 0, (mSH, I, L))) rfl (fun c2 => ?_) (fun c2 => ?_)
    · refine mB 1 (s2 := (d + 2, 22, 33, [some (.ref 22), some (.int v), some (.int x0)], [.int x0], 0, 0, (mSH, I, L))) rfl ?_
      refine mRt (r := (some (.int x0))) (h := (mSH, I, L)) rfl (mRet_int rfl) ?_
      exact h2 (of_decide_eq_false c0) r1 (of_decide_eq_true c2)
    · refine mB 2 (s2 := (d + 2, 22, 2, [some (.ref 22), some (.int v), some (.int (x0 + 1))], [], 0, 0, (mSH, I, L))) rfl ?_
      exact h3 (of_decide_eq_false c0) r1 (of_decide_eq_false c2)
theorem l_laa {ro : Nat → Nat × (Nat → Int32)} {Q : mPo} {d : Nat} {I : Nat → Nat → Int32} {L : Nat → Nat → Int64} {v : Int32} (n2 : mCn I 2 16) (n4 : mCn I 4 8) (n23 : mCn I 23 8) (hq : ∀ r, Q (some (.int r)) (mSH, I, L)) (m : Nat) : ∀ (k : Nat), (I 23 1 - 1).toInt ≤ k + m → k < 2 ^ 31 → mWP mTb_ mFT ro (d + 2, 22, 2, [some (.ref 22), some (.int v), some (.int (nI k))], [], 0, 0, (mSH, I, L)) Q := by
  induction m with
  | zero =>
    intro k  hm hk
    have z : I 23 1 - 1 ≤ nI k := (mLeI hk).mpr (by omega)
    apply s_laa n2 n4 n23 <;> intros <;> first | exact hq _ | exact absurd z (by assumption)
  | succ m ih =>
    intro k  hm hk
    by_cases z : I 23 1 - 1 ≤ nI k
    · apply s_laa n2 n4 n23 <;> intros <;> first | exact hq _ | exact absurd z (by assumption)
    · have hk1 : k + 1 < 2 ^ 31 := mLe1 hk z
      apply s_laa n2 n4 n23 <;> intros <;> first | exact absurd (by assumption) z | exact hq _ | (rw [nI_1]; exact ih (k + 1) (by omega) hk1)
theorem w_laa {ro : Nat → Nat × (Nat → Int32)} {Q : mPo} {d : Nat} {I : Nat → Nat → Int32} {L : Nat → Nat → Int64} {v0 : Int32} (n2 : mCn I 2 16) (n4 : mCn I 4 8) (n23 : mCn I 23 8) (hq : ∀ r, Q (some (.int r)) (mSH, I, L))  : mWP mTb_ mFT ro (d + 2, 22, 0, [some (.ref 22), some (.int v0), none], [], 0, 0, (mSH, I, L)) Q := by
  refine mB 2 (s2 := (d + 2, 22, 2, [some (.ref 22), some (.int v0), some (.int 0)], [], 0, 0, (mSH, I, L))) rfl ?_
  exact l_laa n2 n4 n23 hq 2147483648 0 (by have := (I 23 1 - 1).toInt_lt; omega) (by omega)
theorem w_isFaster {ro : Nat → Nat × (Nat → Int32)} {Q : mPo} {d : Nat} {I : Nat → Nat → Int32} {L : Nat → Nat → Int64} {v0 v1 : Int32} (n2 : mCn I 2 16) (n4 : mCn I 4 8) (n23 : mCn I 23 8) (q0 : Q (some (.int 0)) (mSH, I, L)) (q1 : Q (some (.int 1)) (mSH, I, L))   : mWP mTb_ mFT ro (d + 3, 26, 0, [some (.ref 22), some (.int v0), some (.int v1)], [], 0, 0, (mSH, I, L)) Q := by
  refine mB 4 (s2 := (d + 3, 26, 8, [some (.ref 22), some (.int v0), some (.int v1)], [.int v0, .ref 4], 0, 0, (mSH, I, L))) rfl ?_
  refine mCall (s2 := (d + 2, 42, 0, [some (.ref 4), some (.int v0)], [], 0, 0, (mSH, I, L))) rfl ?_
  refine w_at_4 n4 ?_
  show mWP mTb_ mFT ro (d + 3, 26, 11, [some (.ref 22), some (.int v0), some (.int v1)], [.int (mAt I 4 5 v0)], 0, 0, (mSH, I, L)) _
  refine mB 2 (s2 := (d + 3, 26, 13, [some (.ref 22), some (.int v0), some (.int v1)], [.int v1, .ref 22, .int (mAt I 4 5 v0)], 0, 0, (mSH, I, L))) rfl ?_
  refine mCall (s2 := (d + 2, 17, 0, [some (.ref 22), some (.int v1)], [], 0, 0, (mSH, I, L))) rfl ?_
  refine w_yearsOf n2 n23 (fun r1 => ?_)
  show mWP mTb_ mFT ro (d + 3, 26, 16, [some (.ref 22), some (.int v0), some (.int v1)], [.int r1, .int (mAt I 4 5 v0)], 0, 0, (mSH, I, L)) _
  refine mB 5 (s2 := (d + 3, 26, 25, [some (.ref 22), some (.int v0), some (.int v1)], [.int v1, .ref 4, .int ((mAt I 4 5 v0) * r1)], 0, 0, (mSH, I, L))) rfl ?_
  refine mCall (s2 := (d + 2, 42, 0, [some (.ref 4), some (.int v1)], [], 0, 0, (mSH, I, L))) rfl ?_
  refine w_at_4 n4 ?_
  show mWP mTb_ mFT ro (d + 3, 26, 28, [some (.ref 22), some (.int v0), some (.int v1)], [.int (mAt I 4 5 v1), .int ((mAt I 4 5 v0) * r1)], 0, 0, (mSH, I, L)) _
  refine mB 2 (s2 := (d + 3, 26, 30, [some (.ref 22), some (.int v0), some (.int v1)], [.int v0, .ref 22, .int (mAt I 4 5 v1), .int ((mAt I 4 5 v0) * r1)], 0, 0, (mSH, I, L))) rfl ?_
  refine mCall (s2 := (d + 2, 17, 0, [some (.ref 22), some (.int v0)], [], 0, 0, (mSH, I, L))) rfl ?_
  refine w_yearsOf n2 n23 (fun r2 => ?_)
  show mWP mTb_ mFT ro (d + 3, 26, 33, [some (.ref 22), some (.int v0), some (.int v1)], [.int r2, .int (mAt I 4 5 v1), .int ((mAt I 4 5 v0) * r1)], 0, 0, (mSH, I, L)) _
  refine mB 1 (s2 := (d + 3, 26, 34, [some (.ref 22), some (.int v0), some (.int v1)], [.int ((mAt I 4 5 v1) * r2), .int ((mAt I 4 5 v0) * r1)], 0, 0, (mSH, I, L))) rfl ?_
  refine mBr (s2 := (d + 3, 26, 41, [some (.ref 22), some (.int v0), some (.int v1)], [], 0, 0, (mSH, I, L))) (s3 := (d + 3, 26, 37, [some (.ref 22), some (.int v0), some (.int v1)], [], 0, 0, (mSH, I, L))) rfl (fun c2 => ?_) (fun c2 => ?_)
  · refine mB 1 (s2 := (d + 3, 26, 42, [some (.ref 22), some (.int v0), some (.int v1)], [.int 0], 0, 0, (mSH, I, L))) rfl ?_
    refine mRt (r := (some (.int 0))) (h := (mSH, I, L)) rfl rfl ?_
    exact q0
  · refine mB 2 (s2 := (d + 3, 26, 42, [some (.ref 22), some (.int v0), some (.int v1)], [.int 1], 0, 0, (mSH, I, L))) rfl ?_
    refine mRt (r := (some (.int 1))) (h := (mSH, I, L)) rfl rfl ?_
    exact q1
theorem s_ext {ro : Nat → Nat × (Nat → Int32)} {Q : mPo} {d : Nat} {I : Nat → Nat → Int32} {L : Nat → Nat → Int64} {v : Int32} {e : Int32} {x0 : Int32} (n2 : mCn I 2 16) (n4 : mCn I 4 8) (n23 : mCn I 23 8)  (h1 : ((I 23 1) ≤ x0) → Q (some (.int e)) (mSH, I, L)) (h2 : ¬ ((I 23 1) ≤ x0) → (v = 0) → mWP mTb_ mFT ro (d + 4, 25, 4, [some (.ref 22), some (.int v), some (.int e), some (.int (x0 + 1))], [], 0, 0, (mSH, I, L)) Q) (h3 : ¬ ((I 23 1) ≤ x0) → (v = 0) → mWP mTb_ mFT ro (d + 4, 25, 4, [some (.ref 22), some (.int v), some (.int x0), some (.int (x0 + 1))], [], 0, 0, (mSH, I, L)) Q) (h4 : ¬ ((I 23 1) ≤ x0) → ¬ (v = 0) → mWP mTb_ mFT ro (d + 4, 25, 4, [some (.ref 22), some (.int v), some (.int e), some (.int (x0 + 1))], [], 0, 0, (mSH, I, L)) Q) (h5 : ¬ ((I 23 1) ≤ x0) → ¬ (v = 0) → mWP mTb_ mFT ro (d + 4, 25, 4, [some (.ref 22), some (.int v), some (.int x0), some (.int (x0 + 1))], [], 0, 0, (mSH, I, L)) Q) : mWP mTb_ mFT ro (d + 4, 25, 4, [some (.ref 22), some (.int v), some (.int e), some (.int x0)], [], 0, 0, (mSH, I, L)) Q := by
  refine mB 3 (s2 := (d + 4, 25, 9, [some (.ref 22), some (.int v), some (.int e), some (.int x0)], [.ref 23, .int x0], 0, 0, (mSH, I, L))) rfl ?_
  refine mCall (s2 := (d + 3, 39, 0, [some (.ref 23)], [], 0, 0, (mSH, I, L))) rfl ?_
  refine mB 2 (s2 := (d + 3, 39, 4, [some (.ref 23)], [.int (I 23 1)], 0, 0, (mSH, I, L))) rfl ?_
  refine mRt (r := (some (.int (I 23 1)))) (h := (mSH, I, L)) rfl (mRet_int rfl) ?_
  show mWP mTb_ mFT ro (d + 4, 25, 12, [some (.ref 22), some (.int v), some (.int e), some (.int x0)], [.int (I 23 1), .int x0], 0, 0, (mSH, I, L)) _
  refine mBr (s2 := (d + 4, 25, 48, [some (.ref 22), some (.int v), some (.int e), some (.int x0)], [], 0, 0, (mSH, I, L))) (s3 := (d + 4, 25, 15, [some (.ref 22), some (.int v), some (.int e), some (.int x0)], [], 0, 0, (mSH, I, L))) rfl (fun c0 => ?_) (fun c0 => ?_)
  · refine mB 1 (s2 := (d + 4, 25, 49, [some (.ref 22), some (.int v), some (.int e), some (.int x0)], [.int e], 0, 0, (mSH, I, L))) rfl ?_
    refine mRt (r := (some (.int e))) (h := (mSH, I, L)) rfl (mRet_int rfl) ?_
    exact h1 (of_decide_eq_true c0)
  · refine mB 1 (s2 := (d + 4, 25, 16, [some (.ref 22), some (.int v), some (.int e), some (.int x0)], [.int v], 0, 0, (mSH, I, L))) rfl ?_
    refine mBr (s2 := (d + 4, 25, 31, [some (.ref 22), some (.int v), some (.int e), some (.int x0)], [], 0, 0, (mSH, I, L))) (s3 := (d + 4, 25, 19, [some (.ref 22), some (.int v), some (.int e), some (.int x0)], [], 0, 0, (mSH, I, L))) rfl (fun c1 => ?_) (fun c1 => ?_)
    · refine mB 3 (s2 := (d + 4, 25, 34, [some (.ref 22), some (.int v), some (.int e), some (.int x0)], [.int x0, .int e, .ref 22], 0, 0, (mSH, I, L))) rfl ?_
      refine mCall (s2 := (d + 3, 26, 0, [some (.ref 22), some (.int e), some (.int x0)], [], 0, 0, (mSH, I, L))) rfl ?_
      refine w_isFaster n2 n4 n23 ?_ ?_
      · show mWP mTb_ mFT ro (d + 4, 25, 37, [some (.ref 22), some (.int v), some (.int e), some (.int x0)], [.int 0], 0, 0, (mSH, I, L)) _
        refine mBT (s2 := (d + 4, 25, 42, [some (.ref 22), some (.int v), some (.int e), some (.int x0)], [], 0, 0, (mSH, I, L))) rfl (by decide) ?_
        refine mB 2 (s2 := (d + 4, 25, 4, [some (.ref 22), some (.int v), some (.int e), some (.int (x0 + 1))], [], 0, 0, (mSH, I, L))) rfl ?_
        exact h2 (of_decide_eq_false c0) (of_decide_eq_true c1)
      · show mWP mTb_ mFT ro (d + 4, 25, 37, [some (.ref 22), some (.int v), some (.int e), some (.int x0)], [.int 1], 0, 0, (mSH, I, L)) _
        refine mBF (s3 := (d + 4, 25, 40, [some (.ref 22), some (.int v), some (.int e), some (.int x0)], [], 0, 0, (mSH, I, L))) rfl (by decide) ?_
        refine mB 4 (s2 := (d + 4, 25, 4, [some (.ref 22), some (.int v), some (.int x0), some (.int (x0 + 1))], [], 0, 0, (mSH, I, L))) rfl ?_
        exact h3 (of_decide_eq_false c0) (of_decide_eq_true c1)
    · refine mB 3 (s2 := (d + 4, 25, 22, [some (.ref 22), some (.int v), some (.int e), some (.int x0)], [.int e, .int x0, .ref 22], 0, 0, (mSH, I, L))) rfl ?_
      refine mCall (s2 := (d + 3, 26, 0, [some (.ref 22), some (.int x0), some (.int e)], [], 0, 0, (mSH, I, L))) rfl ?_
      refine w_isFaster n2 n4 n23 ?_ ?_
      · show mWP mTb_ mFT ro (d + 4, 25, 25, [some (.ref 22), some (.int v), some (.int e), some (.int x0)], [.int 0], 0, 0, (mSH, I, L)) _
        refine mBT (s2 := (d + 4, 25, 42, [some (.ref 22), some (.int v), some (.int e), some (.int x0)], [], 0, 0, (mSH, I, L))) rfl (by decide) ?_
        refine mB 2 (s2 := (d + 4, 25, 4, [some (.ref 22), some (.int v), some (.int e), some (.int (x0 + 1))], [], 0, 0, (mSH, I, L))) rfl ?_
        exact h4 (of_decide_eq_false c0) (of_decide_eq_false c1)
      · show mWP mTb_ mFT ro (d + 4, 25, 25, [some (.ref 22), some (.int v), some (.int e), some (.int x0)], [.int 1], 0, 0, (mSH, I, L)) _
        refine mBF (s3 := (d + 4, 25, 28, [some (.ref 22), some (.int v), some (.int e), some (.int x0)], [], 0, 0, (mSH, I, L))) rfl (by decide) ?_
        refine mB 5 (s2 := (d + 4, 25, 4, [some (.ref 22), some (.int v), some (.int x0), some (.int (x0 + 1))], [], 0, 0, (mSH, I, L))) rfl ?_
        exact h5 (of_decide_eq_false c0) (of_decide_eq_false c1)
theorem l_ext {ro : Nat → Nat × (Nat → Int32)} {Q : mPo} {d : Nat} {I : Nat → Nat → Int32} {L : Nat → Nat → Int64} {v : Int32} (n2 : mCn I 2 16) (n4 : mCn I 4 8) (n23 : mCn I 23 8) (hq : ∀ r, Q (some (.int r)) (mSH, I, L)) (m : Nat) : ∀ (k : Nat) (e : Int32), (I 23 1).toInt ≤ k + m → k < 2 ^ 31 → mWP mTb_ mFT ro (d + 4, 25, 4, [some (.ref 22), some (.int v), some (.int e), some (.int (nI k))], [], 0, 0, (mSH, I, L)) Q := by
  induction m with
  | zero =>
    intro k e hm hk
    have z : I 23 1 ≤ nI k := (mLeI hk).mpr (by omega)
    apply s_ext n2 n4 n23 <;> intros <;> first | exact hq _ | exact absurd z (by assumption)
  | succ m ih =>
    intro k e hm hk
    by_cases z : I 23 1 ≤ nI k
    · apply s_ext n2 n4 n23 <;> intros <;> first | exact hq _ | exact absurd z (by assumption)
    · have hk1 : k + 1 < 2 ^ 31 := mLe1 hk z
      apply s_ext n2 n4 n23 <;> intros <;> first | exact absurd (by assumption) z | exact hq _ | (rw [nI_1]; exact ih (k + 1) _ (by omega) hk1)
theorem w_ext {ro : Nat → Nat × (Nat → Int32)} {Q : mPo} {d : Nat} {I : Nat → Nat → Int32} {L : Nat → Nat → Int64} {v0 : Int32} (n2 : mCn I 2 16) (n4 : mCn I 4 8) (n23 : mCn I 23 8) (hq : ∀ r, Q (some (.int r)) (mSH, I, L))  : mWP mTb_ mFT ro (d + 4, 25, 0, [some (.ref 22), some (.int v0), none, none], [], 0, 0, (mSH, I, L)) Q := by
  refine mB 4 (s2 := (d + 4, 25, 4, [some (.ref 22), some (.int v0), some (.int 0), some (.int 1)], [], 0, 0, (mSH, I, L))) rfl ?_
  exact l_ext n2 n4 n23 hq 2147483648 1 _ (by have := (I 23 1).toInt_lt; omega) (by omega)
theorem s_gcd {ro : Nat → Nat × (Nat → Int32)} {Q : mPo} {d : Nat} {I : Nat → Nat → Int32} {L : Nat → Nat → Int64} {u v : Int32} {a : Int32} {b : Int32} {o5 : Option Value} {x0 : Int32}  (h1 : ((64 : Int32) ≤ x0) → Q (some (.int a)) (mSH, I, L)) (h2 : ¬ ((64 : Int32) ≤ x0) → (b = 0) → Q (some (.int a)) (mSH, I, L)) (h3 : ¬ ((64 : Int32) ≤ x0) → ¬ (b = 0) → mWP mTb_ mFT ro (d, 6, 7, [some (.int u), some (.int v), some (.int b), some (.int (a - a / b * b)), some (.int (x0 + 1)), some (.int (a - a / b * b))], [], 0, 0, (mSH, I, L)) Q) : mWP mTb_ mFT ro (d, 6, 7, [some (.int u), some (.int v), some (.int a), some (.int b), some (.int x0), o5], [], 0, 0, (mSH, I, L)) Q := by
  refine mB 2 (s2 := (d, 6, 11, [some (.int u), some (.int v), some (.int a), some (.int b), some (.int x0), o5], [.int 64, .int x0], 0, 0, (mSH, I, L))) rfl ?_
  refine mBr (s2 := (d, 6, 34, [some (.int u), some (.int v), some (.int a), some (.int b), some (.int x0), o5], [], 0, 0, (mSH, I, L))) (s3 := (d, 6, 14, [some (.int u), some (.int v), some (.int a), some (.int b), some (.int x0), o5], [], 0, 0, (mSH, I, L))) rfl (fun c0 => ?_) (fun c0 => ?_)
  · refine mB 1 (s2 := (d, 6, 35, [some (.int u), some (.int v), some (.int a), some (.int b), some (.int x0), o5], [.int a], 0, 0, (mSH, I, L))) rfl ?_
    refine mRt (r := (some (.int a))) (h := (mSH, I, L)) rfl (mRet_int rfl) ?_
    exact h1 (of_decide_eq_true c0)
  · refine mB 1 (s2 := (d, 6, 15, [some (.int u), some (.int v), some (.int a), some (.int b), some (.int x0), o5], [.int b], 0, 0, (mSH, I, L))) rfl ?_
    refine mBr (s2 := (d, 6, 34, [some (.int u), some (.int v), some (.int a), some (.int b), some (.int x0), o5], [], 0, 0, (mSH, I, L))) (s3 := (d, 6, 18, [some (.int u), some (.int v), some (.int a), some (.int b), some (.int x0), o5], [], 0, 0, (mSH, I, L))) rfl (fun c1 => ?_) (fun c1 => ?_)
    · refine mB 1 (s2 := (d, 6, 35, [some (.int u), some (.int v), some (.int a), some (.int b), some (.int x0), o5], [.int a], 0, 0, (mSH, I, L))) rfl ?_
      refine mRt (r := (some (.int a))) (h := (mSH, I, L)) rfl (mRet_int rfl) ?_
      exact h2 (of_decide_eq_false c0) (of_decide_eq_true c1)
    · refine mB 2 (s2 := (d, 6, 20, [some (.int u), some (.int v), some (.int a), some (.int b), some (.int x0), o5], [.int b, .int a], 0, 0, (mSH, I, L))) rfl ?_
      refine mRq (s2 := (d, 6, 21, [some (.int u), some (.int v), some (.int a), some (.int b), some (.int x0), o5], [.int (a - a / b * b)], 0, 0, (mSH, I, L))) rfl (decide_eq_true (of_decide_eq_false c1)) ?_
      refine mB 7 (s2 := (d, 6, 7, [some (.int u), some (.int v), some (.int b), some (.int (a - a / b * b)), some (.int (x0 + 1)), some (.int (a - a / b * b))], [], 0, 0, (mSH, I, L))) rfl ?_
      exact h3 (of_decide_eq_false c0) (of_decide_eq_false c1)
theorem l_gcd {ro : Nat → Nat × (Nat → Int32)} {Q : mPo} {d : Nat} {I : Nat → Nat → Int32} {L : Nat → Nat → Int64} {u v : Int32} (hq : ∀ r, Q (some (.int r)) (mSH, I, L)) (m : Nat) : ∀ (k : Nat) (a : Int32) (b : Int32) (o5 : Option Value), ((64 : Int32)).toInt ≤ k + m → k < 2 ^ 31 → mWP mTb_ mFT ro (d, 6, 7, [some (.int u), some (.int v), some (.int a), some (.int b), some (.int (nI k)), o5], [], 0, 0, (mSH, I, L)) Q := by
  induction m with
  | zero =>
    intro k a b o5 hm hk
    have z : (64 : Int32) ≤ nI k := (mLeI hk).mpr (by omega)
    apply s_gcd <;> intros <;> first | exact hq _ | exact absurd z (by assumption)
  | succ m ih =>
    intro k a b o5 hm hk
    by_cases z : (64 : Int32) ≤ nI k
    · apply s_gcd <;> intros <;> first | exact hq _ | exact absurd z (by assumption)
    · have hk1 : k + 1 < 2 ^ 31 := mLe1 hk z
      apply s_gcd <;> intros <;> first | exact absurd (by assumption) z | exact hq _ | (rw [nI_1]; exact ih (k + 1) _ _ _ (by omega) hk1)
theorem w_gcd {ro : Nat → Nat × (Nat → Int32)} {Q : mPo} {d : Nat} {I : Nat → Nat → Int32} {L : Nat → Nat → Int64} {v0 v1 : Int32} (hq : ∀ r, Q (some (.int r)) (mSH, I, L))  : mWP mTb_ mFT ro (d, 6, 0, [some (.int v0), some (.int v1), none, none, none, none], [], 0, 0, (mSH, I, L)) Q := by
  refine mB 6 (s2 := (d, 6, 7, [some (.int v0), some (.int v1), some (.int v0), some (.int v1), some (.int 0), none], [], 0, 0, (mSH, I, L))) rfl ?_
  exact l_gcd hq 2147483648 0 _ _ _ (by have := (64 : Int32).toInt_lt; omega) (by omega)
theorem w_frac {ro : Nat → Nat × (Nat → Int32)} {Q : mPo} {d : Nat} {I : Nat → Nat → Int32} {L : Nat → Nat → Int64} {v0 v1 : Int32} (hq : ∀ K, True → Q none (mSH, mMix [25] I K, L))  : mWP mTb_ mFT ro (d + 1, 5, 0, [some (.ref 25), some (.int v0), some (.int v1), none], [], 0, 0, (mSH, I, L)) Q := by
  refine mB 2 (s2 := (d + 1, 5, 2, [some (.ref 25), some (.int v0), some (.int v1), none], [.int v1, .int v0], 0, 0, (mSH, I, L))) rfl ?_
  refine mCall (s2 := (d, 6, 0, [some (.int v0), some (.int v1), none, none, none, none], [], 0, 0, (mSH, I, L))) rfl ?_
  refine w_gcd (fun r1 => ?_)
  show mWP mTb_ mFT ro (d + 1, 5, 5, [some (.ref 25), some (.int v0), some (.int v1), none], [.int r1], 0, 0, (mSH, I, L)) _
  refine mB 2 (s2 := (d + 1, 5, 7, [some (.ref 25), some (.int v0), some (.int v1), some (.int r1)], [.int v1], 0, 0, (mSH, I, L))) rfl ?_
  refine mBr (s2 := (d + 1, 5, 28, [some (.ref 25), some (.int v0), some (.int v1), some (.int r1)], [], 0, 0, (mSH, I, L))) (s3 := (d + 1, 5, 10, [some (.ref 25), some (.int v0), some (.int v1), some (.int r1)], [], 0, 0, (mSH, I, L))) rfl (fun c1 => ?_) (fun c1 => ?_)
  · refine mRt (r := none) (h := (mSH, I, L)) rfl rfl ?_
    exact mFin (P := fun _ => True) hq mFr.rf trivial
  · refine mB 1 (s2 := (d + 1, 5, 11, [some (.ref 25), some (.int v0), some (.int v1), some (.int r1)], [.int r1], 0, 0, (mSH, I, L))) rfl ?_
    refine mBr (s2 := (d + 1, 5, 28, [some (.ref 25), some (.int v0), some (.int v1), some (.int r1)], [], 0, 0, (mSH, I, L))) (s3 := (d + 1, 5, 14, [some (.ref 25), some (.int v0), some (.int v1), some (.int r1)], [], 0, 0, (mSH, I, L))) rfl (fun c2 => ?_) (fun c2 => ?_)
    · refine mRt (r := none) (h := (mSH, I, L)) rfl rfl ?_
      exact mFin (P := fun _ => True) hq mFr.rf trivial
    · refine mB 3 (s2 := (d + 1, 5, 17, [some (.ref 25), some (.int v0), some (.int v1), some (.int r1)], [.int r1, .int v0, .ref 25], 0, 0, (mSH, I, L))) rfl ?_
      refine mRq (s2 := (d + 1, 5, 18, [some (.ref 25), some (.int v0), some (.int v1), some (.int r1)], [.int (v0 / r1), .ref 25], 0, 0, (mSH, I, L))) rfl (decide_eq_true (mNe0 (of_decide_eq_false c2))) ?_
      refine mB 4 (s2 := (d + 1, 5, 24, [some (.ref 25), some (.int v0), some (.int v1), some (.int r1)], [.int r1, .int v1, .ref 25], 0, 0, (mSH, (mUp I 25 0 (v0 / r1)), L))) rfl ?_
      refine mRq (s2 := (d + 1, 5, 25, [some (.ref 25), some (.int v0), some (.int v1), some (.int r1)], [.int (v1 / r1), .ref 25], 0, 0, (mSH, (mUp I 25 0 (v0 / r1)), L))) rfl (decide_eq_true (mNe0 (of_decide_eq_false c2))) ?_
      refine mB 1 (s2 := (d + 1, 5, 28, [some (.ref 25), some (.int v0), some (.int v1), some (.int r1)], [], 0, 0, (mSH, (mUp (mUp I 25 0 (v0 / r1)) 25 1 (v1 / r1)), L))) rfl ?_
      refine mRt (r := none) (h := (mSH, (mUp (mUp I 25 0 (v0 / r1)) 25 1 (v1 / r1)), L)) rfl rfl ?_
      exact mFin (P := fun _ => True) hq (mFr.up (by rfl) (mFr.up (by rfl) mFr.rf)) trivial
theorem w_tellAge {ro : Nat → Nat × (Nat → Int32)} {Q : mPo} {d : Nat} {I : Nat → Nat → Int32} {L : Nat → Nat → Int64} {v0 : Int32} (n2 : mCn I 2 16) (n4 : mCn I 4 8) (n23 : mCn I 23 8) (hq : ∀ K, True → Q none (mSH, mMix [25] I K, L))  : mWP mTb_ mFT ro (d + 3, 23, 0, [some (.ref 22), some (.int v0), some (.ref 25), none, none, none], [], 0, 0, (mSH, I, L)) Q := by
  refine mB 2 (s2 := (d + 3, 23, 2, [some (.ref 22), some (.int v0), some (.ref 25), none, none, none], [.int v0, .ref 22], 0, 0, (mSH, I, L))) rfl ?_
  refine mCall (s2 := (d + 2, 21, 0, [some (.ref 22), some (.int v0), none], [], 0, 0, (mSH, I, L))) rfl ?_
  refine w_lad n2 n4 n23 (fun r1 => ?_)
  show mWP mTb_ mFT ro (d + 3, 23, 5, [some (.ref 22), some (.int v0), some (.ref 25), none, none, none], [.int r1], 0, 0, (mSH, I, L)) _
  refine mB 5 (s2 := (d + 3, 23, 14, [some (.ref 22), some (.int v0), some (.ref 25), some (.int r1), none, none], [.int r1, .ref 4], 0, 0, (mSH, I, L))) rfl ?_
  refine mCall (s2 := (d + 2, 42, 0, [some (.ref 4), some (.int r1)], [], 0, 0, (mSH, I, L))) rfl ?_
  refine w_at_4 n4 ?_
  show mWP mTb_ mFT ro (d + 3, 23, 17, [some (.ref 22), some (.int v0), some (.ref 25), some (.int r1), none, none], [.int (mAt I 4 5 r1)], 0, 0, (mSH, I, L)) _
  refine mB 6 (s2 := (d + 3, 23, 28, [some (.ref 22), some (.int v0), some (.ref 25), some (.int r1), some (.int (mAt I 4 5 r1)), none], [.int r1, .ref 4, .int v0], 0, 0, (mSH, I, L))) rfl ?_
  refine mCall (s2 := (d + 2, 47, 0, [some (.ref 4), some (.int r1), none, none], [], 0, 0, (mSH, I, L))) rfl ?_
  refine w_total_4 n4 (fun r2 => ?_)
  show mWP mTb_ mFT ro (d + 3, 23, 31, [some (.ref 22), some (.int v0), some (.ref 25), some (.int r1), some (.int (mAt I 4 5 r1)), none], [.int r2, .int v0], 0, 0, (mSH, I, L)) _
  refine mB 5 (s2 := (d + 3, 23, 37, [some (.ref 22), some (.int v0), some (.ref 25), some (.int r1), some (.int (mAt I 4 5 r1)), some (.int (v0 - r2))], [.int r1, .ref 22, .ref 25], 0, 0, (mSH, I, L))) rfl ?_
  refine mCall (s2 := (d + 2, 20, 0, [some (.ref 22), some (.int r1)], [], 0, 0, (mSH, I, L))) rfl ?_
  refine w_ageAbove n2 n23 (fun r3 => ?_)
  show mWP mTb_ mFT ro (d + 3, 23, 40, [some (.ref 22), some (.int v0), some (.ref 25), some (.int r1), some (.int (mAt I 4 5 r1)), some (.int (v0 - r2))], [.int r3, .ref 25], 0, 0, (mSH, I, L)) _
  refine mB 5 (s2 := (d + 3, 23, 47, [some (.ref 22), some (.int v0), some (.ref 25), some (.int r1), some (.int (mAt I 4 5 r1)), some (.int (v0 - r2))], [.int r1, .ref 22, .int (v0 - r2), .int (r3 * (mAt I 4 5 r1)), .ref 25], 0, 0, (mSH, I, L))) rfl ?_
  refine mCall (s2 := (d + 2, 17, 0, [some (.ref 22), some (.int r1)], [], 0, 0, (mSH, I, L))) rfl ?_
  refine w_yearsOf n2 n23 (fun r4 => ?_)
  show mWP mTb_ mFT ro (d + 3, 23, 50, [some (.ref 22), some (.int v0), some (.ref 25), some (.int r1), some (.int (mAt I 4 5 r1)), some (.int (v0 - r2))], [.int r4, .int (v0 - r2), .int (r3 * (mAt I 4 5 r1)), .ref 25], 0, 0, (mSH, I, L)) _
  refine mB 3 (s2 := (d + 3, 23, 54, [some (.ref 22), some (.int v0), some (.ref 25), some (.int r1), some (.int (mAt I 4 5 r1)), some (.int (v0 - r2))], [.int (mAt I 4 5 r1), .int ((r3 * (mAt I 4 5 r1)) + ((v0 - r2) * r4)), .ref 25], 0, 0, (mSH, I, L))) rfl ?_
  refine mCall (s2 := (d + 2, 5, 0, [some (.ref 25), some (.int ((r3 * (mAt I 4 5 r1)) + ((v0 - r2) * r4))), some (.int (mAt I 4 5 r1)), none], [], 0, 0, (mSH, I, L))) rfl ?_
  refine w_frac (fun K5 hK5 => ?_)
  show mWP mTb_ mFT ro (d + 3, 23, 57, [some (.ref 22), some (.int v0), some (.ref 25), some (.int r1), some (.int (mAt I 4 5 r1)), some (.int (v0 - r2))], [], 0, 0, (mSH, (mMix [25] I K5), L)) _
  refine mRt (r := none) (h := (mSH, (mMix [25] I K5), L)) rfl rfl ?_
  exact mFin (P := fun _ => True) hq (mFr.mix (by decide) mFr.rf) trivial
theorem w_tellDepth {ro : Nat → Nat × (Nat → Int32)} {Q : mPo} {d : Nat} {I : Nat → Nat → Int32} {L : Nat → Nat → Int64} {v0 : Int32} (n2 : mCn I 2 16) (n4 : mCn I 4 8) (n23 : mCn I 23 8) (hq : ∀ K, True → Q none (mSH, mMix [25] I K, L))  : mWP mTb_ mFT ro (d + 3, 24, 0, [some (.ref 22), some (.int v0), some (.ref 25), none, none, none], [], 0, 0, (mSH, I, L)) Q := by
  refine mB 2 (s2 := (d + 3, 24, 2, [some (.ref 22), some (.int v0), some (.ref 25), none, none, none], [.int v0, .ref 22], 0, 0, (mSH, I, L))) rfl ?_
  refine mCall (s2 := (d + 2, 22, 0, [some (.ref 22), some (.int v0), none], [], 0, 0, (mSH, I, L))) rfl ?_
  refine w_laa n2 n4 n23 (fun r1 => ?_)
  show mWP mTb_ mFT ro (d + 3, 24, 5, [some (.ref 22), some (.int v0), some (.ref 25), none, none, none], [.int r1], 0, 0, (mSH, I, L)) _
  refine mB 3 (s2 := (d + 3, 24, 8, [some (.ref 22), some (.int v0), some (.ref 25), some (.int r1), none, none], [.int r1, .ref 22], 0, 0, (mSH, I, L))) rfl ?_
  refine mCall (s2 := (d + 2, 17, 0, [some (.ref 22), some (.int r1)], [], 0, 0, (mSH, I, L))) rfl ?_
  refine w_yearsOf n2 n23 (fun r2 => ?_)
  show mWP mTb_ mFT ro (d + 3, 24, 11, [some (.ref 22), some (.int v0), some (.ref 25), some (.int r1), none, none], [.int r2], 0, 0, (mSH, I, L)) _
  refine mB 4 (s2 := (d + 3, 24, 16, [some (.ref 22), some (.int v0), some (.ref 25), some (.int r1), some (.int r2), none], [.int r1, .ref 22, .int v0], 0, 0, (mSH, I, L))) rfl ?_
  refine mCall (s2 := (d + 2, 20, 0, [some (.ref 22), some (.int r1)], [], 0, 0, (mSH, I, L))) rfl ?_
  refine w_ageAbove n2 n23 (fun r3 => ?_)
  show mWP mTb_ mFT ro (d + 3, 24, 19, [some (.ref 22), some (.int v0), some (.ref 25), some (.int r1), some (.int r2), none], [.int r3, .int v0], 0, 0, (mSH, I, L)) _
  refine mB 7 (s2 := (d + 3, 24, 31, [some (.ref 22), some (.int v0), some (.ref 25), some (.int r1), some (.int r2), some (.int (v0 - r3))], [.int r1, .ref 4, .ref 25], 0, 0, (mSH, I, L))) rfl ?_
  refine mCall (s2 := (d + 2, 47, 0, [some (.ref 4), some (.int r1), none, none], [], 0, 0, (mSH, I, L))) rfl ?_
  refine w_total_4 n4 (fun r4 => ?_)
  show mWP mTb_ mFT ro (d + 3, 24, 34, [some (.ref 22), some (.int v0), some (.ref 25), some (.int r1), some (.int r2), some (.int (v0 - r3))], [.int r4, .ref 25], 0, 0, (mSH, I, L)) _
  refine mB 7 (s2 := (d + 3, 24, 47, [some (.ref 22), some (.int v0), some (.ref 25), some (.int r1), some (.int r2), some (.int (v0 - r3))], [.int r1, .ref 4, .int (v0 - r3), .int (r4 * r2), .ref 25], 0, 0, (mSH, I, L))) rfl ?_
  refine mCall (s2 := (d + 2, 42, 0, [some (.ref 4), some (.int r1)], [], 0, 0, (mSH, I, L))) rfl ?_
  refine w_at_4 n4 ?_
  show mWP mTb_ mFT ro (d + 3, 24, 50, [some (.ref 22), some (.int v0), some (.ref 25), some (.int r1), some (.int r2), some (.int (v0 - r3))], [.int (mAt I 4 5 r1), .int (v0 - r3), .int (r4 * r2), .ref 25], 0, 0, (mSH, I, L)) _
  refine mB 3 (s2 := (d + 3, 24, 54, [some (.ref 22), some (.int v0), some (.ref 25), some (.int r1), some (.int r2), some (.int (v0 - r3))], [.int r2, .int ((r4 * r2) + ((v0 - r3) * (mAt I 4 5 r1))), .ref 25], 0, 0, (mSH, I, L))) rfl ?_
  refine mCall (s2 := (d + 2, 5, 0, [some (.ref 25), some (.int ((r4 * r2) + ((v0 - r3) * (mAt I 4 5 r1)))), some (.int r2), none], [], 0, 0, (mSH, I, L))) rfl ?_
  refine w_frac (fun K5 hK5 => ?_)
  show mWP mTb_ mFT ro (d + 3, 24, 57, [some (.ref 22), some (.int v0), some (.ref 25), some (.int r1), some (.int r2), some (.int (v0 - r3))], [], 0, 0, (mSH, (mMix [25] I K5), L)) _
  refine mRt (r := none) (h := (mSH, (mMix [25] I K5), L)) rfl rfl ?_
  exact mFin (P := fun _ => True) hq (mFr.mix (by decide) mFr.rf) trivial
