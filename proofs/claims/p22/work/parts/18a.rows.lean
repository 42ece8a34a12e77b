/-! Rows. Written by a program (wip/mk_c.py). -/
theorem mLeI {x : Int32} {k : Nat} (hk : k < 2 ^ 31) : x ≤ nI k ↔ x.toInt ≤ k := by
  rw [Int32.le_iff_toInt_le, nI_toInt hk]
theorem mLtI {x : Int32} {k : Nat} (hk : k < 2 ^ 31) : x < nI k ↔ x.toInt < k := by
  rw [Int32.lt_iff_toInt_lt, nI_toInt hk]
theorem mLe1 {x : Int32} {k : Nat} (hk : k < 2 ^ 31) (h : ¬ x ≤ nI k) : k + 1 < 2 ^ 31 := by
  rw [mLeI hk] at h
  have := x.toInt_lt
  omega
theorem mVpk {x : Int32} {k n : Nat} (hk : k < 2 ^ 31) (h : ¬ x ≤ nI k) (hx : x.toInt ≤ n) : vp_in (nI k) n := by
  rw [mLeI hk] at h
  rw [vp_in_iff, nI_toInt hk]
  omega
def mAt (I : Nat → Nat → Int32) (q a : Nat) (k : Int32) : Int32 := if k < 0 then 0 else if I q 1 ≤ k then 0 else I a k.toNatClampNeg
theorem w_ats_2 {ro : Nat → Nat × (Nat → Int32)} {Q : mPo} {d : Nat} {I : Nat → Nat → Int32} {L : Nat → Nat → Int64} {v0 : Int32}  (h1 : (v0 < 0) → Q (some (.int 0)) (mSH, I, L)) (h2 : ¬ (v0 < 0) → ((I 2 1) ≤ v0) → Q (some (.int 0)) (mSH, I, L)) (h3 : ¬ (v0 < 0) → ¬ ((I 2 1) ≤ v0) → vp_in v0 16) (h4 : ¬ (v0 < 0) → ¬ ((I 2 1) ≤ v0) → Q (some (.int (I 3 v0.toNatClampNeg))) (mSH, I, L)) : mWP mTb_ mFT ro (d, 42, 0, [some (.ref 2), some (.int v0)], [], 0, 0, (mSH, I, L)) Q := by
  refine mB 1 (s2 := (d, 42, 1, [some (.ref 2), some (.int v0)], [.int v0], 0, 0, (mSH, I, L))) rfl ?_
  refine mBr (s2 := (d, 42, 21, [some (.ref 2), some (.int v0)], [], 0, 0, (mSH, I, L))) (s3 := (d, 42, 4, [some (.ref 2), some (.int v0)], [], 0, 0, (mSH, I, L))) rfl (fun c0 => ?_) (fun c0 => ?_)
  · refine mB 1 (s2 := (d, 42, 22, [some (.ref 2), some (.int v0)], [.int 0], 0, 0, (mSH, I, L))) rfl ?_
    refine mRt (r := (some (.int 0))) (h := (mSH, I, L)) rfl (mRet_int rfl) ?_
    exact h1 (of_decide_eq_true c0)
  · refine mB 3 (s2 := (d, 42, 9, [some (.ref 2), some (.int v0)], [.int (I 2 1), .int v0], 0, 0, (mSH, I, L))) rfl ?_
    refine mBr (s2 := (d, 42, 21, [some (.ref 2), some (.int v0)], [], 0, 0, (mSH, I, L))) (s3 := (d, 42, 12, [some (.ref 2), some (.int v0)], [], 0, 0, (mSH, I, L))) rfl (fun c1 => ?_) (fun c1 => ?_)
    · refine mB 1 (s2 := (d, 42, 22, [some (.ref 2), some (.int v0)], [.int 0], 0, 0, (mSH, I, L))) rfl ?_
      refine mRt (r := (some (.int 0))) (h := (mSH, I, L)) rfl (mRet_int rfl) ?_
      exact h2 (of_decide_eq_false c0) (of_decide_eq_true c1)
    · refine mB 3 (s2 := (d, 42, 17, [some (.ref 2), some (.int v0)], [.int v0, .ref 3], 0, 0, (mSH, I, L))) rfl ?_
      refine mRq (s2 := (d, 42, 18, [some (.ref 2), some (.int v0)], [.int (I 3 v0.toNatClampNeg)], 0, 0, (mSH, I, L))) rfl (mVp_of (h3 (of_decide_eq_false c0) (of_decide_eq_false c1))) ?_
      refine mB 1 (s2 := (d, 42, 22, [some (.ref 2), some (.int v0)], [.int (I 3 v0.toNatClampNeg)], 0, 0, (mSH, I, L))) rfl ?_
      refine mRt (r := (some (.int (I 3 v0.toNatClampNeg)))) (h := (mSH, I, L)) rfl (mRet_int rfl) ?_
      exact h4 (of_decide_eq_false c0) (of_decide_eq_false c1)
theorem w_at_2 {ro : Nat → Nat × (Nat → Int32)} {Q : mPo} {d : Nat} {I : Nat → Nat → Int32} {L : Nat → Nat → Int64} {v0 : Int32} (hc : mCn I 2 16) (hq : Q (some (.int (mAt I 2 3 v0))) (mSH, I, L)) : mWP mTb_ mFT ro (d, 42, 0, [some (.ref 2), some (.int v0)], [], 0, 0, (mSH, I, L)) Q := by
  unfold mAt at hq
  refine w_ats_2 (fun c => ?_) (fun c e => ?_) (fun c e => mVpI c e hc.hi) (fun c e => ?_)
  · rw [if_pos c] at hq; exact hq
  · rw [if_neg c, if_pos e] at hq; exact hq
  · rw [if_neg c, if_neg e] at hq; exact hq
theorem w_ats_4 {ro : Nat → Nat × (Nat → Int32)} {Q : mPo} {d : Nat} {I : Nat → Nat → Int32} {L : Nat → Nat → Int64} {v0 : Int32}  (h1 : (v0 < 0) → Q (some (.int 0)) (mSH, I, L)) (h2 : ¬ (v0 < 0) → ((I 4 1) ≤ v0) → Q (some (.int 0)) (mSH, I, L)) (h3 : ¬ (v0 < 0) → ¬ ((I 4 1) ≤ v0) → vp_in v0 8) (h4 : ¬ (v0 < 0) → ¬ ((I 4 1) ≤ v0) → Q (some (.int (I 5 v0.toNatClampNeg))) (mSH, I, L)) : mWP mTb_ mFT ro (d, 42, 0, [some (.ref 4), some (.int v0)], [], 0, 0, (mSH, I, L)) Q := by
  refine mB 1 (s2 := (d, 42, 1, [some (.ref 4), some (.int v0)], [.int v0], 0, 0, (mSH, I, L))) rfl ?_
  refine mBr (s2 := (d, 42, 21, [some (.ref 4), some (.int v0)], [], 0, 0, (mSH, I, L))) (s3 := (d, 42, 4, [some (.ref 4), some (.int v0)], [], 0, 0, (mSH, I, L))) rfl (fun c0 => ?_) (fun c0 => ?_)
  · refine mB 1 (s2 := (d, 42, 22, [some (.ref 4), some (.int v0)], [.int 0], 0, 0, (mSH, I, L))) rfl ?_
    refine mRt (r := (some (.int 0))) (h := (mSH, I, L)) rfl (mRet_int rfl) ?_
    exact h1 (of_decide_eq_true c0)
  · refine mB 3 (s2 := (d, 42, 9, [some (.ref 4), some (.int v0)], [.int (I 4 1), .int v0], 0, 0, (mSH, I, L))) rfl ?_
    refine mBr (s2 := (d, 42, 21, [some (.ref 4), some (.int v0)], [], 0, 0, (mSH, I, L))) (s3 := (d, 42, 12, [some (.ref 4), some (.int v0)], [], 0, 0, (mSH, I, L))) rfl (fun c1 => ?_) (fun c1 => ?_)
    · refine mB 1 (s2 := (d, 42, 22, [some (.ref 4), some (.int v0)], [.int 0], 0, 0, (mSH, I, L))) rfl ?_
      refine mRt (r := (some (.int 0))) (h := (mSH, I, L)) rfl (mRet_int rfl) ?_
      exact h2 (of_decide_eq_false c0) (of_decide_eq_true c1)
    · refine mB 3 (s2 := (d, 42, 17, [some (.ref 4), some (.int v0)], [.int v0, .ref 5], 0, 0, (mSH, I, L))) rfl ?_
      refine mRq (s2 := (d, 42, 18, [some (.ref 4), some (.int v0)], [.int (I 5 v0.toNatClampNeg)], 0, 0, (mSH, I, L))) rfl (mVp_of (h3 (of_decide_eq_false c0) (of_decide_eq_false c1))) ?_
      refine mB 1 (s2 := (d, 42, 22, [some (.ref 4), some (.int v0)], [.int (I 5 v0.toNatClampNeg)], 0, 0, (mSH, I, L))) rfl ?_
      refine mRt (r := (some (.int (I 5 v0.toNatClampNeg)))) (h := (mSH, I, L)) rfl (mRet_int rfl) ?_
      exact h4 (of_decide_eq_false c0) (of_decide_eq_false c1)
theorem w_at_4 {ro : Nat → Nat × (Nat → Int32)} {Q : mPo} {d : Nat} {I : Nat → Nat → Int32} {L : Nat → Nat → Int64} {v0 : Int32} (hc : mCn I 4 8) (hq : Q (some (.int (mAt I 4 5 v0))) (mSH, I, L)) : mWP mTb_ mFT ro (d, 42, 0, [some (.ref 4), some (.int v0)], [], 0, 0, (mSH, I, L)) Q := by
  unfold mAt at hq
  refine w_ats_4 (fun c => ?_) (fun c e => ?_) (fun c e => mVpI c e hc.hi) (fun c e => ?_)
  · rw [if_pos c] at hq; exact hq
  · rw [if_neg c, if_pos e] at hq; exact hq
  · rw [if_neg c, if_neg e] at hq; exact hq
theorem w_ats_23 {ro : Nat → Nat × (Nat → Int32)} {Q : mPo} {d : Nat} {I : Nat → Nat → Int32} {L : Nat → Nat → Int64} {v0 : Int32}  (h1 : (v0 < 0) → Q (some (.int 0)) (mSH, I, L)) (h2 : ¬ (v0 < 0) → ((I 23 1) ≤ v0) → Q (some (.int 0)) (mSH, I, L)) (h3 : ¬ (v0 < 0) → ¬ ((I 23 1) ≤ v0) → vp_in v0 8) (h4 : ¬ (v0 < 0) → ¬ ((I 23 1) ≤ v0) → Q (some (.int (I 24 v0.toNatClampNeg))) (mSH, I, L)) : mWP mTb_ mFT ro (d, 42, 0, [some (.ref 23), some (.int v0)], [], 0, 0, (mSH, I, L)) Q := by
  refine mB 1 (s2 := (d, 42, 1, [some (.ref 23), some (.int v0)], [.int v0], 0, 0, (mSH, I, L))) rfl ?_
  refine mBr (s2 := (d, 42, 21, [some (.ref 23), some (.int v0)], [], 0, 0, (mSH, I, L))) (s3 := (d, 42, 4, [some (.ref 23), some (.int v0)], [], 0, 0, (mSH, I, L))) rfl (fun c0 => ?_) (fun c0 => ?_)
  · refine mB 1 (s2 := (d, 42, 22, [some (.ref 23), some (.int v0)], [.int 0], 0, 0, (mSH, I, L))) rfl ?_
    refine mRt (r := (some (.int 0))) (h := (mSH, I, L)) rfl (mRet_int rfl) ?_
    exact h1 (of_decide_eq_true c0)
  · refine mB 3 (s2 := (d, 42, 9, [some (.ref 23), some (.int v0)], [.int (I 23 1), .int v0], 0, 0, (mSH, I, L))) rfl ?_
    refine mBr (s2 := (d, 42, 21, [some (.ref 23), some (.int v0)], [], 0, 0, (mSH, I, L))) (s3 := (d, 42, 12, [some (.ref 23), some (.int v0)], [], 0, 0, (mSH, I, L))) rfl (fun c1 => ?_) (fun c1 => ?_)
    · refine mB 1 (s2 := (d, 42, 22, [some (.ref 23), some (.int v0)], [.int 0], 0, 0, (mSH, I, L))) rfl ?_
      refine mRt (r := (some (.int 0))) (h := (mSH, I, L)) rfl (mRet_int rfl) ?_
      exact h2 (of_decide_eq_false c0) (of_decide_eq_true c1)
    · refine mB 3 (s2 := (d, 42, 17, [some (.ref 23), some (.int v0)], [.int v0, .ref 24], 0, 0, (mSH, I, L))) rfl ?_
      refine mRq (s2 := (d, 42, 18, [some (.ref 23), some (.int v0)], [.int (I 24 v0.toNatClampNeg)], 0, 0, (mSH, I, L))) rfl (mVp_of (h3 (of_decide_eq_false c0) (of_decide_eq_false c1))) ?_
      refine mB 1 (s2 := (d, 42, 22, [some (.ref 23), some (.int v0)], [.int (I 24 v0.toNatClampNeg)], 0, 0, (mSH, I, L))) rfl ?_
      refine mRt (r := (some (.int (I 24 v0.toNatClampNeg)))) (h := (mSH, I, L)) rfl (mRet_int rfl) ?_
      exact h4 (of_decide_eq_false c0) (of_decide_eq_false c1)
theorem w_at_23 {ro : Nat → Nat × (Nat → Int32)} {Q : mPo} {d : Nat} {I : Nat → Nat → Int32} {L : Nat → Nat → Int64} {v0 : Int32} (hc : mCn I 23 8) (hq : Q (some (.int (mAt I 23 24 v0))) (mSH, I, L)) : mWP mTb_ mFT ro (d, 42, 0, [some (.ref 23), some (.int v0)], [], 0, 0, (mSH, I, L)) Q := by
  unfold mAt at hq
  refine w_ats_23 (fun c => ?_) (fun c e => ?_) (fun c e => mVpI c e hc.hi) (fun c e => ?_)
  · rw [if_pos c] at hq; exact hq
  · rw [if_neg c, if_pos e] at hq; exact hq
  · rw [if_neg c, if_neg e] at hq; exact hq
theorem w_ats_26 {ro : Nat → Nat × (Nat → Int32)} {Q : mPo} {d : Nat} {I : Nat → Nat → Int32} {L : Nat → Nat → Int64} {v0 : Int32}  (h1 : (v0 < 0) → Q (some (.int 0)) (mSH, I, L)) (h2 : ¬ (v0 < 0) → ((I 26 1) ≤ v0) → Q (some (.int 0)) (mSH, I, L)) (h3 : ¬ (v0 < 0) → ¬ ((I 26 1) ≤ v0) → vp_in v0 120) (h4 : ¬ (v0 < 0) → ¬ ((I 26 1) ≤ v0) → Q (some (.int (I 27 v0.toNatClampNeg))) (mSH, I, L)) : mWP mTb_ mFT ro (d, 42, 0, [some (.ref 26), some (.int v0)], [], 0, 0, (mSH, I, L)) Q := by
  refine mB 1 (s2 := (d, 42, 1, [some (.ref 26), some (.int v0)], [.int v0], 0, 0, (mSH, I, L))) rfl ?_
  refine mBr (s2 := (d, 42, 21, [some (.ref 26), some (.int v0)], [], 0, 0, (mSH, I, L))) (s3 := (d, 42, 4, [some (.ref 26), some (.int v0)], [], 0, 0, (mSH, I, L))) rfl (fun c0 => ?_) (fun c0 => ?_)
  · refine mB 1 (s2 := (d, 42, 22, [some (.ref 26), some (.int v0)], [.int 0], 0, 0, (mSH, I, L))) rfl ?_
    refine mRt (r := (some (.int 0))) (h := (mSH, I, L)) rfl (mRet_int rfl) ?_
    exact h1 (of_decide_eq_true c0)
  · refine mB 3 (s2 := (d, 42, 9, [some (.ref 26), some (.int v0)], [.int (I 26 1), .int v0], 0, 0, (mSH, I, L))) rfl ?_
    refine mBr (s2 := (d, 42, 21, [some (.ref 26), some (.int v0)], [], 0, 0, (mSH, I, L))) (s3 := (d, 42, 12, [some (.ref 26), some (.int v0)], [], 0, 0, (mSH, I, L))) rfl (fun c1 => ?_) (fun c1 => ?_)
    · refine mB 1 (s2 := (d, 42, 22, [some (.ref 26), some (.int v0)], [.int 0], 0, 0, (mSH, I, L))) rfl ?_
      refine mRt (r := (some (.int 0))) (h := (mSH, I, L)) rfl (mRet_int rfl) ?_
      exact h2 (of_decide_eq_false c0) (of_decide_eq_true c1)
    · refine mB 3 (s2 := (d, 42, 17, [some (.ref 26), some (.int v0)], [.int v0, .ref 27], 0, 0, (mSH, I, L))) rfl ?_
      refine mRq (s2 := (d, 42, 18, [some (.ref 26), some (.int v0)], [.int (I 27 v0.toNatClampNeg)], 0, 0, (mSH, I, L))) rfl (mVp_of (h3 (of_decide_eq_false c0) (of_decide_eq_false c1))) ?_
      refine mB 1 (s2 := (d, 42, 22, [some (.ref 26), some (.int v0)], [.int (I 27 v0.toNatClampNeg)], 0, 0, (mSH, I, L))) rfl ?_
      refine mRt (r := (some (.int (I 27 v0.toNatClampNeg)))) (h := (mSH, I, L)) rfl (mRet_int rfl) ?_
      exact h4 (of_decide_eq_false c0) (of_decide_eq_false c1)
theorem w_at_26 {ro : Nat → Nat × (Nat → Int32)} {Q : mPo} {d : Nat} {I : Nat → Nat → Int32} {L : Nat → Nat → Int64} {v0 : Int32} (hc : mCn I 26 120) (hq : Q (some (.int (mAt I 26 27 v0))) (mSH, I, L)) : mWP mTb_ mFT ro (d, 42, 0, [some (.ref 26), some (.int v0)], [], 0, 0, (mSH, I, L)) Q := by
  unfold mAt at hq
  refine w_ats_26 (fun c => ?_) (fun c e => ?_) (fun c e => mVpI c e hc.hi) (fun c e => ?_)
  · rw [if_pos c] at hq; exact hq
  · rw [if_neg c, if_pos e] at hq; exact hq
  · rw [if_neg c, if_neg e] at hq; exact hq
theorem w_ats_30 {ro : Nat → Nat × (Nat → Int32)} {Q : mPo} {d : Nat} {I : Nat → Nat → Int32} {L : Nat → Nat → Int64} {v0 : Int32}  (h1 : (v0 < 0) → Q (some (.int 0)) (mSH, I, L)) (h2 : ¬ (v0 < 0) → ((I 30 1) ≤ v0) → Q (some (.int 0)) (mSH, I, L)) (h3 : ¬ (v0 < 0) → ¬ ((I 30 1) ≤ v0) → vp_in v0 16) (h4 : ¬ (v0 < 0) → ¬ ((I 30 1) ≤ v0) → Q (some (.int (I 31 v0.toNatClampNeg))) (mSH, I, L)) : mWP mTb_ mFT ro (d, 42, 0, [some (.ref 30), some (.int v0)], [], 0, 0, (mSH, I, L)) Q := by
  refine mB 1 (s2 := (d, 42, 1, [some (.ref 30), some (.int v0)], [.int v0], 0, 0, (mSH, I, L))) rfl ?_
  refine mBr (s2 := (d, 42, 21, [some (.ref 30), some (.int v0)], [], 0, 0, (mSH, I, L))) (s3 := (d, 42, 4, [some (.ref 30), some (.int v0)], [], 0, 0, (mSH, I, L))) rfl (fun c0 => ?_) (fun c0 => ?_)
  · refine mB 1 (s2 := (d, 42, 22, [some (.ref 30), some (.int v0)], [.int 0], 0, 0, (mSH, I, L))) rfl ?_
    refine mRt (r := (some (.int 0))) (h := (mSH, I, L)) rfl (mRet_int rfl) ?_
    exact h1 (of_decide_eq_true c0)
  · refine mB 3 (s2 := (d, 42, 9, [some (.ref 30), some (.int v0)], [.int (I 30 1), .int v0], 0, 0, (mSH, I, L))) rfl ?_
    refine mBr (s2 := (d, 42, 21, [some (.ref 30), some (.int v0)], [], 0, 0, (mSH, I, L))) (s3 := (d, 42, 12, [some (.ref 30), some (.int v0)], [], 0, 0, (mSH, I, L))) rfl (fun c1 => ?_) (fun c1 => ?_)
    · refine mB 1 (s2 := (d, 42, 22, [some (.ref 30), some (.int v0)], [.int 0], 0, 0, (mSH, I, L))) rfl ?_
      refine mRt (r := (some (.int 0))) (h := (mSH, I, L)) rfl (mRet_int rfl) ?_
      exact h2 (of_decide_eq_false c0) (of_decide_eq_true c1)
    · refine mB 3 (s2 := (d, 42, 17, [some (.ref 30), some (.int v0)], [.int v0, .ref 31], 0, 0, (mSH, I, L))) rfl ?_
      refine mRq (s2 := (d, 42, 18, [some (.ref 30), some (.int v0)], [.int (I 31 v0.toNatClampNeg)], 0, 0, (mSH, I, L))) rfl (mVp_of (h3 (of_decide_eq_false c0) (of_decide_eq_false c1))) ?_
      refine mB 1 (s2 := (d, 42, 22, [some (.ref 30), some (.int v0)], [.int (I 31 v0.toNatClampNeg)], 0, 0, (mSH, I, L))) rfl ?_
      refine mRt (r := (some (.int (I 31 v0.toNatClampNeg)))) (h := (mSH, I, L)) rfl (mRet_int rfl) ?_
      exact h4 (of_decide_eq_false c0) (of_decide_eq_false c1)
theorem w_at_30 {ro : Nat → Nat × (Nat → Int32)} {Q : mPo} {d : Nat} {I : Nat → Nat → Int32} {L : Nat → Nat → Int64} {v0 : Int32} (hc : mCn I 30 16) (hq : Q (some (.int (mAt I 30 31 v0))) (mSH, I, L)) : mWP mTb_ mFT ro (d, 42, 0, [some (.ref 30), some (.int v0)], [], 0, 0, (mSH, I, L)) Q := by
  unfold mAt at hq
  refine w_ats_30 (fun c => ?_) (fun c e => ?_) (fun c e => mVpI c e hc.hi) (fun c e => ?_)
  · rw [if_pos c] at hq; exact hq
  · rw [if_neg c, if_pos e] at hq; exact hq
  · rw [if_neg c, if_neg e] at hq; exact hq
theorem w_ats_32 {ro : Nat → Nat × (Nat → Int32)} {Q : mPo} {d : Nat} {I : Nat → Nat → Int32} {L : Nat → Nat → Int64} {v0 : Int32}  (h1 : (v0 < 0) → Q (some (.int 0)) (mSH, I, L)) (h2 : ¬ (v0 < 0) → ((I 32 1) ≤ v0) → Q (some (.int 0)) (mSH, I, L)) (h3 : ¬ (v0 < 0) → ¬ ((I 32 1) ≤ v0) → vp_in v0 8) (h4 : ¬ (v0 < 0) → ¬ ((I 32 1) ≤ v0) → Q (some (.int (I 33 v0.toNatClampNeg))) (mSH, I, L)) : mWP mTb_ mFT ro (d, 42, 0, [some (.ref 32), some (.int v0)], [], 0, 0, (mSH, I, L)) Q := by
  refine mB 1 (s2 := (d, 42, 1, [some (.ref 32), some (.int v0)], [.int v0], 0, 0, (mSH, I, L))) rfl ?_
  refine mBr (s2 := (d, 42, 21, [some (.ref 32), some (.int v0)], [], 0, 0, (mSH, I, L))) (s3 := (d, 42, 4, [some (.ref 32), some (.int v0)], [], 0, 0, (mSH, I, L))) rfl (fun c0 => ?_) (fun c0 => ?_)
  · refine mB 1 (s2 := (d, 42, 22, [some (.ref 32), some (.int v0)], [.int 0], 0, 0, (mSH, I, L))) rfl ?_
    refine mRt (r := (some (.int 0))) (h := (mSH, I, L)) rfl (mRet_int rfl) ?_
    exact h1 (of_decide_eq_true c0)
  · refine mB 3 (s2 := (d, 42, 9, [some (.ref 32), some (.int v0)], [.int (I 32 1), .int v0], 0, 0, (mSH, I, L))) rfl ?_
    refine mBr (s2 := (d, 42, 21, [some (.ref 32), some (.int v0)], [], 0, 0, (mSH, I, L))) (s3 := (d, 42, 12, [some (.ref 32), some (.int v0)], [], 0, 0, (mSH, I, L))) rfl (fun c1 => ?_) (fun c1 => ?_)
    · refine mB 1 (s2 := (d, 42, 22, [some (.ref 32), some (.int v0)], [.int 0], 0, 0, (mSH, I, L))) rfl ?_
      refine mRt (r := (some (.int 0))) (h := (mSH, I, L)) rfl (mRet_int rfl) ?_
      exact h2 (of_decide_eq_false c0) (of_decide_eq_true c1)
    · refine mB 3 (s2 := (d, 42, 17, [some (.ref 32), some (.int v0)], [.int v0, .ref 33], 0, 0, (mSH, I, L))) rfl ?_
      refine mRq (s2 := (d, 42, 18, [some (.ref 32), some (.int v0)], [.int (I 33 v0.toNatClampNeg)], 0, 0, (mSH, I, L))) rfl (mVp_of (h3 (of_decide_eq_false c0) (of_decide_eq_false c1))) ?_
      refine mB 1 (s2 := (d, 42, 22, [some (.ref 32), some (.int v0)], [.int (I 33 v0.toNatClampNeg)], 0, 0, (mSH, I, L))) rfl ?_
      refine mRt (r := (some (.int (I 33 v0.toNatClampNeg)))) (h := (mSH, I, L)) rfl (mRet_int rfl) ?_
      exact h4 (of_decide_eq_false c0) (of_decide_eq_false c1)
theorem w_at_32 {ro : Nat → Nat × (Nat → Int32)} {Q : mPo} {d : Nat} {I : Nat → Nat → Int32} {L : Nat → Nat → Int64} {v0 : Int32} (hc : mCn I 32 8) (hq : Q (some (.int (mAt I 32 33 v0))) (mSH, I, L)) : mWP mTb_ mFT ro (d, 42, 0, [some (.ref 32), some (.int v0)], [], 0, 0, (mSH, I, L)) Q := by
  unfold mAt at hq
  refine w_ats_32 (fun c => ?_) (fun c e => ?_) (fun c e => mVpI c e hc.hi) (fun c e => ?_)
  · rw [if_pos c] at hq; exact hq
  · rw [if_neg c, if_pos e] at hq; exact hq
  · rw [if_neg c, if_neg e] at hq; exact hq
theorem mCn_add {I : Nat → Nat → Int32} {q a n : Nat} (h : mCn I q n) {m : Int32} (hm : I q 1 < m) (e : m.toInt = n) {v : Int32} {z : Nat} : mCn (mUp (mUp I a z v) q 1 (I q 1 + 1)) q n := by
  have e0 : mUp (mUp I a z v) q 1 (I q 1 + 1) q 1 = I q 1 + 1 := by simp [mUp]
  obtain ⟨k, hk, ek⟩ := h.nat (by have := m.toInt_lt; omega)
  have := m.toInt_lt
  simp only [Int32.lt_iff_toInt_lt] at hm
  unfold mCn
  rw [e0, ek, nI_1]
  rw [ek, nI_toInt (by omega)] at hm
  rw [nI_toInt (by omega)]
  omega
theorem w_adds_2 {ro : Nat → Nat × (Nat → Int32)} {Q : mPo} {d : Nat} {I : Nat → Nat → Int32} {L : Nat → Nat → Int64} {v0 : Int32}  (h1 : ((I 2 1) < 16) → vp_in (I 2 1) 16) (h2 : ((I 2 1) < 16) → Q none (mSH, (mUp (mUp I 3 ((I 2 1).toNatClampNeg) v0) 2 1 ((I 2 1) + 1)), L)) (h3 : ¬ ((I 2 1) < 16) → Q none (mSH, I, L)) : mWP mTb_ mFT ro (d + 1, 44, 0, [some (.ref 2), some (.int v0)], [], 0, 0, (mSH, I, L)) Q := by
  refine mB 1 (s2 := (d + 1, 44, 1, [some (.ref 2), some (.int v0)], [.ref 2], 0, 0, (mSH, I, L))) rfl ?_
  refine mCall (s2 := (d, 40, 0, [some (.ref 2)], [], 0, 0, (mSH, I, L))) rfl ?_
  refine mB 5 (s2 := (d, 40, 9, [some (.ref 2)], [.int 16, .int (I 2 1)], 0, 0, (mSH, I, L))) rfl ?_
  refine mBr (s2 := (d, 40, 16, [some (.ref 2)], [], 0, 0, (mSH, I, L))) (s3 := (d, 40, 12, [some (.ref 2)], [], 0, 0, (mSH, I, L))) rfl (fun c0 => ?_) (fun c0 => ?_)
  · refine mB 1 (s2 := (d, 40, 17, [some (.ref 2)], [.int 0], 0, 0, (mSH, I, L))) rfl ?_
    refine mRt (r := (some (.int 0))) (h := (mSH, I, L)) rfl rfl ?_
    show mWP mTb_ mFT ro (d + 1, 44, 4, [some (.ref 2), some (.int v0)], [.int 0], 0, 0, (mSH, I, L)) _
    refine mBT (s2 := (d + 1, 44, 7, [some (.ref 2), some (.int v0)], [], 0, 0, (mSH, I, L))) rfl (by decide) ?_
    refine mB 5 (s2 := (d + 1, 44, 16, [some (.ref 2), some (.int v0)], [.int v0, .int (I 2 1), .ref 3], 0, 0, (mSH, I, L))) rfl ?_
    refine mRq (s2 := (d + 1, 44, 17, [some (.ref 2), some (.int v0)], [], 0, 0, (mSH, (mUp I 3 ((I 2 1).toNatClampNeg) v0), L))) rfl (mVp_of (h1 (of_decide_eq_true c0))) ?_
    refine mB 6 (s2 := (d + 1, 44, 27, [some (.ref 2), some (.int v0)], [], 0, 0, (mSH, (mUp (mUp I 3 ((I 2 1).toNatClampNeg) v0) 2 1 ((I 2 1) + 1)), L))) rfl ?_
    refine mRt (r := none) (h := (mSH, (mUp (mUp I 3 ((I 2 1).toNatClampNeg) v0) 2 1 ((I 2 1) + 1)), L)) rfl rfl ?_
    exact h2 (of_decide_eq_true c0)
  · refine mB 2 (s2 := (d, 40, 17, [some (.ref 2)], [.int 1], 0, 0, (mSH, I, L))) rfl ?_
    refine mRt (r := (some (.int 1))) (h := (mSH, I, L)) rfl rfl ?_
    show mWP mTb_ mFT ro (d + 1, 44, 4, [some (.ref 2), some (.int v0)], [.int 1], 0, 0, (mSH, I, L)) _
    refine mBF (s3 := (d + 1, 44, 27, [some (.ref 2), some (.int v0)], [], 0, 0, (mSH, I, L))) rfl (by decide) ?_
    refine mRt (r := none) (h := (mSH, I, L)) rfl rfl ?_
    exact h3 (of_decide_eq_false c0)
theorem w_add_2 {ro : Nat → Nat × (Nat → Int32)} {Q : mPo} {d : Nat} {I : Nat → Nat → Int32} {L : Nat → Nat → Int64} {v0 : Int32} (hc : mCn I 2 16) (hq : ∀ K, mCn K 2 16 → Q none (mSH, mMix [2, 3] I K, L)) : mWP mTb_ mFT ro (d + 1, 44, 0, [some (.ref 2), some (.int v0)], [], 0, 0, (mSH, I, L)) Q := by
  have fin : ∀ I', mFr [2, 3] I I' → mCn I' 2 16 → Q none (mSH, I', L) := fun I' f c => by
    have z := hq I' c
    rw [f.eq] at z
    exact z
  apply w_adds_2
  all_goals intros
  all_goals first
    | exact fin _ mFr.rf hc
    | exact mVpC hc (by assumption) rfl
    | (refine fin _ (mFr.up (by rfl) (mFr.up (by rfl) mFr.rf)) ?_
       rename_i c
       exact mCn_add hc c rfl)
theorem w_adds_4 {ro : Nat → Nat × (Nat → Int32)} {Q : mPo} {d : Nat} {I : Nat → Nat → Int32} {L : Nat → Nat → Int64} {v0 : Int32}  (h1 : ((I 4 1) < 8) → vp_in (I 4 1) 8) (h2 : ((I 4 1) < 8) → Q none (mSH, (mUp (mUp I 5 ((I 4 1).toNatClampNeg) v0) 4 1 ((I 4 1) + 1)), L)) (h3 : ¬ ((I 4 1) < 8) → Q none (mSH, I, L)) : mWP mTb_ mFT ro (d + 1, 44, 0, [some (.ref 4), some (.int v0)], [], 0, 0, (mSH, I, L)) Q := by
  refine mB 1 (s2 := (d + 1, 44, 1, [some (.ref 4), some (.int v0)], [.ref 4], 0, 0, (mSH, I, L))) rfl ?_
  refine mCall (s2 := (d, 40, 0, [some (.ref 4)], [], 0, 0, (mSH, I, L))) rfl ?_
  refine mB 5 (s2 := (d, 40, 9, [some (.ref 4)], [.int 8, .int (I 4 1)], 0, 0, (mSH, I, L))) rfl ?_
  refine mBr (s2 := (d, 40, 16, [some (.ref 4)], [], 0, 0, (mSH, I, L))) (s3 := (d, 40, 12, [some (.ref 4)], [], 0, 0, (mSH, I, L))) rfl (fun c0 => ?_) (fun c0 => ?_)
  · refine mB 1 (s2 := (d, 40, 17, [some (.ref 4)], [.int 0], 0, 0, (mSH, I, L))) rfl ?_
    refine mRt (r := (some (.int 0))) (h := (mSH, I, L)) rfl rfl ?_
    show mWP mTb_ mFT ro (d + 1, 44, 4, [some (.ref 4), some (.int v0)], [.int 0], 0, 0, (mSH, I, L)) _
    refine mBT (s2 := (d + 1, 44, 7, [some (.ref 4), some (.int v0)], [], 0, 0, (mSH, I, L))) rfl (by decide) ?_
    refine mB 5 (s2 := (d + 1, 44, 16, [some (.ref 4), some (.int v0)], [.int v0, .int (I 4 1), .ref 5], 0, 0, (mSH, I, L))) rfl ?_
    refine mRq (s2 := (d + 1, 44, 17, [some (.ref 4), some (.int v0)], [], 0, 0, (mSH, (mUp I 5 ((I 4 1).toNatClampNeg) v0), L))) rfl (mVp_of (h1 (of_decide_eq_true c0))) ?_
    refine mB 6 (s2 := (d + 1, 44, 27, [some (.ref 4), some (.int v0)], [], 0, 0, (mSH, (mUp (mUp I 5 ((I 4 1).toNatClampNeg) v0) 4 1 ((I 4 1) + 1)), L))) rfl ?_
    refine mRt (r := none) (h := (mSH, (mUp (mUp I 5 ((I 4 1).toNatClampNeg) v0) 4 1 ((I 4 1) + 1)), L)) rfl rfl ?_
    exact h2 (of_decide_eq_true c0)
  · refine mB 2 (s2 := (d, 40, 17, [some (.ref 4)], [.int 1], 0, 0, (mSH, I, L))) rfl ?_
    refine mRt (r := (some (.int 1))) (h := (mSH, I, L)) rfl rfl ?_
    show mWP mTb_ mFT ro (d + 1, 44, 4, [some (.ref 4), some (.int v0)], [.int 1], 0, 0, (mSH, I, L)) _
    refine mBF (s3 := (d + 1, 44, 27, [some (.ref 4), some (.int v0)], [], 0, 0, (mSH, I, L))) rfl (by decide) ?_
    refine mRt (r := none) (h := (mSH, I, L)) rfl rfl ?_
    exact h3 (of_decide_eq_false c0)
theorem w_add_4 {ro : Nat → Nat × (Nat → Int32)} {Q : mPo} {d : Nat} {I : Nat → Nat → Int32} {L : Nat → Nat → Int64} {v0 : Int32} (hc : mCn I 4 8) (hq : ∀ K, mCn K 4 8 → Q none (mSH, mMix [4, 5] I K, L)) : mWP mTb_ mFT ro (d + 1, 44, 0, [some (.ref 4), some (.int v0)], [], 0, 0, (mSH, I, L)) Q := by
  have fin : ∀ I', mFr [4, 5] I I' → mCn I' 4 8 → Q none (mSH, I', L) := fun I' f c => by
    have z := hq I' c
    rw [f.eq] at z
    exact z
  apply w_adds_4
  all_goals intros
  all_goals first
    | exact fin _ mFr.rf hc
    | exact mVpC hc (by assumption) rfl
    | (refine fin _ (mFr.up (by rfl) (mFr.up (by rfl) mFr.rf)) ?_
       rename_i c
       exact mCn_add hc c rfl)
theorem w_adds_23 {ro : Nat → Nat × (Nat → Int32)} {Q : mPo} {d : Nat} {I : Nat → Nat → Int32} {L : Nat → Nat → Int64} {v0 : Int32}  (h1 : ((I 23 1) < 8) → vp_in (I 23 1) 8) (h2 : ((I 23 1) < 8) → Q none (mSH, (mUp (mUp I 24 ((I 23 1).toNatClampNeg) v0) 23 1 ((I 23 1) + 1)), L)) (h3 : ¬ ((I 23 1) < 8) → Q none (mSH, I, L)) : mWP mTb_ mFT ro (d + 1, 44, 0, [some (.ref 23), some (.int v0)], [], 0, 0, (mSH, I, L)) Q := by
  refine mB 1 (s2 := (d + 1, 44, 1, [some (.ref 23), some (.int v0)], [.ref 23], 0, 0, (mSH, I, L))) rfl ?_
  refine mCall (s2 := (d, 40, 0, [some (.ref 23)], [], 0, 0, (mSH, I, L))) rfl ?_
  refine mB 5 (s2 := (d, 40, 9, [some (.ref 23)], [.int 8, .int (I 23 1)], 0, 0, (mSH, I, L))) rfl ?_
  refine mBr (s2 := (d, 40, 16, [some (.ref 23)], [], 0, 0, (mSH, I, L))) (s3 := (d, 40, 12, [some (.ref 23)], [], 0, 0, (mSH, I, L))) rfl (fun c0 => ?_) (fun c0 => ?_)
  · refine mB 1 (s2 := (d, 40, 17, [some (.ref 23)], [.int 0], 0, 0, (mSH, I, L))) rfl ?_
    refine mRt (r := (some (.int 0))) (h := (mSH, I, L)) rfl rfl ?_
    show mWP mTb_ mFT ro (d + 1, 44, 4, [some (.ref 23), some (.int v0)], [.int 0], 0, 0, (mSH, I, L)) _
    refine mBT (s2 := (d + 1, 44, 7, [some (.ref 23), some (.int v0)], [], 0, 0, (mSH, I, L))) rfl (by decide) ?_
    refine mB 5 (s2 := (d + 1, 44, 16, [some (.ref 23), some (.int v0)], [.int v0, .int (I 23 1), .ref 24], 0, 0, (mSH, I, L))) rfl ?_
    refine mRq (s2 := (d + 1, 44, 17, [some (.ref 23), some (.int v0)], [], 0, 0, (mSH, (mUp I 24 ((I 23 1).toNatClampNeg) v0), L))) rfl (mVp_of (h1 (of_decide_eq_true c0))) ?_
    refine mB 6 (s2 := (d + 1, 44, 27, [some (.ref 23), some (.int v0)], [], 0, 0, (mSH, (mUp (mUp I 24 ((I 23 1).toNatClampNeg) v0) 23 1 ((I 23 1) + 1)), L))) rfl ?_
    refine mRt (r := none) (h := (mSH, (mUp (mUp I 24 ((I 23 1).toNatClampNeg) v0) 23 1 ((I 23 1) + 1)), L)) rfl rfl ?_
    exact h2 (of_decide_eq_true c0)
  · refine mB 2 (s2 := (d, 40, 17, [some (.ref 23)], [.int 1], 0, 0, (mSH, I, L))) rfl ?_
    refine mRt (r := (some (.int 1))) (h := (mSH, I, L)) rfl rfl ?_
    show mWP mTb_ mFT ro (d + 1, 44, 4, [some (.ref 23), some (.int v0)], [.int 1], 0, 0, (mSH, I, L)) _
    refine mBF (s3 := (d + 1, 44, 27, [some (.ref 23), some (.int v0)], [], 0, 0, (mSH, I, L))) rfl (by decide) ?_
    refine mRt (r := none) (h := (mSH, I, L)) rfl rfl ?_
    exact h3 (of_decide_eq_false c0)
theorem w_add_23 {ro : Nat → Nat × (Nat → Int32)} {Q : mPo} {d : Nat} {I : Nat → Nat → Int32} {L : Nat → Nat → Int64} {v0 : Int32} (hc : mCn I 23 8) (hq : ∀ K, mCn K 23 8 → Q none (mSH, mMix [23, 24] I K, L)) : mWP mTb_ mFT ro (d + 1, 44, 0, [some (.ref 23), some (.int v0)], [], 0, 0, (mSH, I, L)) Q := by
  have fin : ∀ I', mFr [23, 24] I I' → mCn I' 23 8 → Q none (mSH, I', L) := fun I' f c => by
    have z := hq I' c
    rw [f.eq] at z
    exact z
  apply w_adds_23
  all_goals intros
  all_goals first
    | exact fin _ mFr.rf hc
    | exact mVpC hc (by assumption) rfl
    | (refine fin _ (mFr.up (by rfl) (mFr.up (by rfl) mFr.rf)) ?_
       rename_i c
       exact mCn_add hc c rfl)
theorem w_adds_26 {ro : Nat → Nat × (Nat → Int32)} {Q : mPo} {d : Nat} {I : Nat → Nat → Int32} {L : Nat → Nat → Int64} {v0 : Int32}  (h1 : ((I 26 1) < 120) → vp_in (I 26 1) 120) (h2 : ((I 26 1) < 120) → Q none (mSH, (mUp (mUp I 27 ((I 26 1).toNatClampNeg) v0) 26 1 ((I 26 1) + 1)), L)) (h3 : ¬ ((I 26 1) < 120) → Q none (mSH, I, L)) : mWP mTb_ mFT ro (d + 1, 44, 0, [some (.ref 26), some (.int v0)], [], 0, 0, (mSH, I, L)) Q := by
  refine mB 1 (s2 := (d + 1, 44, 1, [some (.ref 26), some (.int v0)], [.ref 26], 0, 0, (mSH, I, L))) rfl ?_
  refine mCall (s2 := (d, 40, 0, [some (.ref 26)], [], 0, 0, (mSH, I, L))) rfl ?_
  refine mB 5 (s2 := (d, 40, 9, [some (.ref 26)], [.int 120, .int (I 26 1)], 0, 0, (mSH, I, L))) rfl ?_
  refine mBr (s2 := (d, 40, 16, [some (.ref 26)], [], 0, 0, (mSH, I, L))) (s3 := (d, 40, 12, [some (.ref 26)], [], 0, 0, (mSH, I, L))) rfl (fun c0 => ?_) (fun c0 => ?_)
  · refine mB 1 (s2 := (d, 40, 17, [some (.ref 26)], [.int 0], 0, 0, (mSH, I, L))) rfl ?_
    refine mRt (r := (some (.int 0))) (h := (mSH, I, L)) rfl rfl ?_
    show mWP mTb_ mFT ro (d + 1, 44, 4, [some (.ref 26), some (.int v0)], [.int 0], 0, 0, (mSH, I, L)) _
    refine mBT (s2 := (d + 1, 44, 7, [some (.ref 26), some (.int v0)], [], 0, 0, (mSH, I, L))) rfl (by decide) ?_
    refine mB 5 (s2 := (d + 1, 44, 16, [some (.ref 26), some (.int v0)], [.int v0, .int (I 26 1), .ref 27], 0, 0, (mSH, I, L))) rfl ?_
    refine mRq (s2 := (d + 1, 44, 17, [some (.ref 26), some (.int v0)], [], 0, 0, (mSH, (mUp I 27 ((I 26 1).toNatClampNeg) v0), L))) rfl (mVp_of (h1 (of_decide_eq_true c0))) ?_
    refine mB 6 (s2 := (d + 1, 44, 27, [some (.ref 26), some (.int v0)], [], 0, 0, (mSH, (mUp (mUp I 27 ((I 26 1).toNatClampNeg) v0) 26 1 ((I 26 1) + 1)), L))) rfl ?_
    refine mRt (r := none) (h := (mSH, (mUp (mUp I 27 ((I 26 1).toNatClampNeg) v0) 26 1 ((I 26 1) + 1)), L)) rfl rfl ?_
    exact h2 (of_decide_eq_true c0)
  · refine mB 2 (s2 := (d, 40, 17, [some (.ref 26)], [.int 1], 0, 0, (mSH, I, L))) rfl ?_
    refine mRt (r := (some (.int 1))) (h := (mSH, I, L)) rfl rfl ?_
    show mWP mTb_ mFT ro (d + 1, 44, 4, [some (.ref 26), some (.int v0)], [.int 1], 0, 0, (mSH, I, L)) _
    refine mBF (s3 := (d + 1, 44, 27, [some (.ref 26), some (.int v0)], [], 0, 0, (mSH, I, L))) rfl (by decide) ?_
    refine mRt (r := none) (h := (mSH, I, L)) rfl rfl ?_
    exact h3 (of_decide_eq_false c0)
theorem w_add_26 {ro : Nat → Nat × (Nat → Int32)} {Q : mPo} {d : Nat} {I : Nat → Nat → Int32} {L : Nat → Nat → Int64} {v0 : Int32} (hc : mCn I 26 120) (hq : ∀ K, mCn K 26 120 → Q none (mSH, mMix [26, 27] I K, L)) : mWP mTb_ mFT ro (d + 1, 44, 0, [some (.ref 26), some (.int v0)], [], 0, 0, (mSH, I, L)) Q := by
  have fin : ∀ I', mFr [26, 27] I I' → mCn I' 26 120 → Q none (mSH, I', L) := fun I' f c => by
    have z := hq I' c
    rw [f.eq] at z
    exact z
  apply w_adds_26
  all_goals intros
  all_goals first
    | exact fin _ mFr.rf hc
    | exact mVpC hc (by assumption) rfl
    | (refine fin _ (mFr.up (by rfl) (mFr.up (by rfl) mFr.rf)) ?_
       rename_i c
       exact mCn_add hc c rfl)
theorem w_adds_30 {ro : Nat → Nat × (Nat → Int32)} {Q : mPo} {d : Nat} {I : Nat → Nat → Int32} {L : Nat → Nat → Int64} {v0 : Int32}  (h1 : ((I 30 1) < 16) → vp_in (I 30 1) 16) (h2 : ((I 30 1) < 16) → Q none (mSH, (mUp (mUp I 31 ((I 30 1).toNatClampNeg) v0) 30 1 ((I 30 1) + 1)), L)) (h3 : ¬ ((I 30 1) < 16) → Q none (mSH, I, L)) : mWP mTb_ mFT ro (d + 1, 44, 0, [some (.ref 30), some (.int v0)], [], 0, 0, (mSH, I, L)) Q := by
  refine mB 1 (s2 := (d + 1, 44, 1, [some (.ref 30), some (.int v0)], [.ref 30], 0, 0, (mSH, I, L))) rfl ?_
  refine mCall (s2 := (d, 40, 0, [some (.ref 30)], [], 0, 0, (mSH, I, L))) rfl ?_
  refine mB 5 (s2 := (d, 40, 9, [some (.ref 30)], [.int 16, .int (I 30 1)], 0, 0, (mSH, I, L))) rfl ?_
  refine mBr (s2 := (d, 40, 16, [some (.ref 30)], [], 0, 0, (mSH, I, L))) (s3 := (d, 40, 12, [some (.ref 30)], [], 0, 0, (mSH, I, L))) rfl (fun c0 => ?_) (fun c0 => ?_)
  · refine mB 1 (s2 := (d, 40, 17, [some (.ref 30)], [.int 0], 0, 0, (mSH, I, L))) rfl ?_
    refine mRt (r := (some (.int 0))) (h := (mSH, I, L)) rfl rfl ?_
    show mWP mTb_ mFT ro (d + 1, 44, 4, [some (.ref 30), some (.int v0)], [.int 0], 0, 0, (mSH, I, L)) _
    refine mBT (s2 := (d + 1, 44, 7, [some (.ref 30), some (.int v0)], [], 0, 0, (mSH, I, L))) rfl (by decide) ?_
    refine mB 5 (s2 := (d + 1, 44, 16, [some (.ref 30), some (.int v0)], [.int v0, .int (I 30 1), .ref 31], 0, 0, (mSH, I, L))) rfl ?_
    refine mRq (s2 := (d + 1, 44, 17, [some (.ref 30), some (.int v0)], [], 0, 0, (mSH, (mUp I 31 ((I 30 1).toNatClampNeg) v0), L))) rfl (mVp_of (h1 (of_decide_eq_true c0))) ?_
    refine mB 6 (s2 := (d + 1, 44, 27, [some (.ref 30), some (.int v0)], [], 0, 0, (mSH, (mUp (mUp I 31 ((I 30 1).toNatClampNeg) v0) 30 1 ((I 30 1) + 1)), L))) rfl ?_
    refine mRt (r := none) (h := (mSH, (mUp (mUp I 31 ((I 30 1).toNatClampNeg) v0) 30 1 ((I 30 1) + 1)), L)) rfl rfl ?_
    exact h2 (of_decide_eq_true c0)
  · refine mB 2 (s2 := (d, 40, 17, [some (.ref 30)], [.int 1], 0, 0, (mSH, I, L))) rfl ?_
    refine mRt (r := (some (.int 1))) (h := (mSH, I, L)) rfl rfl ?_
    show mWP mTb_ mFT ro (d + 1, 44, 4, [some (.ref 30), some (.int v0)], [.int 1], 0, 0, (mSH, I, L)) _
    refine mBF (s3 := (d + 1, 44, 27, [some (.ref 30), some (.int v0)], [], 0, 0, (mSH, I, L))) rfl (by decide) ?_
    refine mRt (r := none) (h := (mSH, I, L)) rfl rfl ?_
    exact h3 (of_decide_eq_false c0)
theorem w_add_30 {ro : Nat → Nat × (Nat → Int32)} {Q : mPo} {d : Nat} {I : Nat → Nat → Int32} {L : Nat → Nat → Int64} {v0 : Int32} (hc : mCn I 30 16) (hq : ∀ K, mCn K 30 16 → Q none (mSH, mMix [30, 31] I K, L)) : mWP mTb_ mFT ro (d + 1, 44, 0, [some (.ref 30), some (.int v0)], [], 0, 0, (mSH, I, L)) Q := by
  have fin : ∀ I', mFr [30, 31] I I' → mCn I' 30 16 → Q none (mSH, I', L) := fun I' f c => by
    have z := hq I' c
    rw [f.eq] at z
    exact z
  apply w_adds_30
  all_goals intros
  all_goals first
    | exact fin _ mFr.rf hc
    | exact mVpC hc (by assumption) rfl
    | (refine fin _ (mFr.up (by rfl) (mFr.up (by rfl) mFr.rf)) ?_
       rename_i c
       exact mCn_add hc c rfl)
theorem w_adds_32 {ro : Nat → Nat × (Nat → Int32)} {Q : mPo} {d : Nat} {I : Nat → Nat → Int32} {L : Nat → Nat → Int64} {v0 : Int32}  (h1 : ((I 32 1) < 8) → vp_in (I 32 1) 8) (h2 : ((I 32 1) < 8) → Q none (mSH, (mUp (mUp I 33 ((I 32 1).toNatClampNeg) v0) 32 1 ((I 32 1) + 1)), L)) (h3 : ¬ ((I 32 1) < 8) → Q none (mSH, I, L)) : mWP mTb_ mFT ro (d + 1, 44, 0, [some (.ref 32), some (.int v0)], [], 0, 0, (mSH, I, L)) Q := by
  refine mB 1 (s2 := (d + 1, 44, 1, [some (.ref 32), some (.int v0)], [.ref 32], 0, 0, (mSH, I, L))) rfl ?_
  refine mCall (s2 := (d, 40, 0, [some (.ref 32)], [], 0, 0, (mSH, I, L))) rfl ?_
  refine mB 5 (s2 := (d, 40, 9, [some (.ref 32)], [.int 8, .int (I 32 1)], 0, 0, (mSH, I, L))) rfl ?_
  refine mBr (s2 := (d, 40, 16, [some (.ref 32)], [], 0, 0, (mSH, I, L))) (s3 := (d, 40, 12, [some (.ref 32)], [], 0, 0, (mSH, I, L))) rfl (fun c0 => ?_) (fun c0 => ?_)
  · refine mB 1 (s2 := (d, 40, 17, [some (.ref 32)], [.int 0], 0, 0, (mSH, I, L))) rfl ?_
    refine mRt (r := (some (.int 0))) (h := (mSH, I, L)) rfl rfl ?_
    show mWP mTb_ mFT ro (d + 1, 44, 4, [some (.ref 32), some (.int v0)], [.int 0], 0, 0, (mSH, I, L)) _
    refine mBT (s2 := (d + 1, 44, 7, [some (.ref 32), some (.int v0)], [], 0, 0, (mSH, I, L))) rfl (by decide) ?_
    refine mB 5 (s2 := (d + 1, 44, 16, [some (.ref 32), some (.int v0)], [.int v0, .int (I 32 1), .ref 33], 0, 0, (mSH, I, L))) rfl ?_
    refine mRq (s2 := (d + 1, 44, 17, [some (.ref 32), some (.int v0)], [], 0, 0, (mSH, (mUp I 33 ((I 32 1).toNatClampNeg) v0), L))) rfl (mVp_of (h1 (of_decide_eq_true c0))) ?_
    refine mB 6 (s2 := (d + 1, 44, 27, [some (.ref 32), some (.int v0)], [], 0, 0, (mSH, (mUp (mUp I 33 ((I 32 1).toNatClampNeg) v0) 32 1 ((I 32 1) + 1)), L))) rfl ?_
    refine mRt (r := none) (h := (mSH, (mUp (mUp I 33 ((I 32 1).toNatClampNeg) v0) 32 1 ((I 32 1) + 1)), L)) rfl rfl ?_
    exact h2 (of_decide_eq_true c0)
  · refine mB 2 (s2 := (d, 40, 17, [some (.ref 32)], [.int 1], 0, 0, (mSH, I, L))) rfl ?_
    refine mRt (r := (some (.int 1))) (h := (mSH, I, L)) rfl rfl ?_
    show mWP mTb_ mFT ro (d + 1, 44, 4, [some (.ref 32), some (.int v0)], [.int 1], 0, 0, (mSH, I, L)) _
    refine mBF (s3 := (d + 1, 44, 27, [some (.ref 32), some (.int v0)], [], 0, 0, (mSH, I, L))) rfl (by decide) ?_
    refine mRt (r := none) (h := (mSH, I, L)) rfl rfl ?_
    exact h3 (of_decide_eq_false c0)
theorem w_add_32 {ro : Nat → Nat × (Nat → Int32)} {Q : mPo} {d : Nat} {I : Nat → Nat → Int32} {L : Nat → Nat → Int64} {v0 : Int32} (hc : mCn I 32 8) (hq : ∀ K, mCn K 32 8 → Q none (mSH, mMix [32, 33] I K, L)) : mWP mTb_ mFT ro (d + 1, 44, 0, [some (.ref 32), some (.int v0)], [], 0, 0, (mSH, I, L)) Q := by
  have fin : ∀ I', mFr [32, 33] I I' → mCn I' 32 8 → Q none (mSH, I', L) := fun I' f c => by
    have z := hq I' c
    rw [f.eq] at z
    exact z
  apply w_adds_32
  all_goals intros
  all_goals first
    | exact fin _ mFr.rf hc
    | exact mVpC hc (by assumption) rfl
    | (refine fin _ (mFr.up (by rfl) (mFr.up (by rfl) mFr.rf)) ?_
       rename_i c
       exact mCn_add hc c rfl)
theorem s_total_2 {ro : Nat → Nat × (Nat → Int32)} {Q : mPo} {d : Nat} {I : Nat → Nat → Int32} {L : Nat → Nat → Int64} {e : Int32} {s : Int32} {x0 : Int32}  (h1 : ((I 2 1) ≤ x0) → Q (some (.int s)) (mSH, I, L)) (h2 : ¬ ((I 2 1) ≤ x0) → (e ≤ x0) → Q (some (.int s)) (mSH, I, L)) (h3 : ¬ ((I 2 1) ≤ x0) → ¬ (e ≤ x0) → vp_in x0 16) (h4 : ¬ ((I 2 1) ≤ x0) → ¬ (e ≤ x0) → mWP mTb_ mFT ro (d, 47, 4, [some (.ref 2), some (.int e), some (.int (s + (I 3 x0.toNatClampNeg))), some (.int (x0 + 1))], [], 0, 0, (mSH, I, L)) Q) : mWP mTb_ mFT ro (d, 47, 4, [some (.ref 2), some (.int e), some (.int s), some (.int x0)], [], 0, 0, (mSH, I, L)) Q := by
  refine mB 3 (s2 := (d, 47, 9, [some (.ref 2), some (.int e), some (.int s), some (.int x0)], [.int (I 2 1), .int x0], 0, 0, (mSH, I, L))) rfl ?_
  refine mBr (s2 := (d, 47, 32, [some (.ref 2), some (.int e), some (.int s), some (.int x0)], [], 0, 0, (mSH, I, L))) (s3 := (d, 47, 12, [some (.ref 2), some (.int e), some (.int s), some (.int x0)], [], 0, 0, (mSH, I, L))) rfl (fun c0 => ?_) (fun c0 => ?_)
  · refine mB 1 (s2 := (d, 47, 33, [some (.ref 2), some (.int e), some (.int s), some (.int x0)], [.int s], 0, 0, (mSH, I, L))) rfl ?_
    refine mRt (r := (some (.int s))) (h := (mSH, I, L)) rfl (mRet_int rfl) ?_
    exact h1 (of_decide_eq_true c0)
  · refine mB 2 (s2 := (d, 47, 14, [some (.ref 2), some (.int e), some (.int s), some (.int x0)], [.int e, .int x0], 0, 0, (mSH, I, L))) rfl ?_
    refine mBr (s2 := (d, 47, 32, [some (.ref 2), some (.int e), some (.int s), some (.int x0)], [], 0, 0, (mSH, I, L))) (s3 := (d, 47, 17, [some (.ref 2), some (.int e), some (.int s), some (.int x0)], [], 0, 0, (mSH, I, L))) rfl (fun c1 => ?_) (fun c1 => ?_)
    · refine mB 1 (s2 := (d, 47, 33, [some (.ref 2), some (.int e), some (.int s), some (.int x0)], [.int s], 0, 0, (mSH, I, L))) rfl ?_
      refine mRt (r := (some (.int s))) (h := (mSH, I, L)) rfl (mRet_int rfl) ?_
      exact h2 (of_decide_eq_false c0) (of_decide_eq_true c1)
    · refine mB 4 (s2 := (d, 47, 23, [some (.ref 2), some (.int e), some (.int s), some (.int x0)], [.int x0, .ref 3, .int s], 0, 0, (mSH, I, L))) rfl ?_
      refine mRq (s2 := (d, 47, 24, [some (.ref 2), some (.int e), some (.int s), some (.int x0)], [.int (I 3 x0.toNatClampNeg), .int s], 0, 0, (mSH, I, L))) rfl (mVp_of (h3 (of_decide_eq_false c0) (of_decide_eq_false c1))) ?_
      refine mB 4 (s2 := (d, 47, 4, [some (.ref 2), some (.int e), some (.int (s + (I 3 x0.toNatClampNeg))), some (.int (x0 + 1))], [], 0, 0, (mSH, I, L))) rfl ?_
      exact h4 (of_decide_eq_false c0) (of_decide_eq_false c1)
theorem l_total_2 {ro : Nat → Nat × (Nat → Int32)} {Q : mPo} {d : Nat} {I : Nat → Nat → Int32} {L : Nat → Nat → Int64} {e : Int32} (hc : mCn I 2 16) (hq : ∀ r, Q (some (.int r)) (mSH, I, L)) (m : Nat) : ∀ (k : Nat) (s : Int32), (I 2 1).toInt ≤ k + m → k < 2 ^ 31 → mWP mTb_ mFT ro (d, 47, 4, [some (.ref 2), some (.int e), some (.int s), some (.int (nI k))], [], 0, 0, (mSH, I, L)) Q := by
  induction m with
  | zero =>
    intro k s hm hk
    have z : I 2 1 ≤ nI k := (mLeI hk).mpr (by omega)
    apply s_total_2 <;> intros <;> first | exact hq _ | exact absurd z (by assumption)
  | succ m ih =>
    intro k s hm hk
    by_cases z : I 2 1 ≤ nI k
    · apply s_total_2 <;> intros <;> first | exact hq _ | exact absurd z (by assumption)
    · have hk1 : k + 1 < 2 ^ 31 := mLe1 hk z
      apply s_total_2 <;> intros <;> first | exact absurd (by assumption) z | exact hq _ | exact mVpk hk (by assumption) hc.hi | (rw [nI_1]; exact ih (k + 1) _ (by omega) hk1)
theorem w_total_2 {ro : Nat → Nat × (Nat → Int32)} {Q : mPo} {d : Nat} {I : Nat → Nat → Int32} {L : Nat → Nat → Int64} {v0 : Int32} (hc : mCn I 2 16) (hq : ∀ r, Q (some (.int r)) (mSH, I, L))  : mWP mTb_ mFT ro (d, 47, 0, [some (.ref 2), some (.int v0), none, none], [], 0, 0, (mSH, I, L)) Q := by
  refine mB 4 (s2 := (d, 47, 4, [some (.ref 2), some (.int v0), some (.int 0), some (.int 0)], [], 0, 0, (mSH, I, L))) rfl ?_
  exact l_total_2 hc hq 2147483648 0 _ (by have := (I 2 1).toInt_lt; omega) (by omega)
theorem s_total_4 {ro : Nat → Nat × (Nat → Int32)} {Q : mPo} {d : Nat} {I : Nat → Nat → Int32} {L : Nat → Nat → Int64} {e : Int32} {s : Int32} {x0 : Int32}  (h1 : ((I 4 1) ≤ x0) → Q (some (.int s)) (mSH, I, L)) (h2 : ¬ ((I 4 1) ≤ x0) → (e ≤ x0) → Q (some (.int s)) (mSH, I, L)) (h3 : ¬ ((I 4 1) ≤ x0) → ¬ (e ≤ x0) → vp_in x0 8) (h4 : ¬ ((I 4 1) ≤ x0) → ¬ (e ≤ x0) → mWP mTb_ mFT ro (d, 47, 4, [some (.ref 4), some (.int e), some (.int (s + (I 5 x0.toNatClampNeg))), some (.int (x0 + 1))], [], 0, 0, (mSH, I, L)) Q) : mWP mTb_ mFT ro (d, 47, 4, [some (.ref 4), some (.int e), some (.int s), some (.int x0)], [], 0, 0, (mSH, I, L)) Q := by
  refine mB 3 (s2 := (d, 47, 9, [some (.ref 4), some (.int e), some (.int s), some (.int x0)], [.int (I 4 1), .int x0], 0, 0, (mSH, I, L))) rfl ?_
  refine mBr (s2 := (d, 47, 32, [some (.ref 4), some (.int e), some (.int s), some (.int x0)], [], 0, 0, (mSH, I, L))) (s3 := (d, 47, 12, [some (.ref 4), some (.int e), some (.int s), some (.int x0)], [], 0, 0, (mSH, I, L))) rfl (fun c0 => ?_) (fun c0 => ?_)
  · refine mB 1 (s2 := (d, 47, 33, [some (.ref 4), some (.int e), some (.int s), some (.int x0)], [.int s], 0, 0, (mSH, I, L))) rfl ?_
    refine mRt (r := (some (.int s))) (h := (mSH, I, L)) rfl (mRet_int rfl) ?_
    exact h1 (of_decide_eq_true c0)
  · refine mB 2 (s2 := (d, 47, 14, [some (.ref 4), some (.int e), some (.int s), some (.int x0)], [.int e, .int x0], 0, 0, (mSH, I, L))) rfl ?_
    refine mBr (s2 := (d, 47, 32, [some (.ref 4), some (.int e), some (.int s), some (.int x0)], [], 0, 0, (mSH, I, L))) (s3 := (d, 47, 17, [some (.ref 4), some (.int e), some (.int s), some (.int x0)], [], 0, 0, (mSH, I, L))) rfl (fun c1 => ?_) (fun c1 => ?_)
    · refine mB 1 (s2 := (d, 47, 33, [some (.ref 4), some (.int e), some (.int s), some (.int x0)], [.int s], 0, 0, (mSH, I, L))) rfl ?_
      refine mRt (r := (some (.int s))) (h := (mSH, I, L)) rfl (mRet_int rfl) ?_
      exact h2 (of_decide_eq_false c0) (of_decide_eq_true c1)
    · refine mB 4 (s2 := (d, 47, 23, [some (.ref 4), some (.int e), some (.int s), some (.int x0)], [.int x0, .ref 5, .int s], 0, 0, (mSH, I, L))) rfl ?_
      refine mRq (s2 := (d, 47, 24, [some (.ref 4), some (.int e), some (.int s), some (.int x0)], [.int (I 5 x0.toNatClampNeg), .int s], 0, 0, (mSH, I, L))) rfl (mVp_of (h3 (of_decide_eq_false c0) (of_decide_eq_false c1))) ?_
      refine mB 4 (s2 := (d, 47, 4, [some (.ref 4), some (.int e), some (.int (s + (I 5 x0.toNatClampNeg))), some (.int (x0 + 1))], [], 0, 0, (mSH, I, L))) rfl ?_
      exact h4 (of_decide_eq_false c0) (of_decide_eq_false c1)
theorem l_total_4 {ro : Nat → Nat × (Nat → Int32)} {Q : mPo} {d : Nat} {I : Nat → Nat → Int32} {L : Nat → Nat → Int64} {e : Int32} (hc : mCn I 4 8) (hq : ∀ r, Q (some (.int r)) (mSH, I, L)) (m : Nat) : ∀ (k : Nat) (s : Int32), (I 4 1).toInt ≤ k + m → k < 2 ^ 31 → mWP mTb_ mFT ro (d, 47, 4, [some (.ref 4), some (.int e), some (.int s), some (.int (nI k))], [], 0, 0, (mSH, I, L)) Q := by
  induction m with
  | zero =>
    intro k s hm hk
    have z : I 4 1 ≤ nI k := (mLeI hk).mpr (by omega)
    apply s_total_4 <;> intros <;> first | exact hq _ | exact absurd z (by assumption)
  | succ m ih =>
    intro k s hm hk
    by_cases z : I 4 1 ≤ nI k
    · apply s_total_4 <;> intros <;> first | exact hq _ | exact absurd z (by assumption)
    · have hk1 : k + 1 < 2 ^ 31 := mLe1 hk z
      apply s_total_4 <;> intros <;> first | exact absurd (by assumption) z | exact hq _ | exact mVpk hk (by assumption) hc.hi | (rw [nI_1]; exact ih (k + 1) _ (by omega) hk1)
theorem w_total_4 {ro : Nat → Nat × (Nat → Int32)} {Q : mPo} {d : Nat} {I : Nat → Nat → Int32} {L : Nat → Nat → Int64} {v0 : Int32} (hc : mCn I 4 8) (hq : ∀ r, Q (some (.int r)) (mSH, I, L))  : mWP mTb_ mFT ro (d, 47, 0, [some (.ref 4), some (.int v0), none, none], [], 0, 0, (mSH, I, L)) Q := by
  refine mB 4 (s2 := (d, 47, 4, [some (.ref 4), some (.int v0), some (.int 0), some (.int 0)], [], 0, 0, (mSH, I, L))) rfl ?_
  exact l_total_4 hc hq 2147483648 0 _ (by have := (I 4 1).toInt_lt; omega) (by omega)
theorem s_total_23 {ro : Nat → Nat × (Nat → Int32)} {Q : mPo} {d : Nat} {I : Nat → Nat → Int32} {L : Nat → Nat → Int64} {e : Int32} {s : Int32} {x0 : Int32}  (h1 : ((I 23 1) ≤ x0) → Q (some (.int s)) (mSH, I, L)) (h2 : ¬ ((I 23 1) ≤ x0) → (e ≤ x0) → Q (some (.int s)) (mSH, I, L)) (h3 : ¬ ((I 23 1) ≤ x0) → ¬ (e ≤ x0) → vp_in x0 8) (h4 : ¬ ((I 23 1) ≤ x0) → ¬ (e ≤ x0) → mWP mTb_ mFT ro (d, 47, 4, [some (.ref 23), some (.int e), some (.int (s + (I 24 x0.toNatClampNeg))), some (.int (x0 + 1))], [], 0, 0, (mSH, I, L)) Q) : mWP mTb_ mFT ro (d, 47, 4, [some (.ref 23), some (.int e), some (.int s), some (.int x0)], [], 0, 0, (mSH, I, L)) Q := by
  refine mB 3 (s2 := (d, 47, 9, [some (.ref 23), some (.int e), some (.int s), some (.int x0)], [.int (I 23 1), .int x0], 0, 0, (mSH, I, L))) rfl ?_
  refine mBr (s2 := (d, 47, 32, [some (.ref 23), some (.int e), some (.int s), some (.int x0)], [], 0, 0, (mSH, I, L))) (s3 := (d, 47, 12, [some (.ref 23), some (.int e), some (.int s), some (.int x0)], [], 0, 0, (mSH, I, L))) rfl (fun c0 => ?_) (fun c0 => ?_)
  · refine mB 1 (s2 := (d, 47, 33, [some (.ref 23), some (.int e), some (.int s), some (.int x0)], [.int s], 0, 0, (mSH, I, L))) rfl ?_
    refine mRt (r := (some (.int s))) (h := (mSH, I, L)) rfl (mRet_int rfl) ?_
    exact h1 (of_decide_eq_true c0)
  · refine mB 2 (s2 := (d, 47, 14, [some (.ref 23), some (.int e), some (.int s), some (.int x0)], [.int e, .int x0], 0, 0, (mSH, I, L))) rfl ?_
    refine mBr (s2 := (d, 47, 32, [some (.ref 23), some (.int e), some (.int s), some (.int x0)], [], 0, 0, (mSH, I, L))) (s3 := (d, 47, 17, [some (.ref 23), some (.int e), some (.int s), some (.int x0)], [], 0, 0, (mSH, I, L))) rfl (fun c1 => ?_) (fun c1 => ?_)
    · refine mB 1 (s2 := (d, 47, 33, [some (.ref 23), some (.int e), some (.int s), some (.int x0)], [.int s], 0, 0, (mSH, I, L))) rfl ?_
      refine mRt (r := (some (.int s))) (h := (mSH, I, L)) rfl (mRet_int rfl) ?_
      exact h2 (of_decide_eq_false c0) (of_decide_eq_true c1)
    · refine mB 4 (s2 := (d, 47, 23, [some (.ref 23), some (.int e), some (.int s), some (.int x0)], [.int x0, .ref 24, .int s], 0, 0, (mSH, I, L))) rfl ?_
      refine mRq (s2 := (d, 47, 24, [some (.ref 23), some (.int e), some (.int s), some (.int x0)], [.int (I 24 x0.toNatClampNeg), .int s], 0, 0, (mSH, I, L))) rfl (mVp_of (h3 (of_decide_eq_false c0) (of_decide_eq_false c1))) ?_
      refine mB 4 (s2 := (d, 47, 4, [some (.ref 23), some (.int e), some (.int (s + (I 24 x0.toNatClampNeg))), some (.int (x0 + 1))], [], 0, 0, (mSH, I, L))) rfl ?_
      exact h4 (of_decide_eq_false c0) (of_decide_eq_false c1)
theorem l_total_23 {ro : Nat → Nat × (Nat → Int32)} {Q : mPo} {d : Nat} {I : Nat → Nat → Int32} {L : Nat → Nat → Int64} {e : Int32} (hc : mCn I 23 8) (hq : ∀ r, Q (some (.int r)) (mSH, I, L)) (m : Nat) : ∀ (k : Nat) (s : Int32), (I 23 1).toInt ≤ k + m → k < 2 ^ 31 → mWP mTb_ mFT ro (d, 47, 4, [some (.ref 23), some (.int e), some (.int s), some (.int (nI k))], [], 0, 0, (mSH, I, L)) Q := by
  induction m with
  | zero =>
    intro k s hm hk
    have z : I 23 1 ≤ nI k := (mLeI hk).mpr (by omega)
    apply s_total_23 <;> intros <;> first | exact hq _ | exact absurd z (by assumption)
  | succ m ih =>
    intro k s hm hk
    by_cases z : I 23 1 ≤ nI k
    · apply s_total_23 <;> intros <;> first | exact hq _ | exact absurd z (by assumption)
    · have hk1 : k + 1 < 2 ^ 31 := mLe1 hk z
      apply s_total_23 <;> intros <;> first | exact absurd (by assumption) z | exact hq _ | exact mVpk hk (by assumption) hc.hi | (rw [nI_1]; exact ih (k + 1) _ (by omega) hk1)
theorem w_total_23 {ro : Nat → Nat × (Nat → Int32)} {Q : mPo} {d : Nat} {I : Nat → Nat → Int32} {L : Nat → Nat → Int64} {v0 : Int32} (hc : mCn I 23 8) (hq : ∀ r, Q (some (.int r)) (mSH, I, L))  : mWP mTb_ mFT ro (d, 47, 0, [some (.ref 23), some (.int v0), none, none], [], 0, 0, (mSH, I, L)) Q := by
  refine mB 4 (s2 := (d, 47, 4, [some (.ref 23), some (.int v0), some (.int 0), some (.int 0)], [], 0, 0, (mSH, I, L))) rfl ?_
  exact l_total_23 hc hq 2147483648 0 _ (by have := (I 23 1).toInt_lt; omega) (by omega)
theorem s_mixed_2 {ro : Nat → Nat × (Nat → Int32)} {Q : mPo} {d : Nat} {I : Nat → Nat → Int32} {L : Nat → Nat → Int64} {e : Int64} {s : Int64} {x0 : Int32}  (h1 : ((I 2 1) ≤ x0) → Q (some (.long s)) (mSH, I, L)) (h2 : ¬ ((I 2 1) ≤ x0) → vp_in x0 16) (h3 : ¬ ((I 2 1) ≤ x0) → mWP mTb_ mFT ro (d, 49, 5, [some (.ref 2), some (.long e), none, some (.long ((31 * s) + ((I 3 x0.toNatClampNeg : Int32).toInt64))), none, some (.int (x0 + 1))], [], 0, 0, (mSH, I, L)) Q) : mWP mTb_ mFT ro (d, 49, 5, [some (.ref 2), some (.long e), none, some (.long s), none, some (.int x0)], [], 0, 0, (mSH, I, L)) Q := by
  refine mB 3 (s2 := (d, 49, 11, [some (.ref 2), some (.long e), none, some (.long s), none, some (.int x0)], [.int (I 2 1), .int x0], 0, 0, (mSH, I, L))) rfl ?_
  refine mBr (s2 := (d, 49, 35, [some (.ref 2), some (.long e), none, some (.long s), none, some (.int x0)], [], 0, 0, (mSH, I, L))) (s3 := (d, 49, 14, [some (.ref 2), some (.long e), none, some (.long s), none, some (.int x0)], [], 0, 0, (mSH, I, L))) rfl (fun c0 => ?_) (fun c0 => ?_)
  · refine mB 1 (s2 := (d, 49, 36, [some (.ref 2), some (.long e), none, some (.long s), none, some (.int x0)], [.long s], 0, 0, (mSH, I, L))) rfl ?_
    refine mRt (r := (some (.long s))) (h := (mSH, I, L)) rfl rfl ?_
    exact h1 (of_decide_eq_true c0)
  · refine mB 6 (s2 := (d, 49, 25, [some (.ref 2), some (.long e), none, some (.long s), none, some (.int x0)], [.int x0, .ref 3, .long (31 * s)], 0, 0, (mSH, I, L))) rfl ?_
    refine mRq (s2 := (d, 49, 26, [some (.ref 2), some (.long e), none, some (.long s), none, some (.int x0)], [.int (I 3 x0.toNatClampNeg), .long (31 * s)], 0, 0, (mSH, I, L))) rfl (mVp_of (h2 (of_decide_eq_false c0))) ?_
    refine mB 5 (s2 := (d, 49, 5, [some (.ref 2), some (.long e), none, some (.long ((31 * s) + ((I 3 x0.toNatClampNeg : Int32).toInt64))), none, some (.int (x0 + 1))], [], 0, 0, (mSH, I, L))) rfl ?_
    exact h3 (of_decide_eq_false c0)
theorem l_mixed_2 {ro : Nat → Nat × (Nat → Int32)} {Q : mPo} {d : Nat} {I : Nat → Nat → Int32} {L : Nat → Nat → Int64} {e : Int64} (hc : mCn I 2 16) (hq : ∀ r, Q (some (.long r)) (mSH, I, L)) (m : Nat) : ∀ (k : Nat) (s : Int64), (I 2 1).toInt ≤ k + m → k < 2 ^ 31 → mWP mTb_ mFT ro (d, 49, 5, [some (.ref 2), some (.long e), none, some (.long s), none, some (.int (nI k))], [], 0, 0, (mSH, I, L)) Q := by
  induction m with
  | zero =>
    intro k s hm hk
    have z : I 2 1 ≤ nI k := (mLeI hk).mpr (by omega)
    apply s_mixed_2 <;> intros <;> first | exact hq _ | exact absurd z (by assumption)
  | succ m ih =>
    intro k s hm hk
    by_cases z : I 2 1 ≤ nI k
    · apply s_mixed_2 <;> intros <;> first | exact hq _ | exact absurd z (by assumption)
    · have hk1 : k + 1 < 2 ^ 31 := mLe1 hk z
      apply s_mixed_2 <;> intros <;> first | exact absurd (by assumption) z | exact hq _ | exact mVpk hk (by assumption) hc.hi | (rw [nI_1]; exact ih (k + 1) _ (by omega) hk1)
theorem w_mixed_2 {ro : Nat → Nat × (Nat → Int32)} {Q : mPo} {d : Nat} {I : Nat → Nat → Int32} {L : Nat → Nat → Int64} {v0 : Int64} (hc : mCn I 2 16) (hq : ∀ r, Q (some (.long r)) (mSH, I, L))  : mWP mTb_ mFT ro (d, 49, 0, [some (.ref 2), some (.long v0), none, none, none, none], [], 0, 0, (mSH, I, L)) Q := by
  refine mB 4 (s2 := (d, 49, 5, [some (.ref 2), some (.long v0), none, some (.long v0), none, some (.int 0)], [], 0, 0, (mSH, I, L))) rfl ?_
  exact l_mixed_2 hc hq 2147483648 0 _ (by have := (I 2 1).toInt_lt; omega) (by omega)
theorem s_mixed_4 {ro : Nat → Nat × (Nat → Int32)} {Q : mPo} {d : Nat} {I : Nat → Nat → Int32} {L : Nat → Nat → Int64} {e : Int64} {s : Int64} {x0 : Int32}  (h1 : ((I 4 1) ≤ x0) → Q (some (.long s)) (mSH, I, L)) (h2 : ¬ ((I 4 1) ≤ x0) → vp_in x0 8) (h3 : ¬ ((I 4 1) ≤ x0) → mWP mTb_ mFT ro (d, 49, 5, [some (.ref 4), some (.long e), none, some (.long ((31 * s) + ((I 5 x0.toNatClampNeg : Int32).toInt64))), none, some (.int (x0 + 1))], [], 0, 0, (mSH, I, L)) Q) : mWP mTb_ mFT ro (d, 49, 5, [some (.ref 4), some (.long e), none, some (.long s), none, some (.int x0)], [], 0, 0, (mSH, I, L)) Q := by
  refine mB 3 (s2 := (d, 49, 11, [some (.ref 4), some (.long e), none, some (.long s), none, some (.int x0)], [.int (I 4 1), .int x0], 0, 0, (mSH, I, L))) rfl ?_
  refine mBr (s2 := (d, 49, 35, [some (.ref 4), some (.long e), none, some (.long s), none, some (.int x0)], [], 0, 0, (mSH, I, L))) (s3 := (d, 49, 14, [some (.ref 4), some (.long e), none, some (.long s), none, some (.int x0)], [], 0, 0, (mSH, I, L))) rfl (fun c0 => ?_) (fun c0 => ?_)
  · refine mB 1 (s2 := (d, 49, 36, [some (.ref 4), some (.long e), none, some (.long s), none, some (.int x0)], [.long s], 0, 0, (mSH, I, L))) rfl ?_
    refine mRt (r := (some (.long s))) (h := (mSH, I, L)) rfl rfl ?_
    exact h1 (of_decide_eq_true c0)
  · refine mB 6 (s2 := (d, 49, 25, [some (.ref 4), some (.long e), none, some (.long s), none, some (.int x0)], [.int x0, .ref 5, .long (31 * s)], 0, 0, (mSH, I, L))) rfl ?_
    refine mRq (s2 := (d, 49, 26, [some (.ref 4), some (.long e), none, some (.long s), none, some (.int x0)], [.int (I 5 x0.toNatClampNeg), .long (31 * s)], 0, 0, (mSH, I, L))) rfl (mVp_of (h2 (of_decide_eq_false c0))) ?_
    refine mB 5 (s2 := (d, 49, 5, [some (.ref 4), some (.long e), none, some (.long ((31 * s) + ((I 5 x0.toNatClampNeg : Int32).toInt64))), none, some (.int (x0 + 1))], [], 0, 0, (mSH, I, L))) rfl ?_
    exact h3 (of_decide_eq_false c0)
theorem l_mixed_4 {ro : Nat → Nat × (Nat → Int32)} {Q : mPo} {d : Nat} {I : Nat → Nat → Int32} {L : Nat → Nat → Int64} {e : Int64} (hc : mCn I 4 8) (hq : ∀ r, Q (some (.long r)) (mSH, I, L)) (m : Nat) : ∀ (k : Nat) (s : Int64), (I 4 1).toInt ≤ k + m → k < 2 ^ 31 → mWP mTb_ mFT ro (d, 49, 5, [some (.ref 4), some (.long e), none, some (.long s), none, some (.int (nI k))], [], 0, 0, (mSH, I, L)) Q := by
  induction m with
  | zero =>
    intro k s hm hk
    have z : I 4 1 ≤ nI k := (mLeI hk).mpr (by omega)
    apply s_mixed_4 <;> intros <;> first | exact hq _ | exact absurd z (by assumption)
  | succ m ih =>
    intro k s hm hk
    by_cases z : I 4 1 ≤ nI k
    · apply s_mixed_4 <;> intros <;> first | exact hq _ | exact absurd z (by assumption)
    · have hk1 : k + 1 < 2 ^ 31 := mLe1 hk z
      apply s_mixed_4 <;> intros <;> first | exact absurd (by assumption) z | exact hq _ | exact mVpk hk (by assumption) hc.hi | (rw [nI_1]; exact ih (k + 1) _ (by omega) hk1)
theorem w_mixed_4 {ro : Nat → Nat × (Nat → Int32)} {Q : mPo} {d : Nat} {I : Nat → Nat → Int32} {L : Nat → Nat → Int64} {v0 : Int64} (hc : mCn I 4 8) (hq : ∀ r, Q (some (.long r)) (mSH, I, L))  : mWP mTb_ mFT ro (d, 49, 0, [some (.ref 4), some (.long v0), none, none, none, none], [], 0, 0, (mSH, I, L)) Q := by
  refine mB 4 (s2 := (d, 49, 5, [some (.ref 4), some (.long v0), none, some (.long v0), none, some (.int 0)], [], 0, 0, (mSH, I, L))) rfl ?_
  exact l_mixed_4 hc hq 2147483648 0 _ (by have := (I 4 1).toInt_lt; omega) (by omega)
theorem s_years {ro : Nat → Nat × (Nat → Int32)} {Q : mPo} {d : Nat} {I : Nat → Nat → Int32} {L : Nat → Nat → Int64} {i b : Int32} {s : Int32} {x0 : Int32} (hc : mCn I 2 16) (h1 : (b ≤ x0) → Q (some (.int s)) (mSH, I, L)) (h2 : ¬ (b ≤ x0) → mWP mTb_ mFT ro (d + 1, 69, 5, [some (.ref 1), some (.int i), some (.int b), some (.int (s + (mAt I 2 3 (i + x0)))), some (.int (x0 + 1))], [], 0, 0, (mSH, I, L)) Q) : mWP mTb_ mFT ro (d + 1, 69, 5, [some (.ref 1), some (.int i), some (.int b), some (.int s), some (.int x0)], [], 0, 0, (mSH, I, L)) Q := by
  refine mB 2 (s2 := (d + 1, 69, 8, [some (.ref 1), some (.int i), some (.int b), some (.int s), some (.int x0)], [.int b, .int x0], 0, 0, (mSH, I, L))) rfl ?_
  refine mBr (s2 := (d + 1, 69, 31, [some (.ref 1), some (.int i), some (.int b), some (.int s), some (.int x0)], [], 0, 0, (mSH, I, L))) (s3 := (d + 1, 69, 11, [some (.ref 1), some (.int i), some (.int b), some (.int s), some (.int x0)], [], 0, 0, (mSH, I, L))) rfl (fun c0 => ?_) (fun c0 => ?_)
  · refine mB 1 (s2 := (d + 1, 69, 32, [some (.ref 1), some (.int i), some (.int b), some (.int s), some (.int x0)], [.int s], 0, 0, (mSH, I, L))) rfl ?_
    refine mRt (r := (some (.int s))) (h := (mSH, I, L)) rfl (mRet_int rfl) ?_
    exact h1 (of_decide_eq_true c0)
  · refine mB 6 (s2 := (d + 1, 69, 20, [some (.ref 1), some (.int i), some (.int b), some (.int s), some (.int x0)], [.int (i + x0), .ref 2, .int s], 0, 0, (mSH, I, L))) rfl ?_
    refine mCall (s2 := (d, 42, 0, [some (.ref 2), some (.int (i + x0))], [], 0, 0, (mSH, I, L))) rfl ?_
    refine w_at_2 hc ?_
    show mWP mTb_ mFT ro (d + 1, 69, 23, [some (.ref 1), some (.int i), some (.int b), some (.int s), some (.int x0)], [.int (mAt I 2 3 (i + x0)), .int s], 0, 0, (mSH, I, L)) _
    refine mB 4 (s2 := (d + 1, 69, 5, [some (.ref 1), some (.int i), some (.int b), some (.int (s + (mAt I 2 3 (i + x0)))), some (.int (x0 + 1))], [], 0, 0, (mSH, I, L))) rfl ?_
    exact h2 (of_decide_eq_false c0)
theorem l_years {ro : Nat → Nat × (Nat → Int32)} {Q : mPo} {d : Nat} {I : Nat → Nat → Int32} {L : Nat → Nat → Int64} {i b : Int32} (hc : mCn I 2 16) (hq : ∀ r, Q (some (.int r)) (mSH, I, L)) (m : Nat) : ∀ (k : Nat) (s : Int32), (b).toInt ≤ k + m → k < 2 ^ 31 → mWP mTb_ mFT ro (d + 1, 69, 5, [some (.ref 1), some (.int i), some (.int b), some (.int s), some (.int (nI k))], [], 0, 0, (mSH, I, L)) Q := by
  induction m with
  | zero =>
    intro k s hm hk
    have z : b ≤ nI k := (mLeI hk).mpr (by omega)
    apply s_years hc <;> intros <;> first | exact hq _ | exact absurd z (by assumption)
  | succ m ih =>
    intro k s hm hk
    by_cases z : b ≤ nI k
    · apply s_years hc <;> intros <;> first | exact hq _ | exact absurd z (by assumption)
    · have hk1 : k + 1 < 2 ^ 31 := mLe1 hk z
      apply s_years hc <;> intros <;> first | exact absurd (by assumption) z | exact hq _ | (rw [nI_1]; exact ih (k + 1) _ (by omega) hk1)
theorem w_years {ro : Nat → Nat × (Nat → Int32)} {Q : mPo} {d : Nat} {I : Nat → Nat → Int32} {L : Nat → Nat → Int64} {v0 v1 : Int32} (hc : mCn I 2 16) (hq : ∀ r, Q (some (.int r)) (mSH, I, L))  : mWP mTb_ mFT ro (d + 1, 69, 0, [some (.ref 1), some (.int v0), some (.int v1), none, none], [], 0, 0, (mSH, I, L)) Q := by
  refine mB 4 (s2 := (d + 1, 69, 5, [some (.ref 1), some (.int v0), some (.int v1), some (.int 0), some (.int 0)], [], 0, 0, (mSH, I, L))) rfl ?_
  exact l_years hc hq 2147483648 0 _ (by have := v1.toInt_lt; omega) (by omega)
theorem mMix2 {S : List Nat} {I K K' : Nat → Nat → Int32} : mMix S (mMix S I K) K' = mMix S I K' := by
  funext r
  cases h : mMem S r with
  | true => rw [mMix_in h, mMix_in h]
  | false => rw [mMix_out h, mMix_out h, mMix_out h]
theorem s_like_2 {ro : Nat → Nat × (Nat → Int32)} {Q : mPo} {d : Nat} {I : Nat → Nat → Int32} {L : Nat → Nat → Int64} {K : Nat → Nat → Int32} {x0 : Int32} (hf : mCn I 30 16) (hK : mCn K 2 16) (h1 : ((I 30 1) ≤ x0) → Q none (mSH, (mMix [2, 3] I K), L)) (h2 : ¬ ((I 30 1) ≤ x0) → ∀ (K1 : Nat → Nat → Int32), (mCn K1 2 16) → mWP mTb_ mFT ro (d + 2, 46, 7, [some (.ref 2), some (.ref 30), some (.int (x0 + 1))], [], 0, 0, (mSH, (mMix [2, 3] (mMix [2, 3] I K) K1), L)) Q) : mWP mTb_ mFT ro (d + 2, 46, 7, [some (.ref 2), some (.ref 30), some (.int x0)], [], 0, 0, (mSH, (mMix [2, 3] I K), L)) Q := by
  refine mB 2 (s2 := (d + 2, 46, 9, [some (.ref 2), some (.ref 30), some (.int x0)], [.ref 30, .int x0], 0, 0, (mSH, (mMix [2, 3] I K), L))) rfl ?_
  refine mCall (s2 := (d + 1, 39, 0, [some (.ref 30)], [], 0, 0, (mSH, (mMix [2, 3] I K), L))) rfl ?_
  refine mB 2 (s2 := (d + 1, 39, 4, [some (.ref 30)], [.int (I 30 1)], 0, 0, (mSH, (mMix [2, 3] I K), L))) rfl ?_
  refine mRt (r := (some (.int (I 30 1)))) (h := (mSH, (mMix [2, 3] I K), L)) rfl (mRet_int rfl) ?_
  show mWP mTb_ mFT ro (d + 2, 46, 12, [some (.ref 2), some (.ref 30), some (.int x0)], [.int (I 30 1), .int x0], 0, 0, (mSH, (mMix [2, 3] I K), L)) _
  refine mBr (s2 := (d + 2, 46, 30, [some (.ref 2), some (.ref 30), some (.int x0)], [], 0, 0, (mSH, (mMix [2, 3] I K), L))) (s3 := (d + 2, 46, 15, [some (.ref 2), some (.ref 30), some (.int x0)], [], 0, 0, (mSH, (mMix [2, 3] I K), L))) rfl (fun c0 => ?_) (fun c0 => ?_)
  · refine mRt (r := none) (h := (mSH, (mMix [2, 3] I K), L)) rfl rfl ?_
    exact h1 (of_decide_eq_true c0)
  · refine mB 3 (s2 := (d + 2, 46, 18, [some (.ref 2), some (.ref 30), some (.int x0)], [.int x0, .ref 30, .ref 2], 0, 0, (mSH, (mMix [2, 3] I K), L))) rfl ?_
    refine mCall (s2 := (d + 1, 42, 0, [some (.ref 30), some (.int x0)], [], 0, 0, (mSH, (mMix [2, 3] I K), L))) rfl ?_
    refine w_at_30 hf ?_
    show mWP mTb_ mFT ro (d + 2, 46, 21, [some (.ref 2), some (.ref 30), some (.int x0)], [.int (mAt (mMix [2, 3] I K) 30 31 x0), .ref 2], 0, 0, (mSH, (mMix [2, 3] I K), L)) _
    refine mCall (s2 := (d + 1, 44, 0, [some (.ref 2), some (.int (mAt (mMix [2, 3] I K) 30 31 x0))], [], 0, 0, (mSH, (mMix [2, 3] I K), L))) rfl ?_
    refine w_add_2 hK (fun K1 hK1 => ?_)
    show mWP mTb_ mFT ro (d + 2, 46, 24, [some (.ref 2), some (.ref 30), some (.int x0)], [], 0, 0, (mSH, (mMix [2, 3] (mMix [2, 3] I K) K1), L)) _
    refine mB 2 (s2 := (d + 2, 46, 7, [some (.ref 2), some (.ref 30), some (.int (x0 + 1))], [], 0, 0, (mSH, (mMix [2, 3] (mMix [2, 3] I K) K1), L))) rfl ?_
    exact h2 (of_decide_eq_false c0) K1 hK1
theorem l_like_2 {ro : Nat → Nat × (Nat → Int32)} {Q : mPo} {d : Nat} {I : Nat → Nat → Int32} {L : Nat → Nat → Int64} (hf : mCn I 30 16) (hq : ∀ K, mCn K 2 16 → Q none (mSH, mMix [2, 3] I K, L)) (m : Nat) : ∀ (k : Nat) (K : Nat → Nat → Int32), (I 30 1).toInt ≤ k + m → k < 2 ^ 31 → mCn K 2 16 → mWP mTb_ mFT ro (d + 2, 46, 7, [some (.ref 2), some (.ref 30), some (.int (nI k))], [], 0, 0, (mSH, (mMix [2, 3] I K), L)) Q := by
  induction m with
  | zero =>
    intro k K hm hk hK
    have z : I 30 1 ≤ nI k := (mLeI hk).mpr (by omega)
    apply s_like_2 hf hK <;> intros <;> first | exact hq _ (by assumption) | exact absurd z (by assumption)
  | succ m ih =>
    intro k K hm hk hK
    by_cases z : I 30 1 ≤ nI k
    · apply s_like_2 hf hK <;> intros <;> first | exact hq _ (by assumption) | exact absurd z (by assumption)
    · have hk1 : k + 1 < 2 ^ 31 := mLe1 hk z
      apply s_like_2 hf hK <;> intros <;> first | exact absurd (by assumption) z | exact hq _ (by assumption) | (rw [nI_1, mMix2]; exact ih (k + 1) _ (by omega) hk1 (by assumption))
theorem w_like_2 {ro : Nat → Nat × (Nat → Int32)} {Q : mPo} {d : Nat} {I : Nat → Nat → Int32} {L : Nat → Nat → Int64} (hf : mCn I 30 16) (hq : ∀ K, mCn K 2 16 → Q none (mSH, mMix [2, 3] I K, L))  : mWP mTb_ mFT ro (d + 2, 46, 0, [some (.ref 2), some (.ref 30), none], [], 0, 0, (mSH, I, L)) Q := by
  refine mB 1 (s2 := (d + 2, 46, 1, [some (.ref 2), some (.ref 30), none], [.ref 2], 0, 0, (mSH, I, L))) rfl ?_
  refine mCall (s2 := (d + 1, 45, 0, [some (.ref 2), none], [], 0, 0, (mSH, I, L))) rfl ?_
  refine mB 7 (s2 := (d + 1, 45, 11, [some (.ref 2), some (.int (I 2 1))], [.int (I 2 1)], 0, 0, (mSH, (mUp I 2 1 0), L))) rfl ?_
  refine mRt (r := (some (.int (I 2 1)))) (h := (mSH, (mUp I 2 1 0), L)) rfl (mRet_int rfl) ?_
  show mWP mTb_ mFT ro (d + 2, 46, 4, [some (.ref 2), some (.ref 30), none], [.int (I 2 1)], 0, 0, (mSH, (mUp I 2 1 0), L)) _
  refine mB 3 (s2 := (d + 2, 46, 7, [some (.ref 2), some (.ref 30), some (.int 0)], [], 0, 0, (mSH, (mUp I 2 1 0), L))) rfl ?_
  (rw [← (mFr.up (by rfl) mFr.rf : mFr [2, 3] I (mUp I 2 1 0)).eq]; exact l_like_2 hf hq 2147483648 0 _ (by have := (I 30 1).toInt_lt; omega) (by omega) mCn_0)
theorem s_like_4 {ro : Nat → Nat × (Nat → Int32)} {Q : mPo} {d : Nat} {I : Nat → Nat → Int32} {L : Nat → Nat → Int64} {K : Nat → Nat → Int32} {x0 : Int32} (hf : mCn I 32 8) (hK : mCn K 4 8) (h1 : ((I 32 1) ≤ x0) → Q none (mSH, (mMix [4, 5] I K), L)) (h2 : ¬ ((I 32 1) ≤ x0) → ∀ (K1 : Nat → Nat → Int32), (mCn K1 4 8) → mWP mTb_ mFT ro (d + 2, 46, 7, [some (.ref 4), some (.ref 32), some (.int (x0 + 1))], [], 0, 0, (mSH, (mMix [4, 5] (mMix [4, 5] I K) K1), L)) Q) : mWP mTb_ mFT ro (d + 2, 46, 7, [some (.ref 4), some (.ref 32), some (.int x0)], [], 0, 0, (mSH, (mMix [4, 5] I K), L)) Q := by
  refine mB 2 (s2 := (d + 2, 46, 9, [some (.ref 4), some (.ref 32), some (.int x0)], [.ref 32, .int x0], 0, 0, (mSH, (mMix [4, 5] I K), L))) rfl ?_
  refine mCall (s2 := (d + 1, 39, 0, [some (.ref 32)], [], 0, 0, (mSH, (mMix [4, 5] I K), L))) rfl ?_
  refine mB 2 (s2 := (d + 1, 39, 4, [some (.ref 32)], [.int (I 32 1)], 0, 0, (mSH, (mMix [4, 5] I K), L))) rfl ?_
  refine mRt (r := (some (.int (I 32 1)))) (h := (mSH, (mMix [4, 5] I K), L)) rfl (mRet_int rfl) ?_
  show mWP mTb_ mFT ro (d + 2, 46, 12, [some (.ref 4), some (.ref 32), some (.int x0)], [.int (I 32 1), .int x0], 0, 0, (mSH, (mMix [4, 5] I K), L)) _
  refine mBr (s2 := (d + 2, 46, 30, [some (.ref 4), some (.ref 32), some (.int x0)], [], 0, 0, (mSH, (mMix [4, 5] I K), L))) (s3 := (d + 2, 46, 15, [some (.ref 4), some (.ref 32), some (.int x0)], [], 0, 0, (mSH, (mMix [4, 5] I K), L))) rfl (fun c0 => ?_) (fun c0 => ?_)
  · refine mRt (r := none) (h := (mSH, (mMix [4, 5] I K), L)) rfl rfl ?_
    exact h1 (of_decide_eq_true c0)
  · refine mB 3 (s2 := (d + 2, 46, 18, [some (.ref 4), some (.ref 32), some (.int x0)], [.int x0, .ref 32, .ref 4], 0, 0, (mSH, (mMix [4, 5] I K), L))) rfl ?_
    refine mCall (s2 := (d + 1, 42, 0, [some (.ref 32), some (.int x0)], [], 0, 0, (mSH, (mMix [4, 5] I K), L))) rfl ?_
    refine w_at_32 hf ?_
    show mWP mTb_ mFT ro (d + 2, 46, 21, [some (.ref 4), some (.ref 32), some (.int x0)], [.int (mAt (mMix [4, 5] I K) 32 33 x0), .ref 4], 0, 0, (mSH, (mMix [4, 5] I K), L)) _
    refine mCall (s2 := (d + 1, 44, 0, [some (.ref 4), some (.int (mAt (mMix [4, 5] I K) 32 33 x0))], [], 0, 0, (mSH, (mMix [4, 5] I K), L))) rfl ?_
    refine w_add_4 hK (fun K1 hK1 => ?_)
    show mWP mTb_ mFT ro (d + 2, 46, 24, [some (.ref 4), some (.ref 32), some (.int x0)], [], 0, 0, (mSH, (mMix [4, 5] (mMix [4, 5] I K) K1), L)) _
    refine mB 2 (s2 := (d + 2, 46, 7, [some (.ref 4), some (.ref 32), some (.int (x0 + 1))], [], 0, 0, (mSH, (mMix [4, 5] (mMix [4, 5] I K) K1), L))) rfl ?_
    exact h2 (of_decide_eq_false c0) K1 hK1
theorem l_like_4 {ro : Nat → Nat × (Nat → Int32)} {Q : mPo} {d : Nat} {I : Nat → Nat → Int32} {L : Nat → Nat → Int64} (hf : mCn I 32 8) (hq : ∀ K, mCn K 4 8 → Q none (mSH, mMix [4, 5] I K, L)) (m : Nat) : ∀ (k : Nat) (K : Nat → Nat → Int32), (I 32 1).toInt ≤ k + m → k < 2 ^ 31 → mCn K 4 8 → mWP mTb_ mFT ro (d + 2, 46, 7, [some (.ref 4), some (.ref 32), some (.int (nI k))], [], 0, 0, (mSH, (mMix [4, 5] I K), L)) Q := by
  induction m with
  | zero =>
    intro k K hm hk hK
    have z : I 32 1 ≤ nI k := (mLeI hk).mpr (by omega)
    apply s_like_4 hf hK <;> intros <;> first | exact hq _ (by assumption) | exact absurd z (by assumption)
  | succ m ih =>
    intro k K hm hk hK
    by_cases z : I 32 1 ≤ nI k
    · apply s_like_4 hf hK <;> intros <;> first | exact hq _ (by assumption) | exact absurd z (by assumption)
    · have hk1 : k + 1 < 2 ^ 31 := mLe1 hk z
      apply s_like_4 hf hK <;> intros <;> first | exact absurd (by assumption) z | exact hq _ (by assumption) | (rw [nI_1, mMix2]; exact ih (k + 1) _ (by omega) hk1 (by assumption))
theorem w_like_4 {ro : Nat → Nat × (Nat → Int32)} {Q : mPo} {d : Nat} {I : Nat → Nat → Int32} {L : Nat → Nat → Int64} (hf : mCn I 32 8) (hq : ∀ K, mCn K 4 8 → Q none (mSH, mMix [4, 5] I K, L))  : mWP mTb_ mFT ro (d + 2, 46, 0, [some (.ref 4), some (.ref 32), none], [], 0, 0, (mSH, I, L)) Q := by
  refine mB 1 (s2 := (d + 2, 46, 1, [some (.ref 4), some (.ref 32), none], [.ref 4], 0, 0, (mSH, I, L))) rfl ?_
  refine mCall (s2 := (d + 1, 45, 0, [some (.ref 4), none], [], 0, 0, (mSH, I, L))) rfl ?_
  refine mB 7 (s2 := (d + 1, 45, 11, [some (.ref 4), some (.int (I 4 1))], [.int (I 4 1)], 0, 0, (mSH, (mUp I 4 1 0), L))) rfl ?_
  refine mRt (r := (some (.int (I 4 1)))) (h := (mSH, (mUp I 4 1 0), L)) rfl (mRet_int rfl) ?_
  show mWP mTb_ mFT ro (d + 2, 46, 4, [some (.ref 4), some (.ref 32), none], [.int (I 4 1)], 0, 0, (mSH, (mUp I 4 1 0), L)) _
  refine mB 3 (s2 := (d + 2, 46, 7, [some (.ref 4), some (.ref 32), some (.int 0)], [], 0, 0, (mSH, (mUp I 4 1 0), L))) rfl ?_
  (rw [← (mFr.up (by rfl) mFr.rf : mFr [4, 5] I (mUp I 4 1 0)).eq]; exact l_like_4 hf hq 2147483648 0 _ (by have := (I 32 1).toInt_lt; omega) (by omega) mCn_0)
