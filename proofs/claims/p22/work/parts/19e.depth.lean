/-! The model: depths, rates, misfits. Written by a program (wip/mk_c.py). -/
theorem s_de0 {ro : Nat → Nat × (Nat → Int32)} {Q : mPo} {d : Nat} {I : Nat → Nat → Int32} {L : Nat → Nat → Int64} {v0 : Int32}  (h1 : mWP mTb_ mFT ro (d + 1, 144, 42, [some (.ref 34), some (.int v0), some (.int (I 46 1)), none, none, none, none], [.int (I 46 1), .int 0, .ref 34], 0, 0, (mSH, I, L)) Q) : mWP mTb_ mFT ro (d + 1, 144, 32, [some (.ref 34), some (.int v0), none, none, none, none, none], [], 0, 0, (mSH, I, L)) Q := by
  refine mB 3 (s2 := (d + 1, 144, 37, [some (.ref 34), some (.int v0), none, none, none, none, none], [.int 1, .ref 46], 0, 0, (mSH, I, L))) rfl ?_
  refine mRq (s2 := (d + 1, 144, 38, [some (.ref 34), some (.int v0), none, none, none, none, none], [.int (I 46 1)], 0, 0, (mSH, I, L))) rfl (by decide) ?_
  refine mB 4 (s2 := (d + 1, 144, 42, [some (.ref 34), some (.int v0), some (.int (I 46 1)), none, none, none, none], [.int (I 46 1), .int 0, .ref 34], 0, 0, (mSH, I, L))) rfl ?_
  exact h1
theorem s_de0b {ro : Nat → Nat × (Nat → Int32)} {Q : mPo} {d : Nat} {I : Nat → Nat → Int32} {L : Nat → Nat → Int64} {v0 ii y : Int32}  (h1 : (y ≤ v0) → mWP mTb_ mFT ro (d + 1, 144, 59, [some (.ref 34), some (.int v0), some (.int ii), some (.int y), some (.int 0), some (.int 0), none], [], 0, 0, (mSH, I, L)) Q) (h2 : ¬ (y ≤ v0) → Q (some (.int (-1))) (mSH, I, L)) : mWP mTb_ mFT ro (d + 1, 144, 45, [some (.ref 34), some (.int v0), some (.int ii), none, none, none, none], [.int y], 0, 0, (mSH, I, L)) Q := by
  refine mB 3 (s2 := (d + 1, 144, 48, [some (.ref 34), some (.int v0), some (.int ii), some (.int y), none, none, none], [.int y, .int v0], 0, 0, (mSH, I, L))) rfl ?_
  refine mBr (s2 := (d + 1, 144, 53, [some (.ref 34), some (.int v0), some (.int ii), some (.int y), none, none, none], [], 0, 0, (mSH, I, L))) (s3 := (d + 1, 144, 51, [some (.ref 34), some (.int v0), some (.int ii), some (.int y), none, none, none], [], 0, 0, (mSH, I, L))) rfl (fun c0 => ?_) (fun c0 => ?_)
  · refine mB 4 (s2 := (d + 1, 144, 59, [some (.ref 34), some (.int v0), some (.int ii), some (.int y), some (.int 0), some (.int 0), none], [], 0, 0, (mSH, I, L))) rfl ?_
    exact h1 (of_decide_eq_true c0)
  · refine mB 1 (s2 := (d + 1, 144, 52, [some (.ref 34), some (.int v0), some (.int ii), some (.int y), none, none, none], [.int (-1)], 0, 0, (mSH, I, L))) rfl ?_
    refine mRt (r := (some (.int (-1)))) (h := (mSH, I, L)) rfl (mRet_int rfl) ?_
    exact h2 (of_decide_eq_false c0)
theorem s_de1 {ro : Nat → Nat × (Nat → Int32)} {Q : mPo} {d : Nat} {I : Nat → Nat → Int32} {L : Nat → Nat → Int64} {v0 ii old top : Int32} {j : Nat} {o6 : Option Value}  (h1 : ((I 34 3) ≤ (nI j)) → Q (some (.int (-1))) (mSH, I, L)) (h2 : ¬ ((I 34 3) ≤ (nI j)) → vp_in (2 + (nI j)) 20) (h3 : ¬ ((I 34 3) ≤ (nI j)) → mWP mTb_ mFT ro (d + 1, 144, 79, [some (.ref 34), some (.int v0), some (.int ii), some (.int old), some (.int top), some (.int (nI j)), o6], [.int (I 46 ((2 + (nI j)).toNatClampNeg)), .int ii, .ref 34], 0, 0, (mSH, I, L)) Q) : mWP mTb_ mFT ro (d + 1, 144, 59, [some (.ref 34), some (.int v0), some (.int ii), some (.int old), some (.int top), some (.int (nI j)), o6], [], 0, 0, (mSH, I, L)) Q := by
  refine mB 3 (s2 := (d + 1, 144, 65, [some (.ref 34), some (.int v0), some (.int ii), some (.int old), some (.int top), some (.int (nI j)), o6], [.int (I 34 3), .int (nI j)], 0, 0, (mSH, I, L))) rfl ?_
  refine mBr (s2 := (d + 1, 144, 156, [some (.ref 34), some (.int v0), some (.int ii), some (.int old), some (.int top), some (.int (nI j)), o6], [], 0, 0, (mSH, I, L))) (s3 := (d + 1, 144, 68, [some (.ref 34), some (.int v0), some (.int ii), some (.int old), some (.int top), some (.int (nI j)), o6], [], 0, 0, (mSH, I, L))) rfl (fun c0 => ?_) (fun c0 => ?_)
  · refine mB 1 (s2 := (d + 1, 144, 157, [some (.ref 34), some (.int v0), some (.int ii), some (.int old), some (.int top), some (.int (nI j)), o6], [.int (-1)], 0, 0, (mSH, I, L))) rfl ?_
    refine mRt (r := (some (.int (-1)))) (h := (mSH, I, L)) rfl (mRet_int rfl) ?_
    exact h1 (of_decide_eq_true c0)
  · refine mB 7 (s2 := (d + 1, 144, 78, [some (.ref 34), some (.int v0), some (.int ii), some (.int old), some (.int top), some (.int (nI j)), o6], [.int (2 + (nI j)), .ref 46, .int ii, .ref 34], 0, 0, (mSH, I, L))) rfl ?_
    refine mRq (s2 := (d + 1, 144, 79, [some (.ref 34), some (.int v0), some (.int ii), some (.int old), some (.int top), some (.int (nI j)), o6], [.int (I 46 ((2 + (nI j)).toNatClampNeg)), .int ii, .ref 34], 0, 0, (mSH, I, L))) rfl (mVp_of (h2 (of_decide_eq_false c0))) ?_
    exact h3 (of_decide_eq_false c0)
theorem s_de2 {ro : Nat → Nat × (Nat → Int32)} {Q : mPo} {d : Nat} {I : Nat → Nat → Int32} {L : Nat → Nat → Int64} {v0 ii old top y : Int32} {j : Nat} {o6 : Option Value}  (h1 : ((old + y) < v0) → vp_in (2 + (nI j)) 20) (h2 : ((old + y) < v0) → vp_in (nI j) 8) (h3 : ((old + y) < v0) → mWP mTb_ mFT ro (d + 1, 144, 59, [some (.ref 34), some (.int v0), some (.int (ii + (I 46 ((2 + (nI j)).toNatClampNeg)))), some (.int (old + y)), some (.int (top + (I 36 ((nI j).toNatClampNeg)))), some (.int ((nI j) + 1)), some (.int y)], [], 0, 0, (mSH, I, L)) Q) (h4 : ¬ ((old + y) < v0) → vp_in (nI j) 8) (h5 : ¬ ((old + y) < v0) → mWP mTb_ mFT ro (d + 1, 144, 117, [some (.ref 34), some (.int v0), some (.int ii), some (.int old), some (.int top), some (.int (nI j)), some (.int y)], [.long ((y : Int32).toInt64), .long ((((top : Int32).toInt64) * ((y : Int32).toInt64)) + (((v0 - old : Int32).toInt64) * ((I 36 ((nI j).toNatClampNeg) : Int32).toInt64))), .ref 34], 0, 0, (mSH, I, L)) Q) : mWP mTb_ mFT ro (d + 1, 144, 82, [some (.ref 34), some (.int v0), some (.int ii), some (.int old), some (.int top), some (.int (nI j)), o6], [.int y], 0, 0, (mSH, I, L)) Q := by
  refine mB 5 (s2 := (d + 1, 144, 89, [some (.ref 34), some (.int v0), some (.int ii), some (.int old), some (.int top), some (.int (nI j)), some (.int y)], [.int (old + y), .int v0], 0, 0, (mSH, I, L))) rfl ?_
  refine mBr (s2 := (d + 1, 144, 121, [some (.ref 34), some (.int v0), some (.int ii), some (.int old), some (.int top), some (.int (nI j)), some (.int y)], [], 0, 0, (mSH, I, L))) (s3 := (d + 1, 144, 92, [some (.ref 34), some (.int v0), some (.int ii), some (.int old), some (.int top), some (.int (nI j)), some (.int y)], [], 0, 0, (mSH, I, L))) rfl (fun c0 => ?_) (fun c0 => ?_)
  · refine mB 10 (s2 := (d + 1, 144, 135, [some (.ref 34), some (.int v0), some (.int ii), some (.int (old + y)), some (.int top), some (.int (nI j)), some (.int y)], [.int (2 + (nI j)), .ref 46, .int ii], 0, 0, (mSH, I, L))) rfl ?_
    refine mRq (s2 := (d + 1, 144, 136, [some (.ref 34), some (.int v0), some (.int ii), some (.int (old + y)), some (.int top), some (.int (nI j)), some (.int y)], [.int (I 46 ((2 + (nI j)).toNatClampNeg)), .int ii], 0, 0, (mSH, I, L))) rfl (mVp_of (h1 (of_decide_eq_true c0))) ?_
    refine mB 6 (s2 := (d + 1, 144, 146, [some (.ref 34), some (.int v0), some (.int (ii + (I 46 ((2 + (nI j)).toNatClampNeg)))), some (.int (old + y)), some (.int top), some (.int (nI j)), some (.int y)], [.int (nI j), .ref 36, .int top], 0, 0, (mSH, I, L))) rfl ?_
    refine mRq (s2 := (d + 1, 144, 147, [some (.ref 34), some (.int v0), some (.int (ii + (I 46 ((2 + (nI j)).toNatClampNeg)))), some (.int (old + y)), some (.int top), some (.int (nI j)), some (.int y)], [.int (I 36 ((nI j).toNatClampNeg)), .int top], 0, 0, (mSH, I, L))) rfl (mVp_of (h2 (of_decide_eq_true c0))) ?_
    refine mB 4 (s2 := (d + 1, 144, 59, [some (.ref 34), some (.int v0), some (.int (ii + (I 46 ((2 + (nI j)).toNatClampNeg)))), some (.int (old + y)), some (.int (top + (I 36 ((nI j).toNatClampNeg)))), some (.int ((nI j) + 1)), some (.int y)], [], 0, 0, (mSH, I, L))) rfl ?_
    exact h3 (of_decide_eq_true c0)
  · refine mB 13 (s2 := (d + 1, 144, 110, [some (.ref 34), some (.int v0), some (.int ii), some (.int old), some (.int top), some (.int (nI j)), some (.int y)], [.int (nI j), .ref 36, .long ((v0 - old : Int32).toInt64), .long (((top : Int32).toInt64) * ((y : Int32).toInt64)), .ref 34], 0, 0, (mSH, I, L))) rfl ?_
    refine mRq (s2 := (d + 1, 144, 111, [some (.ref 34), some (.int v0), some (.int ii), some (.int old), some (.int top), some (.int (nI j)), some (.int y)], [.int (I 36 ((nI j).toNatClampNeg)), .long ((v0 - old : Int32).toInt64), .long (((top : Int32).toInt64) * ((y : Int32).toInt64)), .ref 34], 0, 0, (mSH, I, L))) rfl (mVp_of (h4 (of_decide_eq_false c0))) ?_
    refine mB 5 (s2 := (d + 1, 144, 117, [some (.ref 34), some (.int v0), some (.int ii), some (.int old), some (.int top), some (.int (nI j)), some (.int y)], [.long ((y : Int32).toInt64), .long ((((top : Int32).toInt64) * ((y : Int32).toInt64)) + (((v0 - old : Int32).toInt64) * ((I 36 ((nI j).toNatClampNeg) : Int32).toInt64))), .ref 34], 0, 0, (mSH, I, L))) rfl ?_
    exact h5 (of_decide_eq_false c0)
theorem l_depth {ro : Nat → Nat × (Nat → Int32)} {Q : mPo} {d : Nat} {I : Nat → Nat → Int32} {L : Nat → Nat → Int64} {s n t : Nat} {v0 : Int32} (hm : mM s n t I) {b : Nat → Nat} (hb : ∀ k, k < n → ∃ p, p ≤ 2 ∧ I 46 (2 + k) = nI (2 * p + 1) ∧ b (k + 1) = b k + (2 * p + 1) ∧ b (k + 1) ≤ s) (hq : ∀ r L1, Q (some (.int r)) (mSH, I, L1)) : ∀ (e j : Nat), j + e = n → ∀ (old top : Int32) (o6 : Option Value), mWP mTb_ mFT ro (d + 1, 144, 59, [some (.ref 34), some (.int v0), some (.int (nI (b j))), some (.int (old)), some (.int (top)), some (.int (nI j)), o6], [], 0, 0, (mSH, I, L)) Q := by
  have h8 := hm.2.1.2
  have h16 := hm.1.2
  intro e
  induction e with
  | zero =>
    intro j he old top o6
    have z : I 34 3 ≤ nI j := by rw [hm.2.1.1]; exact nI_le (by omega) (by omega)
    exact s_de1 (fun _ => hq _ _) (fun c => absurd z c) (fun c => absurd z c)
  | succ e ih =>
    intro j he old top o6
    have z : ¬ I 34 3 ≤ nI j := by rw [hm.2.1.1]; exact nI_ge (by omega) (by omega)
    obtain ⟨p, a1, a2, a3, a4⟩ := hb j (by omega)
    have e22 : (2 : Int32) + nI j = nI (2 + j) := nI_add 2 j
    have c22 : ((2 : Int32) + nI j).toNatClampNeg = 2 + j := by rw [e22, nI_clamp (by omega)]
    have v22 : vp_in ((2 : Int32) + nI j) 20 := by rw [e22]; exact vp_in_nI (by omega) (by omega)
    have v8 : vp_in (nI j) 8 := vp_in_nI (by omega) (by omega)
    refine s_de1 (fun c => absurd c z) (fun _ => v22) (fun _ => ?_)
    rw [c22, a2]
    refine mCall (s2 := (d, 124, 0, [some (.ref 34), some (.int (nI (b j))), some (.int (nI (2 * p + 1))), none, none], [], 0, 0, (mSH, I, L))) rfl ?_
    refine w_my (by omega) ?_
    show mWP mTb_ mFT ro (d + 1, 144, 82, [some (.ref 34), some (.int v0), some (.int (nI (b j))), some (.int (old)), some (.int (top)), some (.int (nI j)), o6], [.int (mYs I (b j) (2 * p + 1))], 0, 0, (mSH, I, L)) _
    have nz : 1 ≤ (mYs I (b j) (2 * p + 1)).toInt := by
      have := (mYs_in hm.2.2.2.1 (i := b j) (2 * p + 1) (by omega) (by omega)).1
      omega
    generalize mYs I (b j) (2 * p + 1) = y at nz ⊢
    apply s_de2
    all_goals intros
    all_goals first
      | exact v22
      | exact v8
      | (rw [c22, a2, nI_add, nI_1, ← a3]; exact ih (j + 1) (by omega) _ _ _)
      | (refine mCall (s2 := (d, 141, 0, [some (.ref 34), some (.long _), none, some (.long y.toInt64), none, none, none, none, none, none, none], [], 0, 0, (mSH, I, L))) rfl ?_
         refine w_bec (Or.inr (mNZ nz)) (fun L1 => ?_)
         exact mRt (r := some (.int 1)) (h := (mSH, I, L1)) rfl (mRet_int rfl) (hq _ _))
theorem m_depth1 {ro : Nat → Nat × (Nat → Int32)} {Q : mPo} {d : Nat} {I : Nat → Nat → Int32} {L : Nat → Nat → Int64} {s n t : Nat} {v0 : Int32} (hm : mM s n t I) (hv : mVal s n I) (hq : ∀ r L1, Q (some (.int r)) (mSH, I, L1)) : mWP mTb_ mFT ro (d + 1, 144, 32, [some (.ref 34), some (.int v0), none, none, none, none, none], [], 0, 0, (mSH, I, L)) Q := by
  obtain ⟨b, e1, e2, e3⟩ := hv
  refine s_de0 ?_
  rw [e1]
  refine mCall (s2 := (d, 124, 0, [some (.ref 34), some (.int (nI (0))), some (.int (nI (b 0))), none, none], [], 0, 0, (mSH, I, L))) rfl ?_
  refine w_my (by have := hm.1.2; omega) ?_
  show mWP mTb_ mFT ro (d + 1, 144, 45, [some (.ref 34), some (.int v0), some (.int (nI (b 0))), none, none, none, none], [.int (mYs I 0 (b 0))], 0, 0, (mSH, I, L)) _
  refine s_de0b (fun _ => ?_) (fun _ => hq _ _)
  exact l_depth hm e3 hq n 0 (by omega) _ _ _
theorem m_depth {ro : Nat → Nat × (Nat → Int32)} {Q : mPo} {d : Nat} {I : Nat → Nat → Int32} {L : Nat → Nat → Int64} {s n t : Nat} {v0 : Int32} (hm : mM s n t I) (hq : ∀ r I1 L1, mTx I I1 → mIM I1 → Q (some (.int r)) (mSH, I1, L1))   : mWP mTb_ mFT ro (d + 5, 144, 0, [some (.ref 34), some (.int v0), none, none, none, none, none], [], 0, 0, (mSH, I, L)) Q := by
  refine mB 3 (s2 := (d + 5, 144, 5, [some (.ref 34), some (.int v0), none, none, none, none, none], [.int 1584, .int 0, .int v0], 0, 0, (mSH, I, L))) rfl ?_
  refine mCall (s2 := (d + 4, 112, 0, [some (.int v0), some (.int 0), some (.int 1584)], [], 0, 0, (mSH, I, L))) rfl ?_
  refine mB 2 (s2 := (d + 4, 112, 2, [some (.int v0), some (.int 0), some (.int 1584)], [.int 0, .int v0], 0, 0, (mSH, I, L))) rfl ?_
  refine mBr (s2 := (d + 4, 112, 14, [some (.int v0), some (.int 0), some (.int 1584)], [], 0, 0, (mSH, I, L))) (s3 := (d + 4, 112, 5, [some (.int v0), some (.int 0), some (.int 1584)], [], 0, 0, (mSH, I, L))) rfl (fun c0 => ?_) (fun c0 => ?_)
  · refine mB 1 (s2 := (d + 4, 112, 15, [some (.int v0), some (.int 0), some (.int 1584)], [.int 0], 0, 0, (mSH, I, L))) rfl ?_
    refine mRt (r := (some (.int 0))) (h := (mSH, I, L)) rfl rfl ?_
    show mWP mTb_ mFT ro (d + 5, 144, 8, [some (.ref 34), some (.int v0), none, none, none, none, none], [.int 0], 0, 0, (mSH, I, L)) _
    refine mBT (s2 := (d + 5, 144, 11, [some (.ref 34), some (.int v0), none, none, none, none, none], [], 0, 0, (mSH, I, L))) rfl (by decide) ?_
    refine mB 2 (s2 := (d + 5, 144, 14, [some (.ref 34), some (.int v0), none, none, none, none, none], [.int (-2), .ref 34], 0, 0, (mSH, I, L))) rfl ?_
    refine mCall (s2 := (d + 4, 113, 0, [some (.ref 34), some (.int (-2))], [], 0, 0, (mSH, I, L))) rfl ?_
    refine mB 6 (s2 := (d + 4, 113, 9, [some (.ref 34), some (.int (-2))], [.int 0, .ref 39, .int 0, .ref 39], 0, 0, (mSH, I, L))) rfl ?_
    refine mRq (s2 := (d + 4, 113, 10, [some (.ref 34), some (.int (-2))], [.int (I 39 0), .int 0, .ref 39], 0, 0, (mSH, I, L))) rfl (by decide) ?_
    refine mB 2 (s2 := (d + 4, 113, 12, [some (.ref 34), some (.int (-2))], [.int ((I 39 0) + 1), .int 0, .ref 39], 0, 0, (mSH, I, L))) rfl ?_
    refine mRq (s2 := (d + 4, 113, 13, [some (.ref 34), some (.int (-2))], [], 0, 0, (mSH, (mUp I 39 0 ((I 39 0) + 1)), L))) rfl (by decide) ?_
    refine mB 1 (s2 := (d + 4, 113, 14, [some (.ref 34), some (.int (-2))], [.int (-2)], 0, 0, (mSH, (mUp I 39 0 ((I 39 0) + 1)), L))) rfl ?_
    refine mRt (r := (some (.int (-2)))) (h := (mSH, (mUp I 39 0 ((I 39 0) + 1)), L)) rfl (mRet_int rfl) ?_
    show mWP mTb_ mFT ro (d + 5, 144, 17, [some (.ref 34), some (.int v0), none, none, none, none, none], [.int (-2)], 0, 0, (mSH, (mUp I 39 0 ((I 39 0) + 1)), L)) _
    refine mRt (r := (some (.int (-2)))) (h := (mSH, (mUp I 39 0 ((I 39 0) + 1)), L)) rfl (mRet_int rfl) ?_
    exact hq _ _ _ ((mGr.up (by rfl) mGr.rf)).x ⟨s, n, t, ((mGr.up (by rfl) mGr.rf)).m hm⟩
  · refine mB 2 (s2 := (d + 4, 112, 7, [some (.int v0), some (.int 0), some (.int 1584)], [.int 1584, .int v0], 0, 0, (mSH, I, L))) rfl ?_
    refine mBr (s2 := (d + 4, 112, 14, [some (.int v0), some (.int 0), some (.int 1584)], [], 0, 0, (mSH, I, L))) (s3 := (d + 4, 112, 10, [some (.int v0), some (.int 0), some (.int 1584)], [], 0, 0, (mSH, I, L))) rfl (fun c1 => ?_) (fun c1 => ?_)
    · refine mB 1 (s2 := (d + 4, 112, 15, [some (.int v0), some (.int 0), some (.int 1584)], [.int 0], 0, 0, (mSH, I, L))) rfl ?_
      refine mRt (r := (some (.int 0))) (h := (mSH, I, L)) rfl rfl ?_
      show mWP mTb_ mFT ro (d + 5, 144, 8, [some (.ref 34), some (.int v0), none, none, none, none, none], [.int 0], 0, 0, (mSH, I, L)) _
      refine mBT (s2 := (d + 5, 144, 11, [some (.ref 34), some (.int v0), none, none, none, none, none], [], 0, 0, (mSH, I, L))) rfl (by decide) ?_
      refine mB 2 (s2 := (d + 5, 144, 14, [some (.ref 34), some (.int v0), none, none, none, none, none], [.int (-2), .ref 34], 0, 0, (mSH, I, L))) rfl ?_
      refine mCall (s2 := (d + 4, 113, 0, [some (.ref 34), some (.int (-2))], [], 0, 0, (mSH, I, L))) rfl ?_
      refine mB 6 (s2 := (d + 4, 113, 9, [some (.ref 34), some (.int (-2))], [.int 0, .ref 39, .int 0, .ref 39], 0, 0, (mSH, I, L))) rfl ?_
      refine mRq (s2 := (d + 4, 113, 10, [some (.ref 34), some (.int (-2))], [.int (I 39 0), .int 0, .ref 39], 0, 0, (mSH, I, L))) rfl (by decide) ?_
      refine mB 2 (s2 := (d + 4, 113, 12, [some (.ref 34), some (.int (-2))], [.int ((I 39 0) + 1), .int 0, .ref 39], 0, 0, (mSH, I, L))) rfl ?_
      refine mRq (s2 := (d + 4, 113, 13, [some (.ref 34), some (.int (-2))], [], 0, 0, (mSH, (mUp I 39 0 ((I 39 0) + 1)), L))) rfl (by decide) ?_
      refine mB 1 (s2 := (d + 4, 113, 14, [some (.ref 34), some (.int (-2))], [.int (-2)], 0, 0, (mSH, (mUp I 39 0 ((I 39 0) + 1)), L))) rfl ?_
      refine mRt (r := (some (.int (-2)))) (h := (mSH, (mUp I 39 0 ((I 39 0) + 1)), L)) rfl (mRet_int rfl) ?_
      show mWP mTb_ mFT ro (d + 5, 144, 17, [some (.ref 34), some (.int v0), none, none, none, none, none], [.int (-2)], 0, 0, (mSH, (mUp I 39 0 ((I 39 0) + 1)), L)) _
      refine mRt (r := (some (.int (-2)))) (h := (mSH, (mUp I 39 0 ((I 39 0) + 1)), L)) rfl (mRet_int rfl) ?_
      exact hq _ _ _ ((mGr.up (by rfl) mGr.rf)).x ⟨s, n, t, ((mGr.up (by rfl) mGr.rf)).m hm⟩
    · refine mB 2 (s2 := (d + 4, 112, 15, [some (.int v0), some (.int 0), some (.int 1584)], [.int 1], 0, 0, (mSH, I, L))) rfl ?_
      refine mRt (r := (some (.int 1))) (h := (mSH, I, L)) rfl rfl ?_
      show mWP mTb_ mFT ro (d + 5, 144, 8, [some (.ref 34), some (.int v0), none, none, none, none, none], [.int 1], 0, 0, (mSH, I, L)) _
      refine mBF (s3 := (d + 5, 144, 18, [some (.ref 34), some (.int v0), none, none, none, none, none], [], 0, 0, (mSH, I, L))) rfl (by decide) ?_
      refine mB 1 (s2 := (d + 5, 144, 19, [some (.ref 34), some (.int v0), none, none, none, none, none], [.ref 34], 0, 0, (mSH, I, L))) rfl ?_
      refine mCall (s2 := (d + 4, 132, 0, [some (.ref 34)], [], 0, 0, (mSH, I, L))) rfl ?_
      refine w_isf hm ?_ ?_
      · intro K1 gK1
        show mWP mTb_ mFT ro (d + 5, 144, 22, [some (.ref 34), some (.int v0), none, none, none, none, none], [.int 0], 0, 0, (mSH, K1, L)) _
        refine mBT (s2 := (d + 5, 144, 25, [some (.ref 34), some (.int v0), none, none, none, none, none], [], 0, 0, (mSH, K1, L))) rfl (by decide) ?_
        refine mB 2 (s2 := (d + 5, 144, 28, [some (.ref 34), some (.int v0), none, none, none, none, none], [.int (-3), .ref 34], 0, 0, (mSH, K1, L))) rfl ?_
        refine mCall (s2 := (d + 4, 113, 0, [some (.ref 34), some (.int (-3))], [], 0, 0, (mSH, K1, L))) rfl ?_
        refine mB 6 (s2 := (d + 4, 113, 9, [some (.ref 34), some (.int (-3))], [.int 1, .ref 39, .int 1, .ref 39], 0, 0, (mSH, K1, L))) rfl ?_
        refine mRq (s2 := (d + 4, 113, 10, [some (.ref 34), some (.int (-3))], [.int (K1 39 1), .int 1, .ref 39], 0, 0, (mSH, K1, L))) rfl (by decide) ?_
        refine mB 2 (s2 := (d + 4, 113, 12, [some (.ref 34), some (.int (-3))], [.int ((K1 39 1) + 1), .int 1, .ref 39], 0, 0, (mSH, K1, L))) rfl ?_
        refine mRq (s2 := (d + 4, 113, 13, [some (.ref 34), some (.int (-3))], [], 0, 0, (mSH, (mUp K1 39 1 ((K1 39 1) + 1)), L))) rfl (by decide) ?_
        refine mB 1 (s2 := (d + 4, 113, 14, [some (.ref 34), some (.int (-3))], [.int (-3)], 0, 0, (mSH, (mUp K1 39 1 ((K1 39 1) + 1)), L))) rfl ?_
        refine mRt (r := (some (.int (-3)))) (h := (mSH, (mUp K1 39 1 ((K1 39 1) + 1)), L)) rfl (mRet_int rfl) ?_
        show mWP mTb_ mFT ro (d + 5, 144, 31, [some (.ref 34), some (.int v0), none, none, none, none, none], [.int (-3)], 0, 0, (mSH, (mUp K1 39 1 ((K1 39 1) + 1)), L)) _
        refine mRt (r := (some (.int (-3)))) (h := (mSH, (mUp K1 39 1 ((K1 39 1) + 1)), L)) rfl (mRet_int rfl) ?_
        exact hq _ _ _ ((mGr.up (by rfl) gK1)).x ⟨s, n, t, ((mGr.up (by rfl) gK1)).m hm⟩
      · intro K1 gK1 vK1 pK1
        show mWP mTb_ mFT ro (d + 5, 144, 22, [some (.ref 34), some (.int v0), none, none, none, none, none], [.int 1], 0, 0, (mSH, K1, L)) _
        refine mBF (s3 := (d + 5, 144, 32, [some (.ref 34), some (.int v0), none, none, none, none, none], [], 0, 0, (mSH, K1, L))) rfl (by decide) ?_
        exact m_depth1 (gK1.m hm) vK1 (fun r L1 => hq _ _ _ (gK1).x ⟨s, n, t, (gK1).m hm⟩)
theorem s_by0 {ro : Nat → Nat × (Nat → Int32)} {Q : mPo} {d : Nat} {I : Nat → Nat → Int32} {L : Nat → Nat → Int64} {j : Nat}  (h1 : mWP mTb_ mFT ro (d + 1, 145, 9, [some (.ref 34), some (.int (nI j)), some (.int (I 46 1)), some (.int 0)], [], 0, 0, (mSH, I, L)) Q) : mWP mTb_ mFT ro (d + 1, 145, 0, [some (.ref 34), some (.int (nI j)), none, none], [], 0, 0, (mSH, I, L)) Q := by
  refine mB 3 (s2 := (d + 1, 145, 5, [some (.ref 34), some (.int (nI j)), none, none], [.int 1, .ref 46], 0, 0, (mSH, I, L))) rfl ?_
  refine mRq (s2 := (d + 1, 145, 6, [some (.ref 34), some (.int (nI j)), none, none], [.int (I 46 1)], 0, 0, (mSH, I, L))) rfl (by decide) ?_
  refine mB 3 (s2 := (d + 1, 145, 9, [some (.ref 34), some (.int (nI j)), some (.int (I 46 1)), some (.int 0)], [], 0, 0, (mSH, I, L))) rfl ?_
  exact h1
theorem s_by1 {ro : Nat → Nat × (Nat → Int32)} {Q : mPo} {d : Nat} {I : Nat → Nat → Int32} {L : Nat → Nat → Int64} {ii : Int32} {j k : Nat}  (h1 : ((nI j) ≤ (nI k)) → vp_in (2 + (nI j)) 20) (h2 : ((nI j) ≤ (nI k)) → mWP mTb_ mFT ro (d + 1, 145, 41, [some (.ref 34), some (.int (nI j)), some (.int ii), some (.int (nI k))], [.int (I 46 ((2 + (nI j)).toNatClampNeg)), .int ii, .ref 34], 0, 0, (mSH, I, L)) Q) (h3 : ¬ ((nI j) ≤ (nI k)) → vp_in (2 + (nI k)) 20) (h4 : ¬ ((nI j) ≤ (nI k)) → mWP mTb_ mFT ro (d + 1, 145, 9, [some (.ref 34), some (.int (nI j)), some (.int (ii + (I 46 ((2 + (nI k)).toNatClampNeg)))), some (.int ((nI k) + 1))], [], 0, 0, (mSH, I, L)) Q) : mWP mTb_ mFT ro (d + 1, 145, 9, [some (.ref 34), some (.int (nI j)), some (.int ii), some (.int (nI k))], [], 0, 0, (mSH, I, L)) Q := by
  refine mB 2 (s2 := (d + 1, 145, 11, [some (.ref 34), some (.int (nI j)), some (.int ii), some (.int (nI k))], [.int (nI j), .int (nI k)], 0, 0, (mSH, I, L))) rfl ?_
  refine mBr (s2 := (d + 1, 145, 31, [some (.ref 34), some (.int (nI j)), some (.int ii), some (.int (nI k))], [], 0, 0, (mSH, I, L))) (s3 := (d + 1, 145, 14, [some (.ref 34), some (.int (nI j)), some (.int ii), some (.int (nI k))], [], 0, 0, (mSH, I, L))) rfl (fun c0 => ?_) (fun c0 => ?_)
  · refine mB 7 (s2 := (d + 1, 145, 40, [some (.ref 34), some (.int (nI j)), some (.int ii), some (.int (nI k))], [.int (2 + (nI j)), .ref 46, .int ii, .ref 34], 0, 0, (mSH, I, L))) rfl ?_
    refine mRq (s2 := (d + 1, 145, 41, [some (.ref 34), some (.int (nI j)), some (.int ii), some (.int (nI k))], [.int (I 46 ((2 + (nI j)).toNatClampNeg)), .int ii, .ref 34], 0, 0, (mSH, I, L))) rfl (mVp_of (h1 (of_decide_eq_true c0))) ?_
    exact h2 (of_decide_eq_true c0)
  · refine mB 6 (s2 := (d + 1, 145, 22, [some (.ref 34), some (.int (nI j)), some (.int ii), some (.int (nI k))], [.int (2 + (nI k)), .ref 46, .int ii], 0, 0, (mSH, I, L))) rfl ?_
    refine mRq (s2 := (d + 1, 145, 23, [some (.ref 34), some (.int (nI j)), some (.int ii), some (.int (nI k))], [.int (I 46 ((2 + (nI k)).toNatClampNeg)), .int ii], 0, 0, (mSH, I, L))) rfl (mVp_of (h3 (of_decide_eq_false c0))) ?_
    refine mB 4 (s2 := (d + 1, 145, 9, [some (.ref 34), some (.int (nI j)), some (.int (ii + (I 46 ((2 + (nI k)).toNatClampNeg)))), some (.int ((nI k) + 1))], [], 0, 0, (mSH, I, L))) rfl ?_
    exact h4 (of_decide_eq_false c0)
theorem l_by {ro : Nat → Nat × (Nat → Int32)} {Q : mPo} {d : Nat} {I : Nat → Nat → Int32} {L : Nat → Nat → Int64} {s n t : Nat} {j : Nat} (hm : mM s n t I) {b : Nat → Nat} (hb : ∀ k, k < n → ∃ p, p ≤ 2 ∧ I 46 (2 + k) = nI (2 * p + 1) ∧ b (k + 1) = b k + (2 * p + 1) ∧ b (k + 1) ≤ s) (hj : j < n) (hq : ∀ r, Q (some (.int r)) (mSH, I, L)) : ∀ (e k : Nat), k + e = j → mWP mTb_ mFT ro (d + 1, 145, 9, [some (.ref 34), some (.int (nI j)), some (.int (nI (b k))), some (.int (nI k))], [], 0, 0, (mSH, I, L)) Q := by
  have h8 := hm.2.1.2
  have h16 := hm.1.2
  have e22 : ∀ k, (2 : Int32) + nI k = nI (2 + k) := fun k => nI_add 2 k
  have c22 : ∀ k, k < 8 → ((2 : Int32) + nI k).toNatClampNeg = 2 + k := fun k hk => by rw [e22, nI_clamp (by omega)]
  have v22 : ∀ k, k < 8 → vp_in ((2 : Int32) + nI k) 20 := fun k hk => by rw [e22]; exact vp_in_nI (by omega) (by omega)
  intro e
  induction e with
  | zero =>
    intro k he
    have e : k = j := by omega
    subst e
    have z : nI k ≤ nI k := nI_le (Nat.le_refl k) (by omega)
    obtain ⟨p, a1, a2, a3, a4⟩ := hb k hj
    refine s_by1 (fun _ => v22 k (by omega)) (fun _ => ?_) (fun c => absurd z c) (fun c => absurd z c)
    rw [c22 k (by omega), a2]
    refine mCall (s2 := (d, 124, 0, [some (.ref 34), some (.int (nI (b k))), some (.int (nI (2 * p + 1))), none, none], [], 0, 0, (mSH, I, L))) rfl ?_
    refine w_my (by omega) ?_
    exact mRt (r := some (.int _)) (h := (mSH, I, L)) rfl (mRet_int rfl) (hq _)
  | succ e ih =>
    intro k he
    have z : ¬ nI j ≤ nI k := nI_ge (by omega) (by omega)
    obtain ⟨p, a1, a2, a3, a4⟩ := hb k (by omega)
    refine s_by1 (fun c => absurd c z) (fun c => absurd c z) (fun _ => v22 k (by omega)) (fun _ => ?_)
    rw [c22 k (by omega), a2, nI_add, nI_1, ← a3]
    exact ih (k + 1) (by omega)
theorem w_by {ro : Nat → Nat × (Nat → Int32)} {Q : mPo} {d : Nat} {I : Nat → Nat → Int32} {L : Nat → Nat → Int64} {s n t : Nat} {j : Nat} (hm : mM s n t I) (hv : mVal s n I) (hj : j < n) (hq : ∀ r, Q (some (.int r)) (mSH, I, L)) : mWP mTb_ mFT ro (d + 1, 145, 0, [some (.ref 34), some (.int (nI j)), none, none], [], 0, 0, (mSH, I, L)) Q := by
  obtain ⟨b, e1, e2, e3⟩ := hv
  refine s_by0 ?_
  rw [e1]
  exact l_by hm e3 hj hq j 0 (by omega)
theorem m_rate1 {ro : Nat → Nat × (Nat → Int32)} {Q : mPo} {d : Nat} {I : Nat → Nat → Int32} {L : Nat → Nat → Int64} {s n t : Nat} {j : Nat} (hm : mM s n t I) (hj : j < n) (hq : ∀ r I1 L1, mTx I I1 → mIM I1 → Q (some (.int r)) (mSH, I1, L1))   : mWP mTb_ mFT ro (d + 5, 146, 15, [some (.ref 34), some (.int (nI j))], [], 0, 0, (mSH, I, L)) Q := by
  refine mB 1 (s2 := (d + 5, 146, 16, [some (.ref 34), some (.int (nI j))], [.ref 34], 0, 0, (mSH, I, L))) rfl ?_
  refine mCall (s2 := (d + 4, 132, 0, [some (.ref 34)], [], 0, 0, (mSH, I, L))) rfl ?_
  refine w_isf hm ?_ ?_
  · intro K1 gK1
    show mWP mTb_ mFT ro (d + 5, 146, 19, [some (.ref 34), some (.int (nI j))], [.int 0], 0, 0, (mSH, K1, L)) _
    refine mBT (s2 := (d + 5, 146, 42, [some (.ref 34), some (.int (nI j))], [], 0, 0, (mSH, K1, L))) rfl (by decide) ?_
    refine mB 2 (s2 := (d + 5, 146, 45, [some (.ref 34), some (.int (nI j))], [.int (-3), .ref 34], 0, 0, (mSH, K1, L))) rfl ?_
    refine mCall (s2 := (d + 4, 113, 0, [some (.ref 34), some (.int (-3))], [], 0, 0, (mSH, K1, L))) rfl ?_
    refine mB 6 (s2 := (d + 4, 113, 9, [some (.ref 34), some (.int (-3))], [.int 1, .ref 39, .int 1, .ref 39], 0, 0, (mSH, K1, L))) rfl ?_
    refine mRq (s2 := (d + 4, 113, 10, [some (.ref 34), some (.int (-3))], [.int (K1 39 1), .int 1, .ref 39], 0, 0, (mSH, K1, L))) rfl (by decide) ?_
    refine mB 2 (s2 := (d + 4, 113, 12, [some (.ref 34), some (.int (-3))], [.int ((K1 39 1) + 1), .int 1, .ref 39], 0, 0, (mSH, K1, L))) rfl ?_
    refine mRq (s2 := (d + 4, 113, 13, [some (.ref 34), some (.int (-3))], [], 0, 0, (mSH, (mUp K1 39 1 ((K1 39 1) + 1)), L))) rfl (by decide) ?_
    refine mB 1 (s2 := (d + 4, 113, 14, [some (.ref 34), some (.int (-3))], [.int (-3)], 0, 0, (mSH, (mUp K1 39 1 ((K1 39 1) + 1)), L))) rfl ?_
    refine mRt (r := (some (.int (-3)))) (h := (mSH, (mUp K1 39 1 ((K1 39 1) + 1)), L)) rfl (mRet_int rfl) ?_
    show mWP mTb_ mFT ro (d + 5, 146, 48, [some (.ref 34), some (.int (nI j))], [.int (-3)], 0, 0, (mSH, (mUp K1 39 1 ((K1 39 1) + 1)), L)) _
    refine mRt (r := (some (.int (-3)))) (h := (mSH, (mUp K1 39 1 ((K1 39 1) + 1)), L)) rfl (mRet_int rfl) ?_
    exact hq _ _ _ ((mGr.up (by rfl) gK1)).x ⟨s, n, t, ((mGr.up (by rfl) gK1)).m hm⟩
  · intro K1 gK1 vK1 pK1
    show mWP mTb_ mFT ro (d + 5, 146, 19, [some (.ref 34), some (.int (nI j))], [.int 1], 0, 0, (mSH, K1, L)) _
    refine mBF (s3 := (d + 5, 146, 22, [some (.ref 34), some (.int (nI j))], [], 0, 0, (mSH, K1, L))) rfl (by decide) ?_
    refine mB 4 (s2 := (d + 5, 146, 28, [some (.ref 34), some (.int (nI j))], [.int (nI j), .ref 36, .ref 34], 0, 0, (mSH, K1, L))) rfl ?_
    refine mRq (s2 := (d + 5, 146, 29, [some (.ref 34), some (.int (nI j))], [.int (K1 36 ((nI j).toNatClampNeg)), .ref 34], 0, 0, (mSH, K1, L))) rfl (mVp_of (vp_in_nI (by have := hm.1.2; have := hm.2.1.2; omega) (by omega))) ?_
    refine mB 3 (s2 := (d + 5, 146, 32, [some (.ref 34), some (.int (nI j))], [.int (nI j), .ref 34, .long ((K1 36 ((nI j).toNatClampNeg) : Int32).toInt64), .ref 34], 0, 0, (mSH, K1, L))) rfl ?_
    refine mCall (s2 := (d + 4, 145, 0, [some (.ref 34), some (.int (nI j)), none, none], [], 0, 0, (mSH, K1, L))) rfl ?_
    refine w_by (gK1.m hm) vK1 hj (fun r2 => ?_)
    show mWP mTb_ mFT ro (d + 5, 146, 35, [some (.ref 34), some (.int (nI j))], [.int r2, .long ((K1 36 ((nI j).toNatClampNeg) : Int32).toInt64), .ref 34], 0, 0, (mSH, K1, L)) _
    refine mB 1 (s2 := (d + 5, 146, 36, [some (.ref 34), some (.int (nI j))], [.long ((r2 : Int32).toInt64), .long ((K1 36 ((nI j).toNatClampNeg) : Int32).toInt64), .ref 34], 0, 0, (mSH, K1, L))) rfl ?_
    refine mCall (s2 := (d + 4, 141, 0, [some (.ref 34), some (.long ((K1 36 ((nI j).toNatClampNeg) : Int32).toInt64)), none, some (.long ((r2 : Int32).toInt64)), none, none, none, none, none, none, none], [], 0, 0, (mSH, K1, L))) rfl ?_
    refine w_bec (Or.inl (by rw [nI_clamp (by have := hm.2.1.2; omega)]; exact mNZ ((gK1.m hm).2.2.2.2.1 j hj).1)) (fun L3 => ?_)
    show mWP mTb_ mFT ro (d + 5, 146, 39, [some (.ref 34), some (.int (nI j))], [.int 1], 0, 0, (mSH, K1, L3)) _
    refine mB 1 (s2 := (d + 5, 146, 48, [some (.ref 34), some (.int (nI j))], [.int 1], 0, 0, (mSH, K1, L3))) rfl ?_
    refine mRt (r := (some (.int 1))) (h := (mSH, K1, L3)) rfl (mRet_int rfl) ?_
    exact hq _ _ _ (gK1).x ⟨s, n, t, (gK1).m hm⟩
theorem m_rate {ro : Nat → Nat × (Nat → Int32)} {Q : mPo} {d : Nat} {I : Nat → Nat → Int32} {L : Nat → Nat → Int64} {s n t : Nat} {v0 : Int32} (hm : mM s n t I) (hq : ∀ r I1 L1, mTx I I1 → mIM I1 → Q (some (.int r)) (mSH, I1, L1))   : mWP mTb_ mFT ro (d + 5, 146, 0, [some (.ref 34), some (.int v0)], [], 0, 0, (mSH, I, L)) Q := by
  refine mB 2 (s2 := (d + 5, 146, 2, [some (.ref 34), some (.int v0)], [.int v0, .ref 34], 0, 0, (mSH, I, L))) rfl ?_
  refine mCall (s2 := (d + 4, 115, 0, [some (.ref 34), some (.int v0)], [], 0, 0, (mSH, I, L))) rfl ?_
  refine mB 6 (s2 := (d + 4, 115, 8, [some (.ref 34), some (.int v0)], [.int ((I 34 3) - 1), .int 0, .int v0], 0, 0, (mSH, I, L))) rfl ?_
  refine mCall (s2 := (d + 3, 112, 0, [some (.int v0), some (.int 0), some (.int ((I 34 3) - 1))], [], 0, 0, (mSH, I, L))) rfl ?_
  refine mB 2 (s2 := (d + 3, 112, 2, [some (.int v0), some (.int 0), some (.int ((I 34 3) - 1))], [.int 0, .int v0], 0, 0, (mSH, I, L))) rfl ?_
  refine mBr (s2 := (d + 3, 112, 14, [some (.int v0), some (.int 0), some (.int ((I 34 3) - 1))], [], 0, 0, (mSH, I, L))) (s3 := (d + 3, 112, 5, [some (.int v0), some (.int 0), some (.int ((I 34 3) - 1))], [], 0, 0, (mSH, I, L))) rfl (fun c0 => ?_) (fun c0 => ?_)
  · refine mB 1 (s2 := (d + 3, 112, 15, [some (.int v0), some (.int 0), some (.int ((I 34 3) - 1))], [.int 0], 0, 0, (mSH, I, L))) rfl ?_
    refine mRt (r := (some (.int 0))) (h := (mSH, I, L)) rfl rfl ?_
    show mWP mTb_ mFT ro (d + 4, 115, 11, [some (.ref 34), some (.int v0)], [.int 0], 0, 0, (mSH, I, L)) _
    refine mRt (r := (some (.int 0))) (h := (mSH, I, L)) rfl rfl ?_
    show mWP mTb_ mFT ro (d + 5, 146, 5, [some (.ref 34), some (.int v0)], [.int 0], 0, 0, (mSH, I, L)) _
    refine mBT (s2 := (d + 5, 146, 8, [some (.ref 34), some (.int v0)], [], 0, 0, (mSH, I, L))) rfl (by decide) ?_
    refine mB 2 (s2 := (d + 5, 146, 11, [some (.ref 34), some (.int v0)], [.int (-2), .ref 34], 0, 0, (mSH, I, L))) rfl ?_
    refine mCall (s2 := (d + 4, 113, 0, [some (.ref 34), some (.int (-2))], [], 0, 0, (mSH, I, L))) rfl ?_
    refine mB 6 (s2 := (d + 4, 113, 9, [some (.ref 34), some (.int (-2))], [.int 0, .ref 39, .int 0, .ref 39], 0, 0, (mSH, I, L))) rfl ?_
    refine mRq (s2 := (d + 4, 113, 10, [some (.ref 34), some (.int (-2))], [.int (I 39 0), .int 0, .ref 39], 0, 0, (mSH, I, L))) rfl (by decide) ?_
    refine mB 2 (s2 := (d + 4, 113, 12, [some (.ref 34), some (.int (-2))], [.int ((I 39 0) + 1), .int 0, .ref 39], 0, 0, (mSH, I, L))) rfl ?_
    refine mRq (s2 := (d + 4, 113, 13, [some (.ref 34), some (.int (-2))], [], 0, 0, (mSH, (mUp I 39 0 ((I 39 0) + 1)), L))) rfl (by decide) ?_
    refine mB 1 (s2 := (d + 4, 113, 14, [some (.ref 34), some (.int (-2))], [.int (-2)], 0, 0, (mSH, (mUp I 39 0 ((I 39 0) + 1)), L))) rfl ?_
    refine mRt (r := (some (.int (-2)))) (h := (mSH, (mUp I 39 0 ((I 39 0) + 1)), L)) rfl (mRet_int rfl) ?_
    show mWP mTb_ mFT ro (d + 5, 146, 14, [some (.ref 34), some (.int v0)], [.int (-2)], 0, 0, (mSH, (mUp I 39 0 ((I 39 0) + 1)), L)) _
    refine mRt (r := (some (.int (-2)))) (h := (mSH, (mUp I 39 0 ((I 39 0) + 1)), L)) rfl (mRet_int rfl) ?_
    exact hq _ _ _ ((mGr.up (by rfl) mGr.rf)).x ⟨s, n, t, ((mGr.up (by rfl) mGr.rf)).m hm⟩
  · refine mB 2 (s2 := (d + 3, 112, 7, [some (.int v0), some (.int 0), some (.int ((I 34 3) - 1))], [.int ((I 34 3) - 1), .int v0], 0, 0, (mSH, I, L))) rfl ?_
    refine mBr (s2 := (d + 3, 112, 14, [some (.int v0), some (.int 0), some (.int ((I 34 3) - 1))], [], 0, 0, (mSH, I, L))) (s3 := (d + 3, 112, 10, [some (.int v0), some (.int 0), some (.int ((I 34 3) - 1))], [], 0, 0, (mSH, I, L))) rfl (fun c1 => ?_) (fun c1 => ?_)
    · refine mB 1 (s2 := (d + 3, 112, 15, [some (.int v0), some (.int 0), some (.int ((I 34 3) - 1))], [.int 0], 0, 0, (mSH, I, L))) rfl ?_
      refine mRt (r := (some (.int 0))) (h := (mSH, I, L)) rfl rfl ?_
      show mWP mTb_ mFT ro (d + 4, 115, 11, [some (.ref 34), some (.int v0)], [.int 0], 0, 0, (mSH, I, L)) _
      refine mRt (r := (some (.int 0))) (h := (mSH, I, L)) rfl rfl ?_
      show mWP mTb_ mFT ro (d + 5, 146, 5, [some (.ref 34), some (.int v0)], [.int 0], 0, 0, (mSH, I, L)) _
      refine mBT (s2 := (d + 5, 146, 8, [some (.ref 34), some (.int v0)], [], 0, 0, (mSH, I, L))) rfl (by decide) ?_
      refine mB 2 (s2 := (d + 5, 146, 11, [some (.ref 34), some (.int v0)], [.int (-2), .ref 34], 0, 0, (mSH, I, L))) rfl ?_
      refine mCall (s2 := (d + 4, 113, 0, [some (.ref 34), some (.int (-2))], [], 0, 0, (mSH, I, L))) rfl ?_
      refine mB 6 (s2 := (d + 4, 113, 9, [some (.ref 34), some (.int (-2))], [.int 0, .ref 39, .int 0, .ref 39], 0, 0, (mSH, I, L))) rfl ?_
      refine mRq (s2 := (d + 4, 113, 10, [some (.ref 34), some (.int (-2))], [.int (I 39 0), .int 0, .ref 39], 0, 0, (mSH, I, L))) rfl (by decide) ?_
      refine mB 2 (s2 := (d + 4, 113, 12, [some (.ref 34), some (.int (-2))], [.int ((I 39 0) + 1), .int 0, .ref 39], 0, 0, (mSH, I, L))) rfl ?_
      refine mRq (s2 := (d + 4, 113, 13, [some (.ref 34), some (.int (-2))], [], 0, 0, (mSH, (mUp I 39 0 ((I 39 0) + 1)), L))) rfl (by decide) ?_
      refine mB 1 (s2 := (d + 4, 113, 14, [some (.ref 34), some (.int (-2))], [.int (-2)], 0, 0, (mSH, (mUp I 39 0 ((I 39 0) + 1)), L))) rfl ?_
      refine mRt (r := (some (.int (-2)))) (h := (mSH, (mUp I 39 0 ((I 39 0) + 1)), L)) rfl (mRet_int rfl) ?_
      show mWP mTb_ mFT ro (d + 5, 146, 14, [some (.ref 34), some (.int v0)], [.int (-2)], 0, 0, (mSH, (mUp I 39 0 ((I 39 0) + 1)), L)) _
      refine mRt (r := (some (.int (-2)))) (h := (mSH, (mUp I 39 0 ((I 39 0) + 1)), L)) rfl (mRet_int rfl) ?_
      exact hq _ _ _ ((mGr.up (by rfl) mGr.rf)).x ⟨s, n, t, ((mGr.up (by rfl) mGr.rf)).m hm⟩
    · refine mB 2 (s2 := (d + 3, 112, 15, [some (.int v0), some (.int 0), some (.int ((I 34 3) - 1))], [.int 1], 0, 0, (mSH, I, L))) rfl ?_
      refine mRt (r := (some (.int 1))) (h := (mSH, I, L)) rfl rfl ?_
      show mWP mTb_ mFT ro (d + 4, 115, 11, [some (.ref 34), some (.int v0)], [.int 1], 0, 0, (mSH, I, L)) _
      refine mRt (r := (some (.int 1))) (h := (mSH, I, L)) rfl rfl ?_
      show mWP mTb_ mFT ro (d + 5, 146, 5, [some (.ref 34), some (.int v0)], [.int 1], 0, 0, (mSH, I, L)) _
      refine mBF (s3 := (d + 5, 146, 15, [some (.ref 34), some (.int v0)], [], 0, 0, (mSH, I, L))) rfl (by decide) ?_
      (obtain ⟨j, hj, e⟩ := mNat hm.2.1.1 (Nat.le_trans hm.2.1.2 (by omega)) (of_decide_eq_false c0) (of_decide_eq_false c1); subst e; exact m_rate1 hm hj hq)
theorem s_fa {ro : Nat → Nat × (Nat → Int32)} {Q : mPo} {d : Nat} {I : Nat → Nat → Int32} {L : Nat → Nat → Int64} {s n t : Nat} {v0 : Int32} {b k : Nat} {o4 : Option Value} (hm : mM s n t I) (hv : mVal s n I) (hb : b < n) (hk : ¬ (I 34 3 ≤ nI k) → k < n) (hq : ∀ r, Q (some (.int r)) (mSH, I, L)) (ih : ¬ (I 34 3 ≤ nI k) → ∀ (b : Nat) (o4 : Option Value), b < n → mWP mTb_ mFT ro (d + 2, 147, 34, [some (.ref 34), some (.int v0), some (.int (nI b)), some (.int (nI k + 1)), o4], [], 0, 0, (mSH, I, L)) Q)   : mWP mTb_ mFT ro (d + 2, 147, 34, [some (.ref 34), some (.int v0), some (.int (nI b)), some (.int (nI k)), o4], [], 0, 0, (mSH, I, L)) Q := by
  refine mB 3 (s2 := (d + 2, 147, 39, [some (.ref 34), some (.int v0), some (.int (nI b)), some (.int (nI k)), o4], [.int (I 34 3), .int (nI k)], 0, 0, (mSH, I, L))) rfl ?_
  refine mBr (s2 := (d + 2, 147, 100, [some (.ref 34), some (.int v0), some (.int (nI b)), some (.int (nI k)), o4], [], 0, 0, (mSH, I, L))) (s3 := (d + 2, 147, 42, [some (.ref 34), some (.int v0), some (.int (nI b)), some (.int (nI k)), o4], [], 0, 0, (mSH, I, L))) rfl (fun c0 => ?_) (fun c0 => ?_)
  · refine mB 1 (s2 := (d + 2, 147, 101, [some (.ref 34), some (.int v0), some (.int (nI b)), some (.int (nI k)), o4], [.int (nI b)], 0, 0, (mSH, I, L))) rfl ?_
    refine mRt (r := (some (.int (nI b)))) (h := (mSH, I, L)) rfl (mRet_int rfl) ?_
    exact hq _
  · refine mB 3 (s2 := (d + 2, 147, 47, [some (.ref 34), some (.int v0), some (.int (nI b)), some (.int (nI k)), o4], [.int (nI k), .ref 36], 0, 0, (mSH, I, L))) rfl ?_
    refine mRq (s2 := (d + 2, 147, 48, [some (.ref 34), some (.int v0), some (.int (nI b)), some (.int (nI k)), o4], [.int (I 36 ((nI k).toNatClampNeg))], 0, 0, (mSH, I, L))) rfl (mVp_of (vp_in_nI (by have := hm.2.1.2; have := hk (of_decide_eq_false c0); omega) (by omega))) ?_
    refine mB 2 (s2 := (d + 2, 147, 50, [some (.ref 34), some (.int v0), some (.int (nI b)), some (.int (nI k)), o4], [.int (nI b), .ref 34, .int (I 36 ((nI k).toNatClampNeg))], 0, 0, (mSH, I, L))) rfl ?_
    refine mCall (s2 := (d + 1, 145, 0, [some (.ref 34), some (.int (nI b)), none, none], [], 0, 0, (mSH, I, L))) rfl ?_
    refine w_by hm hv hb (fun r1 => ?_)
    show mWP mTb_ mFT ro (d + 2, 147, 53, [some (.ref 34), some (.int v0), some (.int (nI b)), some (.int (nI k)), o4], [.int r1, .int (I 36 ((nI k).toNatClampNeg))], 0, 0, (mSH, I, L)) _
    refine mB 4 (s2 := (d + 2, 147, 59, [some (.ref 34), some (.int v0), some (.int (nI b)), some (.int (nI k)), o4], [.int (nI b), .ref 36, .int ((I 36 ((nI k).toNatClampNeg)) * r1)], 0, 0, (mSH, I, L))) rfl ?_
    refine mRq (s2 := (d + 2, 147, 60, [some (.ref 34), some (.int v0), some (.int (nI b)), some (.int (nI k)), o4], [.int (I 36 ((nI b).toNatClampNeg)), .int ((I 36 ((nI k).toNatClampNeg)) * r1)], 0, 0, (mSH, I, L))) rfl (mVp_of (vp_in_nI (by have := hm.2.1.2; omega) (by omega))) ?_
    refine mB 2 (s2 := (d + 2, 147, 62, [some (.ref 34), some (.int v0), some (.int (nI b)), some (.int (nI k)), o4], [.int (nI k), .ref 34, .int (I 36 ((nI b).toNatClampNeg)), .int ((I 36 ((nI k).toNatClampNeg)) * r1)], 0, 0, (mSH, I, L))) rfl ?_
    refine mCall (s2 := (d + 1, 145, 0, [some (.ref 34), some (.int (nI k)), none, none], [], 0, 0, (mSH, I, L))) rfl ?_
    refine w_by hm hv (hk (of_decide_eq_false c0)) (fun r2 => ?_)
    show mWP mTb_ mFT ro (d + 2, 147, 65, [some (.ref 34), some (.int v0), some (.int (nI b)), some (.int (nI k)), o4], [.int r2, .int (I 36 ((nI b).toNatClampNeg)), .int ((I 36 ((nI k).toNatClampNeg)) * r1)], 0, 0, (mSH, I, L)) _
    refine mB 4 (s2 := (d + 2, 147, 70, [some (.ref 34), some (.int v0), some (.int (nI b)), some (.int (nI k)), some (.int (((I 36 ((nI k).toNatClampNeg)) * r1) - ((I 36 ((nI b).toNatClampNeg)) * r2)))], [.int v0], 0, 0, (mSH, I, L))) rfl ?_
    refine mBr (s2 := (d + 2, 147, 73, [some (.ref 34), some (.int v0), some (.int (nI b)), some (.int (nI k)), some (.int (((I 36 ((nI k).toNatClampNeg)) * r1) - ((I 36 ((nI b).toNatClampNeg)) * r2)))], [], 0, 0, (mSH, I, L))) (s3 := (d + 2, 147, 78, [some (.ref 34), some (.int v0), some (.int (nI b)), some (.int (nI k)), some (.int (((I 36 ((nI k).toNatClampNeg)) * r1) - ((I 36 ((nI b).toNatClampNeg)) * r2)))], [], 0, 0, (mSH, I, L))) rfl (fun c3 => ?_) (fun c3 => ?_)
    · refine mB 1 (s2 := (d + 2, 147, 75, [some (.ref 34), some (.int v0), some (.int (nI b)), some (.int (nI k)), some (.int (((I 36 ((nI k).toNatClampNeg)) * r1) - ((I 36 ((nI b).toNatClampNeg)) * r2)))], [.int (((I 36 ((nI k).toNatClampNeg)) * r1) - ((I 36 ((nI b).toNatClampNeg)) * r2))], 0, 0, (mSH, I, L))) rfl ?_
      refine mBr (s2 := (d + 2, 147, 88, [some (.ref 34), some (.int v0), some (.int (nI b)), some (.int (nI k)), some (.int (((I 36 ((nI k).toNatClampNeg)) * r1) - ((I 36 ((nI b).toNatClampNeg)) * r2)))], [], 0, 0, (mSH, I, L))) (s3 := (d + 2, 147, 78, [some (.ref 34), some (.int v0), some (.int (nI b)), some (.int (nI k)), some (.int (((I 36 ((nI k).toNatClampNeg)) * r1) - ((I 36 ((nI b).toNatClampNeg)) * r2)))], [], 0, 0, (mSH, I, L))) rfl (fun c4 => ?_) (fun c4 => ?_)
      · refine mB 5 (s2 := (d + 2, 147, 34, [some (.ref 34), some (.int v0), some (.int (nI k)), some (.int ((nI k) + 1)), some (.int (((I 36 ((nI k).toNatClampNeg)) * r1) - ((I 36 ((nI b).toNatClampNeg)) * r2)))], [], 0, 0, (mSH, I, L))) rfl ?_
        exact ih (of_decide_eq_false c0) _ _ (hk (of_decide_eq_false c0))
      · refine mB 2 (s2 := (d + 2, 147, 80, [some (.ref 34), some (.int v0), some (.int (nI b)), some (.int (nI k)), some (.int (((I 36 ((nI k).toNatClampNeg)) * r1) - ((I 36 ((nI b).toNatClampNeg)) * r2)))], [.int 1, .int v0], 0, 0, (mSH, I, L))) rfl ?_
        refine mBF (s3 := (d + 2, 147, 92, [some (.ref 34), some (.int v0), some (.int (nI b)), some (.int (nI k)), some (.int (((I 36 ((nI k).toNatClampNeg)) * r1) - ((I 36 ((nI b).toNatClampNeg)) * r2)))], [], 0, 0, (mSH, I, L))) rfl (by first | (simp only [of_decide_eq_true c3]; first | decide | rfl) | decide | rfl) ?_
        refine mB 4 (s2 := (d + 2, 147, 34, [some (.ref 34), some (.int v0), some (.int (nI b)), some (.int ((nI k) + 1)), some (.int (((I 36 ((nI k).toNatClampNeg)) * r1) - ((I 36 ((nI b).toNatClampNeg)) * r2)))], [], 0, 0, (mSH, I, L))) rfl ?_
        exact ih (of_decide_eq_false c0) _ _ hb
    · refine mB 2 (s2 := (d + 2, 147, 80, [some (.ref 34), some (.int v0), some (.int (nI b)), some (.int (nI k)), some (.int (((I 36 ((nI k).toNatClampNeg)) * r1) - ((I 36 ((nI b).toNatClampNeg)) * r2)))], [.int 1, .int v0], 0, 0, (mSH, I, L))) rfl ?_
      refine mBr (s2 := (d + 2, 147, 83, [some (.ref 34), some (.int v0), some (.int (nI b)), some (.int (nI k)), some (.int (((I 36 ((nI k).toNatClampNeg)) * r1) - ((I 36 ((nI b).toNatClampNeg)) * r2)))], [], 0, 0, (mSH, I, L))) (s3 := (d + 2, 147, 92, [some (.ref 34), some (.int v0), some (.int (nI b)), some (.int (nI k)), some (.int (((I 36 ((nI k).toNatClampNeg)) * r1) - ((I 36 ((nI b).toNatClampNeg)) * r2)))], [], 0, 0, (mSH, I, L))) rfl (fun c4 => ?_) (fun c4 => ?_)
      · refine mB 1 (s2 := (d + 2, 147, 85, [some (.ref 34), some (.int v0), some (.int (nI b)), some (.int (nI k)), some (.int (((I 36 ((nI k).toNatClampNeg)) * r1) - ((I 36 ((nI b).toNatClampNeg)) * r2)))], [.int (((I 36 ((nI k).toNatClampNeg)) * r1) - ((I 36 ((nI b).toNatClampNeg)) * r2))], 0, 0, (mSH, I, L))) rfl ?_
        refine mBr (s2 := (d + 2, 147, 92, [some (.ref 34), some (.int v0), some (.int (nI b)), some (.int (nI k)), some (.int (((I 36 ((nI k).toNatClampNeg)) * r1) - ((I 36 ((nI b).toNatClampNeg)) * r2)))], [], 0, 0, (mSH, I, L))) (s3 := (d + 2, 147, 88, [some (.ref 34), some (.int v0), some (.int (nI b)), some (.int (nI k)), some (.int (((I 36 ((nI k).toNatClampNeg)) * r1) - ((I 36 ((nI b).toNatClampNeg)) * r2)))], [], 0, 0, (mSH, I, L))) rfl (fun c5 => ?_) (fun c5 => ?_)
        · refine mB 4 (s2 := (d + 2, 147, 34, [some (.ref 34), some (.int v0), some (.int (nI b)), some (.int ((nI k) + 1)), some (.int (((I 36 ((nI k).toNatClampNeg)) * r1) - ((I 36 ((nI b).toNatClampNeg)) * r2)))], [], 0, 0, (mSH, I, L))) rfl ?_
          exact ih (of_decide_eq_false c0) _ _ hb
        · refine mB 5 (s2 := (d + 2, 147, 34, [some (.ref 34), some (.int v0), some (.int (nI k)), some (.int ((nI k) + 1)), some (.int (((I 36 ((nI k).toNatClampNeg)) * r1) - ((I 36 ((nI b).toNatClampNeg)) * r2)))], [], 0, 0, (mSH, I, L))) rfl ?_
          exact ih (of_decide_eq_false c0) _ _ (hk (of_decide_eq_false c0))
      · refine mB 4 (s2 := (d + 2, 147, 34, [some (.ref 34), some (.int v0), some (.int (nI b)), some (.int ((nI k) + 1)), some (.int (((I 36 ((nI k).toNatClampNeg)) * r1) - ((I 36 ((nI b).toNatClampNeg)) * r2)))], [], 0, 0, (mSH, I, L))) rfl ?_
        exact ih (of_decide_eq_false c0) _ _ hb
theorem l_fa {ro : Nat → Nat × (Nat → Int32)} {Q : mPo} {d : Nat} {I : Nat → Nat → Int32} {L : Nat → Nat → Int64} {s n t : Nat} {v0 : Int32} (hm : mM s n t I) (hv : mVal s n I) (hq : ∀ r, Q (some (.int r)) (mSH, I, L)) : ∀ (e k : Nat), n ≤ k + e → k < 20 → ∀ (b : Nat) (o4 : Option Value), b < n → mWP mTb_ mFT ro (d + 2, 147, 34, [some (.ref 34), some (.int v0), some (.int (nI b)), some (.int (nI k)), o4], [], 0, 0, (mSH, I, L)) Q := by
  have h8 := hm.2.1.2
  have hk : ∀ k, k < 20 → ¬ (I 34 3 ≤ nI k) → k < n := fun k h z => by
    rw [hm.2.1.1, nI_leI (by omega) (by omega)] at z
    omega
  intro e
  induction e with
  | zero => exact fun k he hk2 b o4 hb => s_fa hm hv hb (hk k hk2) hq (fun c => absurd (hk k hk2 c) (by omega))
  | succ e ih =>
    intro k he hk2 b o4 hb
    refine s_fa hm hv hb (hk k hk2) hq (fun c b o4 hb => ?_)
    rw [nI_1]
    exact ih (k + 1) (by omega) (by have := hk k hk2 c; omega) b o4 hb
theorem m_fastest {ro : Nat → Nat × (Nat → Int32)} {Q : mPo} {d : Nat} {I : Nat → Nat → Int32} {L : Nat → Nat → Int64} {s n t : Nat} {v0 : Int32} (hm : mM s n t I) (hq : ∀ r I1 L1, mTx I I1 → mIM I1 → Q (some (.int r)) (mSH, I1, L1))   : mWP mTb_ mFT ro (d + 5, 147, 0, [some (.ref 34), some (.int v0), none, none, none], [], 0, 0, (mSH, I, L)) Q := by
  refine mB 3 (s2 := (d + 5, 147, 3, [some (.ref 34), some (.int v0), none, none, none], [.int 1, .int 0, .int v0], 0, 0, (mSH, I, L))) rfl ?_
  refine mCall (s2 := (d + 4, 112, 0, [some (.int v0), some (.int 0), some (.int 1)], [], 0, 0, (mSH, I, L))) rfl ?_
  refine mB 2 (s2 := (d + 4, 112, 2, [some (.int v0), some (.int 0), some (.int 1)], [.int 0, .int v0], 0, 0, (mSH, I, L))) rfl ?_
  refine mBr (s2 := (d + 4, 112, 14, [some (.int v0), some (.int 0), some (.int 1)], [], 0, 0, (mSH, I, L))) (s3 := (d + 4, 112, 5, [some (.int v0), some (.int 0), some (.int 1)], [], 0, 0, (mSH, I, L))) rfl (fun c0 => ?_) (fun c0 => ?_)
  · refine mB 1 (s2 := (d + 4, 112, 15, [some (.int v0), some (.int 0), some (.int 1)], [.int 0], 0, 0, (mSH, I, L))) rfl ?_
    refine mRt (r := (some (.int 0))) (h := (mSH, I, L)) rfl rfl ?_
    show mWP mTb_ mFT ro (d + 5, 147, 6, [some (.ref 34), some (.int v0), none, none, none], [.int 0], 0, 0, (mSH, I, L)) _
    refine mBT (s2 := (d + 5, 147, 9, [some (.ref 34), some (.int v0), none, none, none], [], 0, 0, (mSH, I, L))) rfl (by decide) ?_
    refine mB 2 (s2 := (d + 5, 147, 12, [some (.ref 34), some (.int v0), none, none, none], [.int (-2), .ref 34], 0, 0, (mSH, I, L))) rfl ?_
    refine mCall (s2 := (d + 4, 113, 0, [some (.ref 34), some (.int (-2))], [], 0, 0, (mSH, I, L))) rfl ?_
    refine mB 6 (s2 := (d + 4, 113, 9, [some (.ref 34), some (.int (-2))], [.int 0, .ref 39, .int 0, .ref 39], 0, 0, (mSH, I, L))) rfl ?_
    refine mRq (s2 := (d + 4, 113, 10, [some (.ref 34), some (.int (-2))], [.int (I 39 0), .int 0, .ref 39], 0, 0, (mSH, I, L))) rfl (by decide) ?_
    refine mB 2 (s2 := (d + 4, 113, 12, [some (.ref 34), some (.int (-2))], [.int ((I 39 0) + 1), .int 0, .ref 39], 0, 0, (mSH, I, L))) rfl ?_
    refine mRq (s2 := (d + 4, 113, 13, [some (.ref 34), some (.int (-2))], [], 0, 0, (mSH, (mUp I 39 0 ((I 39 0) + 1)), L))) rfl (by decide) ?_
    refine mB 1 (s2 := (d + 4, 113, 14, [some (.ref 34), some (.int (-2))], [.int (-2)], 0, 0, (mSH, (mUp I 39 0 ((I 39 0) + 1)), L))) rfl ?_
    refine mRt (r := (some (.int (-2)))) (h := (mSH, (mUp I 39 0 ((I 39 0) + 1)), L)) rfl (mRet_int rfl) ?_
    show mWP mTb_ mFT ro (d + 5, 147, 15, [some (.ref 34), some (.int v0), none, none, none], [.int (-2)], 0, 0, (mSH, (mUp I 39 0 ((I 39 0) + 1)), L)) _
    refine mRt (r := (some (.int (-2)))) (h := (mSH, (mUp I 39 0 ((I 39 0) + 1)), L)) rfl (mRet_int rfl) ?_
    exact hq _ _ _ ((mGr.up (by rfl) mGr.rf)).x ⟨s, n, t, ((mGr.up (by rfl) mGr.rf)).m hm⟩
  · refine mB 2 (s2 := (d + 4, 112, 7, [some (.int v0), some (.int 0), some (.int 1)], [.int 1, .int v0], 0, 0, (mSH, I, L))) rfl ?_
    refine mBr (s2 := (d + 4, 112, 14, [some (.int v0), some (.int 0), some (.int 1)], [], 0, 0, (mSH, I, L))) (s3 := (d + 4, 112, 10, [some (.int v0), some (.int 0), some (.int 1)], [], 0, 0, (mSH, I, L))) rfl (fun c1 => ?_) (fun c1 => ?_)
    · refine mB 1 (s2 := (d + 4, 112, 15, [some (.int v0), some (.int 0), some (.int 1)], [.int 0], 0, 0, (mSH, I, L))) rfl ?_
      refine mRt (r := (some (.int 0))) (h := (mSH, I, L)) rfl rfl ?_
      show mWP mTb_ mFT ro (d + 5, 147, 6, [some (.ref 34), some (.int v0), none, none, none], [.int 0], 0, 0, (mSH, I, L)) _
      refine mBT (s2 := (d + 5, 147, 9, [some (.ref 34), some (.int v0), none, none, none], [], 0, 0, (mSH, I, L))) rfl (by decide) ?_
      refine mB 2 (s2 := (d + 5, 147, 12, [some (.ref 34), some (.int v0), none, none, none], [.int (-2), .ref 34], 0, 0, (mSH, I, L))) rfl ?_
      refine mCall (s2 := (d + 4, 113, 0, [some (.ref 34), some (.int (-2))], [], 0, 0, (mSH, I, L))) rfl ?_
      refine mB 6 (s2 := (d + 4, 113, 9, [some (.ref 34), some (.int (-2))], [.int 0, .ref 39, .int 0, .ref 39], 0, 0, (mSH, I, L))) rfl ?_
      refine mRq (s2 := (d + 4, 113, 10, [some (.ref 34), some (.int (-2))], [.int (I 39 0), .int 0, .ref 39], 0, 0, (mSH, I, L))) rfl (by decide) ?_
      refine mB 2 (s2 := (d + 4, 113, 12, [some (.ref 34), some (.int (-2))], [.int ((I 39 0) + 1), .int 0, .ref 39], 0, 0, (mSH, I, L))) rfl ?_
      refine mRq (s2 := (d + 4, 113, 13, [some (.ref 34), some (.int (-2))], [], 0, 0, (mSH, (mUp I 39 0 ((I 39 0) + 1)), L))) rfl (by decide) ?_
      refine mB 1 (s2 := (d + 4, 113, 14, [some (.ref 34), some (.int (-2))], [.int (-2)], 0, 0, (mSH, (mUp I 39 0 ((I 39 0) + 1)), L))) rfl ?_
      refine mRt (r := (some (.int (-2)))) (h := (mSH, (mUp I 39 0 ((I 39 0) + 1)), L)) rfl (mRet_int rfl) ?_
      show mWP mTb_ mFT ro (d + 5, 147, 15, [some (.ref 34), some (.int v0), none, none, none], [.int (-2)], 0, 0, (mSH, (mUp I 39 0 ((I 39 0) + 1)), L)) _
      refine mRt (r := (some (.int (-2)))) (h := (mSH, (mUp I 39 0 ((I 39 0) + 1)), L)) rfl (mRet_int rfl) ?_
      exact hq _ _ _ ((mGr.up (by rfl) mGr.rf)).x ⟨s, n, t, ((mGr.up (by rfl) mGr.rf)).m hm⟩
    · refine mB 2 (s2 := (d + 4, 112, 15, [some (.int v0), some (.int 0), some (.int 1)], [.int 1], 0, 0, (mSH, I, L))) rfl ?_
      refine mRt (r := (some (.int 1))) (h := (mSH, I, L)) rfl rfl ?_
      show mWP mTb_ mFT ro (d + 5, 147, 6, [some (.ref 34), some (.int v0), none, none, none], [.int 1], 0, 0, (mSH, I, L)) _
      refine mBF (s3 := (d + 5, 147, 16, [some (.ref 34), some (.int v0), none, none, none], [], 0, 0, (mSH, I, L))) rfl (by decide) ?_
      refine mB 1 (s2 := (d + 5, 147, 17, [some (.ref 34), some (.int v0), none, none, none], [.ref 34], 0, 0, (mSH, I, L))) rfl ?_
      refine mCall (s2 := (d + 4, 132, 0, [some (.ref 34)], [], 0, 0, (mSH, I, L))) rfl ?_
      refine w_isf hm ?_ ?_
      · intro K1 gK1
        show mWP mTb_ mFT ro (d + 5, 147, 20, [some (.ref 34), some (.int v0), none, none, none], [.int 0], 0, 0, (mSH, K1, L)) _
        refine mBT (s2 := (d + 5, 147, 23, [some (.ref 34), some (.int v0), none, none, none], [], 0, 0, (mSH, K1, L))) rfl (by decide) ?_
        refine mB 2 (s2 := (d + 5, 147, 26, [some (.ref 34), some (.int v0), none, none, none], [.int (-3), .ref 34], 0, 0, (mSH, K1, L))) rfl ?_
        refine mCall (s2 := (d + 4, 113, 0, [some (.ref 34), some (.int (-3))], [], 0, 0, (mSH, K1, L))) rfl ?_
        refine mB 6 (s2 := (d + 4, 113, 9, [some (.ref 34), some (.int (-3))], [.int 1, .ref 39, .int 1, .ref 39], 0, 0, (mSH, K1, L))) rfl ?_
        refine mRq (s2 := (d + 4, 113, 10, [some (.ref 34), some (.int (-3))], [.int (K1 39 1), .int 1, .ref 39], 0, 0, (mSH, K1, L))) rfl (by decide) ?_
        refine mB 2 (s2 := (d + 4, 113, 12, [some (.ref 34), some (.int (-3))], [.int ((K1 39 1) + 1), .int 1, .ref 39], 0, 0, (mSH, K1, L))) rfl ?_
        refine mRq (s2 := (d + 4, 113, 13, [some (.ref 34), some (.int (-3))], [], 0, 0, (mSH, (mUp K1 39 1 ((K1 39 1) + 1)), L))) rfl (by decide) ?_
        refine mB 1 (s2 := (d + 4, 113, 14, [some (.ref 34), some (.int (-3))], [.int (-3)], 0, 0, (mSH, (mUp K1 39 1 ((K1 39 1) + 1)), L))) rfl ?_
        refine mRt (r := (some (.int (-3)))) (h := (mSH, (mUp K1 39 1 ((K1 39 1) + 1)), L)) rfl (mRet_int rfl) ?_
        show mWP mTb_ mFT ro (d + 5, 147, 29, [some (.ref 34), some (.int v0), none, none, none], [.int (-3)], 0, 0, (mSH, (mUp K1 39 1 ((K1 39 1) + 1)), L)) _
        refine mRt (r := (some (.int (-3)))) (h := (mSH, (mUp K1 39 1 ((K1 39 1) + 1)), L)) rfl (mRet_int rfl) ?_
        exact hq _ _ _ ((mGr.up (by rfl) gK1)).x ⟨s, n, t, ((mGr.up (by rfl) gK1)).m hm⟩
      · intro K1 gK1 vK1 pK1
        show mWP mTb_ mFT ro (d + 5, 147, 20, [some (.ref 34), some (.int v0), none, none, none], [.int 1], 0, 0, (mSH, K1, L)) _
        refine mBF (s3 := (d + 5, 147, 30, [some (.ref 34), some (.int v0), none, none, none], [], 0, 0, (mSH, K1, L))) rfl (by decide) ?_
        refine mB 4 (s2 := (d + 5, 147, 34, [some (.ref 34), some (.int v0), some (.int 0), some (.int 1), none], [], 0, 0, (mSH, K1, L))) rfl ?_
        exact l_fa (gK1.m hm) vK1 (fun r => hq _ _ _ (gK1).x ⟨s, n, t, (gK1).m hm⟩) n 1 (by omega) (by omega) 0 _ pK1
theorem m_misfit1 {ro : Nat → Nat × (Nat → Int32)} {Q : mPo} {d : Nat} {I : Nat → Nat → Int32} {L : Nat → Nat → Int64} {s n t : Nat} {j i b : Nat} {kd fr : Int32} {ml : List (Option Value)} (hm : mM s n t I) (hj : j < 8) (hi : i ≤ 16) (hb : b ≤ 5) (hq : ∀ r I1 L1, mTx I I1 → mIM I1 → Q (some (.int r)) (mSH, I1, L1)) : mWP mTb_ mFT ro (d + 5, 126, 49, ml, [.int fr, .int kd, .int (nI b), .int (nI i), .int (nI j), .ref 34], 0, 0, (mSH, I, L)) Q := by
  refine mCall (s2 := (d + 4, 125, 0, [some (.ref 34), some (.int (nI j)), some (.int (nI i)), some (.int (nI b)), some (.int kd), some (.int fr), none, none, none, none, none, none, none, none, none], [], 0, 0, (mSH, I, L))) rfl ?_
  refine w_mis hm hj hi hb (fun r _ => ?_)
  exact mRt (r := some (.int r)) (h := (mSH, I, L)) rfl (mRet_int rfl) (hq _ _ _ mGr.rf.x ⟨s, n, t, hm⟩)
theorem m_misfit {ro : Nat → Nat × (Nat → Int32)} {Q : mPo} {d : Nat} {I : Nat → Nat → Int32} {L : Nat → Nat → Int64} {s n t : Nat} {v0 v1 v2 : Int32} (hm : mM s n t I) (hq : ∀ r I1 L1, mTx I I1 → mIM I1 → Q (some (.int r)) (mSH, I1, L1))   : mWP mTb_ mFT ro (d + 5, 126, 0, [some (.ref 34), some (.int v0), some (.int v1), some (.int v2)], [], 0, 0, (mSH, I, L)) Q := by
  refine mB 2 (s2 := (d + 5, 126, 2, [some (.ref 34), some (.int v0), some (.int v1), some (.int v2)], [.int v0, .ref 34], 0, 0, (mSH, I, L))) rfl ?_
  refine mCall (s2 := (d + 4, 115, 0, [some (.ref 34), some (.int v0)], [], 0, 0, (mSH, I, L))) rfl ?_
  refine mB 6 (s2 := (d + 4, 115, 8, [some (.ref 34), some (.int v0)], [.int ((I 34 3) - 1), .int 0, .int v0], 0, 0, (mSH, I, L))) rfl ?_
  refine mCall (s2 := (d + 3, 112, 0, [some (.int v0), some (.int 0), some (.int ((I 34 3) - 1))], [], 0, 0, (mSH, I, L))) rfl ?_
  refine mB 2 (s2 := (d + 3, 112, 2, [some (.int v0), some (.int 0), some (.int ((I 34 3) - 1))], [.int 0, .int v0], 0, 0, (mSH, I, L))) rfl ?_
  refine mBr (s2 := (d + 3, 112, 14, [some (.int v0), some (.int 0), some (.int ((I 34 3) - 1))], [], 0, 0, (mSH, I, L))) (s3 := (d + 3, 112, 5, [some (.int v0), some (.int 0), some (.int ((I 34 3) - 1))], [], 0, 0, (mSH, I, L))) rfl (fun c0 => ?_) (fun c0 => ?_)
  · refine mB 1 (s2 := (d + 3, 112, 15, [some (.int v0), some (.int 0), some (.int ((I 34 3) - 1))], [.int 0], 0, 0, (mSH, I, L))) rfl ?_
    refine mRt (r := (some (.int 0))) (h := (mSH, I, L)) rfl rfl ?_
    show mWP mTb_ mFT ro (d + 4, 115, 11, [some (.ref 34), some (.int v0)], [.int 0], 0, 0, (mSH, I, L)) _
    refine mRt (r := (some (.int 0))) (h := (mSH, I, L)) rfl rfl ?_
    show mWP mTb_ mFT ro (d + 5, 126, 5, [some (.ref 34), some (.int v0), some (.int v1), some (.int v2)], [.int 0], 0, 0, (mSH, I, L)) _
    refine mBT (s2 := (d + 5, 126, 31, [some (.ref 34), some (.int v0), some (.int v1), some (.int v2)], [], 0, 0, (mSH, I, L))) rfl (by decide) ?_
    refine mB 2 (s2 := (d + 5, 126, 34, [some (.ref 34), some (.int v0), some (.int v1), some (.int v2)], [.int (-2), .ref 34], 0, 0, (mSH, I, L))) rfl ?_
    refine mCall (s2 := (d + 4, 113, 0, [some (.ref 34), some (.int (-2))], [], 0, 0, (mSH, I, L))) rfl ?_
    refine mB 6 (s2 := (d + 4, 113, 9, [some (.ref 34), some (.int (-2))], [.int 0, .ref 39, .int 0, .ref 39], 0, 0, (mSH, I, L))) rfl ?_
    refine mRq (s2 := (d + 4, 113, 10, [some (.ref 34), some (.int (-2))], [.int (I 39 0), .int 0, .ref 39], 0, 0, (mSH, I, L))) rfl (by decide) ?_
    refine mB 2 (s2 := (d + 4, 113, 12, [some (.ref 34), some (.int (-2))], [.int ((I 39 0) + 1), .int 0, .ref 39], 0, 0, (mSH, I, L))) rfl ?_
    refine mRq (s2 := (d + 4, 113, 13, [some (.ref 34), some (.int (-2))], [], 0, 0, (mSH, (mUp I 39 0 ((I 39 0) + 1)), L))) rfl (by decide) ?_
    refine mB 1 (s2 := (d + 4, 113, 14, [some (.ref 34), some (.int (-2))], [.int (-2)], 0, 0, (mSH, (mUp I 39 0 ((I 39 0) + 1)), L))) rfl ?_
    refine mRt (r := (some (.int (-2)))) (h := (mSH, (mUp I 39 0 ((I 39 0) + 1)), L)) rfl (mRet_int rfl) ?_
    show mWP mTb_ mFT ro (d + 5, 126, 37, [some (.ref 34), some (.int v0), some (.int v1), some (.int v2)], [.int (-2)], 0, 0, (mSH, (mUp I 39 0 ((I 39 0) + 1)), L)) _
    refine mRt (r := (some (.int (-2)))) (h := (mSH, (mUp I 39 0 ((I 39 0) + 1)), L)) rfl (mRet_int rfl) ?_
    exact hq _ _ _ ((mGr.up (by rfl) mGr.rf)).x ⟨s, n, t, ((mGr.up (by rfl) mGr.rf)).m hm⟩
  · refine mB 2 (s2 := (d + 3, 112, 7, [some (.int v0), some (.int 0), some (.int ((I 34 3) - 1))], [.int ((I 34 3) - 1), .int v0], 0, 0, (mSH, I, L))) rfl ?_
    refine mBr (s2 := (d + 3, 112, 14, [some (.int v0), some (.int 0), some (.int ((I 34 3) - 1))], [], 0, 0, (mSH, I, L))) (s3 := (d + 3, 112, 10, [some (.int v0), some (.int 0), some (.int ((I 34 3) - 1))], [], 0, 0, (mSH, I, L))) rfl (fun c1 => ?_) (fun c1 => ?_)
    · refine mB 1 (s2 := (d + 3, 112, 15, [some (.int v0), some (.int 0), some (.int ((I 34 3) - 1))], [.int 0], 0, 0, (mSH, I, L))) rfl ?_
      refine mRt (r := (some (.int 0))) (h := (mSH, I, L)) rfl rfl ?_
      show mWP mTb_ mFT ro (d + 4, 115, 11, [some (.ref 34), some (.int v0)], [.int 0], 0, 0, (mSH, I, L)) _
      refine mRt (r := (some (.int 0))) (h := (mSH, I, L)) rfl rfl ?_
      show mWP mTb_ mFT ro (d + 5, 126, 5, [some (.ref 34), some (.int v0), some (.int v1), some (.int v2)], [.int 0], 0, 0, (mSH, I, L)) _
      refine mBT (s2 := (d + 5, 126, 31, [some (.ref 34), some (.int v0), some (.int v1), some (.int v2)], [], 0, 0, (mSH, I, L))) rfl (by decide) ?_
      refine mB 2 (s2 := (d + 5, 126, 34, [some (.ref 34), some (.int v0), some (.int v1), some (.int v2)], [.int (-2), .ref 34], 0, 0, (mSH, I, L))) rfl ?_
      refine mCall (s2 := (d + 4, 113, 0, [some (.ref 34), some (.int (-2))], [], 0, 0, (mSH, I, L))) rfl ?_
      refine mB 6 (s2 := (d + 4, 113, 9, [some (.ref 34), some (.int (-2))], [.int 0, .ref 39, .int 0, .ref 39], 0, 0, (mSH, I, L))) rfl ?_
      refine mRq (s2 := (d + 4, 113, 10, [some (.ref 34), some (.int (-2))], [.int (I 39 0), .int 0, .ref 39], 0, 0, (mSH, I, L))) rfl (by decide) ?_
      refine mB 2 (s2 := (d + 4, 113, 12, [some (.ref 34), some (.int (-2))], [.int ((I 39 0) + 1), .int 0, .ref 39], 0, 0, (mSH, I, L))) rfl ?_
      refine mRq (s2 := (d + 4, 113, 13, [some (.ref 34), some (.int (-2))], [], 0, 0, (mSH, (mUp I 39 0 ((I 39 0) + 1)), L))) rfl (by decide) ?_
      refine mB 1 (s2 := (d + 4, 113, 14, [some (.ref 34), some (.int (-2))], [.int (-2)], 0, 0, (mSH, (mUp I 39 0 ((I 39 0) + 1)), L))) rfl ?_
      refine mRt (r := (some (.int (-2)))) (h := (mSH, (mUp I 39 0 ((I 39 0) + 1)), L)) rfl (mRet_int rfl) ?_
      show mWP mTb_ mFT ro (d + 5, 126, 37, [some (.ref 34), some (.int v0), some (.int v1), some (.int v2)], [.int (-2)], 0, 0, (mSH, (mUp I 39 0 ((I 39 0) + 1)), L)) _
      refine mRt (r := (some (.int (-2)))) (h := (mSH, (mUp I 39 0 ((I 39 0) + 1)), L)) rfl (mRet_int rfl) ?_
      exact hq _ _ _ ((mGr.up (by rfl) mGr.rf)).x ⟨s, n, t, ((mGr.up (by rfl) mGr.rf)).m hm⟩
    · refine mB 2 (s2 := (d + 3, 112, 15, [some (.int v0), some (.int 0), some (.int ((I 34 3) - 1))], [.int 1], 0, 0, (mSH, I, L))) rfl ?_
      refine mRt (r := (some (.int 1))) (h := (mSH, I, L)) rfl rfl ?_
      show mWP mTb_ mFT ro (d + 4, 115, 11, [some (.ref 34), some (.int v0)], [.int 1], 0, 0, (mSH, I, L)) _
      refine mRt (r := (some (.int 1))) (h := (mSH, I, L)) rfl rfl ?_
      show mWP mTb_ mFT ro (d + 5, 126, 5, [some (.ref 34), some (.int v0), some (.int v1), some (.int v2)], [.int 1], 0, 0, (mSH, I, L)) _
      refine mBF (s3 := (d + 5, 126, 8, [some (.ref 34), some (.int v0), some (.int v1), some (.int v2)], [], 0, 0, (mSH, I, L))) rfl (by decide) ?_
      refine mB 2 (s2 := (d + 5, 126, 10, [some (.ref 34), some (.int v0), some (.int v1), some (.int v2)], [.int v1, .ref 34], 0, 0, (mSH, I, L))) rfl ?_
      refine mCall (s2 := (d + 4, 114, 0, [some (.ref 34), some (.int v1)], [], 0, 0, (mSH, I, L))) rfl ?_
      refine mB 6 (s2 := (d + 4, 114, 8, [some (.ref 34), some (.int v1)], [.int ((I 34 1) - 1), .int 0, .int v1], 0, 0, (mSH, I, L))) rfl ?_
      refine mCall (s2 := (d + 3, 112, 0, [some (.int v1), some (.int 0), some (.int ((I 34 1) - 1))], [], 0, 0, (mSH, I, L))) rfl ?_
      refine mB 2 (s2 := (d + 3, 112, 2, [some (.int v1), some (.int 0), some (.int ((I 34 1) - 1))], [.int 0, .int v1], 0, 0, (mSH, I, L))) rfl ?_
      refine mBr (s2 := (d + 3, 112, 14, [some (.int v1), some (.int 0), some (.int ((I 34 1) - 1))], [], 0, 0, (mSH, I, L))) (s3 := (d + 3, 112, 5, [some (.int v1), some (.int 0), some (.int ((I 34 1) - 1))], [], 0, 0, (mSH, I, L))) rfl (fun c2 => ?_) (fun c2 => ?_)
      · refine mB 1 (s2 := (d + 3, 112, 15, [some (.int v1), some (.int 0), some (.int ((I 34 1) - 1))], [.int 0], 0, 0, (mSH, I, L))) rfl ?_
        refine mRt (r := (some (.int 0))) (h := (mSH, I, L)) rfl rfl ?_
        show mWP mTb_ mFT ro (d + 4, 114, 11, [some (.ref 34), some (.int v1)], [.int 0], 0, 0, (mSH, I, L)) _
        refine mRt (r := (some (.int 0))) (h := (mSH, I, L)) rfl rfl ?_
        show mWP mTb_ mFT ro (d + 5, 126, 13, [some (.ref 34), some (.int v0), some (.int v1), some (.int v2)], [.int 0], 0, 0, (mSH, I, L)) _
        refine mBT (s2 := (d + 5, 126, 31, [some (.ref 34), some (.int v0), some (.int v1), some (.int v2)], [], 0, 0, (mSH, I, L))) rfl (by decide) ?_
        refine mB 2 (s2 := (d + 5, 126, 34, [some (.ref 34), some (.int v0), some (.int v1), some (.int v2)], [.int (-2), .ref 34], 0, 0, (mSH, I, L))) rfl ?_
        refine mCall (s2 := (d + 4, 113, 0, [some (.ref 34), some (.int (-2))], [], 0, 0, (mSH, I, L))) rfl ?_
        refine mB 6 (s2 := (d + 4, 113, 9, [some (.ref 34), some (.int (-2))], [.int 0, .ref 39, .int 0, .ref 39], 0, 0, (mSH, I, L))) rfl ?_
        refine mRq (s2 := (d + 4, 113, 10, [some (.ref 34), some (.int (-2))], [.int (I 39 0), .int 0, .ref 39], 0, 0, (mSH, I, L))) rfl (by decide) ?_
        refine mB 2 (s2 := (d + 4, 113, 12, [some (.ref 34), some (.int (-2))], [.int ((I 39 0) + 1), .int 0, .ref 39], 0, 0, (mSH, I, L))) rfl ?_
        refine mRq (s2 := (d + 4, 113, 13, [some (.ref 34), some (.int (-2))], [], 0, 0, (mSH, (mUp I 39 0 ((I 39 0) + 1)), L))) rfl (by decide) ?_
        refine mB 1 (s2 := (d + 4, 113, 14, [some (.ref 34), some (.int (-2))], [.int (-2)], 0, 0, (mSH, (mUp I 39 0 ((I 39 0) + 1)), L))) rfl ?_
        refine mRt (r := (some (.int (-2)))) (h := (mSH, (mUp I 39 0 ((I 39 0) + 1)), L)) rfl (mRet_int rfl) ?_
        show mWP mTb_ mFT ro (d + 5, 126, 37, [some (.ref 34), some (.int v0), some (.int v1), some (.int v2)], [.int (-2)], 0, 0, (mSH, (mUp I 39 0 ((I 39 0) + 1)), L)) _
        refine mRt (r := (some (.int (-2)))) (h := (mSH, (mUp I 39 0 ((I 39 0) + 1)), L)) rfl (mRet_int rfl) ?_
        exact hq _ _ _ ((mGr.up (by rfl) mGr.rf)).x ⟨s, n, t, ((mGr.up (by rfl) mGr.rf)).m hm⟩
      · refine mB 2 (s2 := (d + 3, 112, 7, [some (.int v1), some (.int 0), some (.int ((I 34 1) - 1))], [.int ((I 34 1) - 1), .int v1], 0, 0, (mSH, I, L))) rfl ?_
        refine mBr (s2 := (d + 3, 112, 14, [some (.int v1), some (.int 0), some (.int ((I 34 1) - 1))], [], 0, 0, (mSH, I, L))) (s3 := (d + 3, 112, 10, [some (.int v1), some (.int 0), some (.int ((I 34 1) - 1))], [], 0, 0, (mSH, I, L))) rfl (fun c3 => ?_) (fun c3 => ?_)
        · refine mB 1 (s2 := (d + 3, 112, 15, [some (.int v1), some (.int 0), some (.int ((I 34 1) - 1))], [.int 0], 0, 0, (mSH, I, L))) rfl ?_
          refine mRt (r := (some (.int 0))) (h := (mSH, I, L)) rfl rfl ?_
          show mWP mTb_ mFT ro (d + 4, 114, 11, [some (.ref 34), some (.int v1)], [.int 0], 0, 0, (mSH, I, L)) _
          refine mRt (r := (some (.int 0))) (h := (mSH, I, L)) rfl rfl ?_
          show mWP mTb_ mFT ro (d + 5, 126, 13, [some (.ref 34), some (.int v0), some (.int v1), some (.int v2)], [.int 0], 0, 0, (mSH, I, L)) _
          refine mBT (s2 := (d + 5, 126, 31, [some (.ref 34), some (.int v0), some (.int v1), some (.int v2)], [], 0, 0, (mSH, I, L))) rfl (by decide) ?_
          refine mB 2 (s2 := (d + 5, 126, 34, [some (.ref 34), some (.int v0), some (.int v1), some (.int v2)], [.int (-2), .ref 34], 0, 0, (mSH, I, L))) rfl ?_
          refine mCall (s2 := (d + 4, 113, 0, [some (.ref 34), some (.int (-2))], [], 0, 0, (mSH, I, L))) rfl ?_
          refine mB 6 (s2 := (d + 4, 113, 9, [some (.ref 34), some (.int (-2))], [.int 0, .ref 39, .int 0, .ref 39], 0, 0, (mSH, I, L))) rfl ?_
          refine mRq (s2 := (d + 4, 113, 10, [some (.ref 34), some (.int (-2))], [.int (I 39 0), .int 0, .ref 39], 0, 0, (mSH, I, L))) rfl (by decide) ?_
          refine mB 2 (s2 := (d + 4, 113, 12, [some (.ref 34), some (.int (-2))], [.int ((I 39 0) + 1), .int 0, .ref 39], 0, 0, (mSH, I, L))) rfl ?_
          refine mRq (s2 := (d + 4, 113, 13, [some (.ref 34), some (.int (-2))], [], 0, 0, (mSH, (mUp I 39 0 ((I 39 0) + 1)), L))) rfl (by decide) ?_
          refine mB 1 (s2 := (d + 4, 113, 14, [some (.ref 34), some (.int (-2))], [.int (-2)], 0, 0, (mSH, (mUp I 39 0 ((I 39 0) + 1)), L))) rfl ?_
          refine mRt (r := (some (.int (-2)))) (h := (mSH, (mUp I 39 0 ((I 39 0) + 1)), L)) rfl (mRet_int rfl) ?_
          show mWP mTb_ mFT ro (d + 5, 126, 37, [some (.ref 34), some (.int v0), some (.int v1), some (.int v2)], [.int (-2)], 0, 0, (mSH, (mUp I 39 0 ((I 39 0) + 1)), L)) _
          refine mRt (r := (some (.int (-2)))) (h := (mSH, (mUp I 39 0 ((I 39 0) + 1)), L)) rfl (mRet_int rfl) ?_
          exact hq _ _ _ ((mGr.up (by rfl) mGr.rf)).x ⟨s, n, t, ((mGr.up (by rfl) mGr.rf)).m hm⟩
        · refine mB 2 (s2 := (d + 3, 112, 15, [some (.int v1), some (.int 0), some (.int ((I 34 1) - 1))], [.int 1], 0, 0, (mSH, I, L))) rfl ?_
          refine mRt (r := (some (.int 1))) (h := (mSH, I, L)) rfl rfl ?_
          show mWP mTb_ mFT ro (d + 4, 114, 11, [some (.ref 34), some (.int v1)], [.int 1], 0, 0, (mSH, I, L)) _
          refine mRt (r := (some (.int 1))) (h := (mSH, I, L)) rfl rfl ?_
          show mWP mTb_ mFT ro (d + 5, 126, 13, [some (.ref 34), some (.int v0), some (.int v1), some (.int v2)], [.int 1], 0, 0, (mSH, I, L)) _
          refine mBF (s3 := (d + 5, 126, 16, [some (.ref 34), some (.int v0), some (.int v1), some (.int v2)], [], 0, 0, (mSH, I, L))) rfl (by decide) ?_
          refine mB 2 (s2 := (d + 5, 126, 18, [some (.ref 34), some (.int v0), some (.int v1), some (.int v2)], [.int 1, .int v2], 0, 0, (mSH, I, L))) rfl ?_
          refine mBr (s2 := (d + 5, 126, 38, [some (.ref 34), some (.int v0), some (.int v1), some (.int v2)], [], 0, 0, (mSH, I, L))) (s3 := (d + 5, 126, 21, [some (.ref 34), some (.int v0), some (.int v1), some (.int v2)], [], 0, 0, (mSH, I, L))) rfl (fun c4 => ?_) (fun c4 => ?_)
          · refine mB 7 (s2 := (d + 5, 126, 47, [some (.ref 34), some (.int v0), some (.int v1), some (.int v2)], [.int 0, .ref 38, .int v2, .int v1, .int v0, .ref 34], 0, 0, (mSH, I, L))) rfl ?_
            refine mRq (s2 := (d + 5, 126, 48, [some (.ref 34), some (.int v0), some (.int v1), some (.int v2)], [.int (I 38 0), .int v2, .int v1, .int v0, .ref 34], 0, 0, (mSH, I, L))) rfl (by decide) ?_
            refine mB 1 (s2 := (d + 5, 126, 49, [some (.ref 34), some (.int v0), some (.int v1), some (.int v2)], [.int 0, .int (I 38 0), .int v2, .int v1, .int v0, .ref 34], 0, 0, (mSH, I, L))) rfl ?_
            (obtain ⟨j, hj, e⟩ := mNat hm.2.1.1 (Nat.le_trans hm.2.1.2 (by omega)) (of_decide_eq_false c0) (of_decide_eq_false c1); subst e; obtain ⟨i, hi, e⟩ := mNat hm.1.1 hm.1.2 (of_decide_eq_false c2) (of_decide_eq_false c3); subst e; have e := of_decide_eq_true c4; subst e; exact m_misfit1 (b := 1) hm (by have := hm.2.1.2; omega) (by have := hm.1.2; omega) (by omega) hq)
          · refine mB 2 (s2 := (d + 5, 126, 23, [some (.ref 34), some (.int v0), some (.int v1), some (.int v2)], [.int 3, .int v2], 0, 0, (mSH, I, L))) rfl ?_
            refine mBr (s2 := (d + 5, 126, 38, [some (.ref 34), some (.int v0), some (.int v1), some (.int v2)], [], 0, 0, (mSH, I, L))) (s3 := (d + 5, 126, 26, [some (.ref 34), some (.int v0), some (.int v1), some (.int v2)], [], 0, 0, (mSH, I, L))) rfl (fun c5 => ?_) (fun c5 => ?_)
            · refine mB 7 (s2 := (d + 5, 126, 47, [some (.ref 34), some (.int v0), some (.int v1), some (.int v2)], [.int 0, .ref 38, .int v2, .int v1, .int v0, .ref 34], 0, 0, (mSH, I, L))) rfl ?_
              refine mRq (s2 := (d + 5, 126, 48, [some (.ref 34), some (.int v0), some (.int v1), some (.int v2)], [.int (I 38 0), .int v2, .int v1, .int v0, .ref 34], 0, 0, (mSH, I, L))) rfl (by decide) ?_
              refine mB 1 (s2 := (d + 5, 126, 49, [some (.ref 34), some (.int v0), some (.int v1), some (.int v2)], [.int 0, .int (I 38 0), .int v2, .int v1, .int v0, .ref 34], 0, 0, (mSH, I, L))) rfl ?_
              (obtain ⟨j, hj, e⟩ := mNat hm.2.1.1 (Nat.le_trans hm.2.1.2 (by omega)) (of_decide_eq_false c0) (of_decide_eq_false c1); subst e; obtain ⟨i, hi, e⟩ := mNat hm.1.1 hm.1.2 (of_decide_eq_false c2) (of_decide_eq_false c3); subst e; have e := of_decide_eq_true c5; subst e; exact m_misfit1 (b := 3) hm (by have := hm.2.1.2; omega) (by have := hm.1.2; omega) (by omega) hq)
            · refine mB 2 (s2 := (d + 5, 126, 28, [some (.ref 34), some (.int v0), some (.int v1), some (.int v2)], [.int 5, .int v2], 0, 0, (mSH, I, L))) rfl ?_
              refine mBr (s2 := (d + 5, 126, 38, [some (.ref 34), some (.int v0), some (.int v1), some (.int v2)], [], 0, 0, (mSH, I, L))) (s3 := (d + 5, 126, 31, [some (.ref 34), some (.int v0), some (.int v1), some (.int v2)], [], 0, 0, (mSH, I, L))) rfl (fun c6 => ?_) (fun c6 => ?_)
              · refine mB 7 (s2 := (d + 5, 126, 47, [some (.ref 34), some (.int v0), some (.int v1), some (.int v2)], [.int 0, .ref 38, .int v2, .int v1, .int v0, .ref 34], 0, 0, (mSH, I, L))) rfl ?_
                refine mRq (s2 := (d + 5, 126, 48, [some (.ref 34), some (.int v0), some (.int v1), some (.int v2)], [.int (I 38 0), .int v2, .int v1, .int v0, .ref 34], 0, 0, (mSH, I, L))) rfl (by decide) ?_
                refine mB 1 (s2 := (d + 5, 126, 49, [some (.ref 34), some (.int v0), some (.int v1), some (.int v2)], [.int 0, .int (I 38 0), .int v2, .int v1, .int v0, .ref 34], 0, 0, (mSH, I, L))) rfl ?_
                (obtain ⟨j, hj, e⟩ := mNat hm.2.1.1 (Nat.le_trans hm.2.1.2 (by omega)) (of_decide_eq_false c0) (of_decide_eq_false c1); subst e; obtain ⟨i, hi, e⟩ := mNat hm.1.1 hm.1.2 (of_decide_eq_false c2) (of_decide_eq_false c3); subst e; have e := of_decide_eq_true c6; subst e; exact m_misfit1 (b := 5) hm (by have := hm.2.1.2; omega) (by have := hm.1.2; omega) (by omega) hq)
              · refine mB 2 (s2 := (d + 5, 126, 34, [some (.ref 34), some (.int v0), some (.int v1), some (.int v2)], [.int (-2), .ref 34], 0, 0, (mSH, I, L))) rfl ?_
                refine mCall (s2 := (d + 4, 113, 0, [some (.ref 34), some (.int (-2))], [], 0, 0, (mSH, I, L))) rfl ?_
                refine mB 6 (s2 := (d + 4, 113, 9, [some (.ref 34), some (.int (-2))], [.int 0, .ref 39, .int 0, .ref 39], 0, 0, (mSH, I, L))) rfl ?_
                refine mRq (s2 := (d + 4, 113, 10, [some (.ref 34), some (.int (-2))], [.int (I 39 0), .int 0, .ref 39], 0, 0, (mSH, I, L))) rfl (by decide) ?_
                refine mB 2 (s2 := (d + 4, 113, 12, [some (.ref 34), some (.int (-2))], [.int ((I 39 0) + 1), .int 0, .ref 39], 0, 0, (mSH, I, L))) rfl ?_
                refine mRq (s2 := (d + 4, 113, 13, [some (.ref 34), some (.int (-2))], [], 0, 0, (mSH, (mUp I 39 0 ((I 39 0) + 1)), L))) rfl (by decide) ?_
                refine mB 1 (s2 := (d + 4, 113, 14, [some (.ref 34), some (.int (-2))], [.int (-2)], 0, 0, (mSH, (mUp I 39 0 ((I 39 0) + 1)), L))) rfl ?_
                refine mRt (r := (some (.int (-2)))) (h := (mSH, (mUp I 39 0 ((I 39 0) + 1)), L)) rfl (mRet_int rfl) ?_
                show mWP mTb_ mFT ro (d + 5, 126, 37, [some (.ref 34), some (.int v0), some (.int v1), some (.int v2)], [.int (-2)], 0, 0, (mSH, (mUp I 39 0 ((I 39 0) + 1)), L)) _
                refine mRt (r := (some (.int (-2)))) (h := (mSH, (mUp I 39 0 ((I 39 0) + 1)), L)) rfl (mRet_int rfl) ?_
                exact hq _ _ _ ((mGr.up (by rfl) mGr.rf)).x ⟨s, n, t, ((mGr.up (by rfl) mGr.rf)).m hm⟩
