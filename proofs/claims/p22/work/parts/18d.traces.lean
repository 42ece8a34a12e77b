/-! A match is traced. Written by a program (wip/mk_c.py). -/
theorem mNe0 {y : Int32} (h : ¬ y ≤ 0) : ¬ y = 0 := fun e => h (by rw [e]; decide)
theorem mMixIn {S S' : List Nat} {I K K' : Nat → Nat → Int32} (h : S'.all (mMem S) = true) : mMix S' (mMix S I K) K' = mMix S I (mMix S' K K') := by
  funext r
  cases e : mMem S r with
  | false => rw [mMix_out (mMem_sub h e), mMix_out e, mMix_out e]
  | true =>
    rw [mMix_in e]
    cases g : mMem S' r with
    | true => rw [mMix_in g, mMix_in g]
    | false => rw [mMix_out g, mMix_out g, mMix_in e]
theorem s_tr_0 {ro : Nat → Nat × (Nat → Int32)} {Q : mPo} {d : Nat} {I : Nat → Nat → Int32} {L : Nat → Nat → Int64} {K : Nat → Nat → Int32} {w i x0 : Int32} {o6 : Option Value} (hK : mCn K 23 8) (h1 : ((I 4 1) ≤ x0) → Q (some (.int 1)) (mSH, (mMix mSM I K), L)) (h2 : ¬ ((I 4 1) ≤ x0) → ∀ (x1 : Int32), (vp_in x1 154) → ∀ (K2 : Nat → Nat → Int32), (mCn K2 23 8) → mWP mTb_ mFT ro (d + 2, 65, 69, [some (.ref 10), some (.int w), some (.ref 22), some (.int (I 18 x1.toNatClampNeg)), some (.int (i + (I 15 x1.toNatClampNeg))), some (.int (x0 + 1)), some (.int x1)], [], 0, 0, (mSH, (mMix [23, 24] (mMix mSM I K) K2), L)) Q) : mWP mTb_ mFT ro (d + 2, 65, 69, [some (.ref 10), some (.int w), some (.ref 22), some (.int 0), some (.int i), some (.int x0), o6], [], 0, 0, (mSH, (mMix mSM I K), L)) Q := by
  refine mB 4 (s2 := (d + 2, 65, 78, [some (.ref 10), some (.int w), some (.ref 22), some (.int 0), some (.int i), some (.int x0), o6], [.ref 4, .int x0], 0, 0, (mSH, (mMix mSM I K), L))) rfl ?_
  refine mCall (s2 := (d + 1, 39, 0, [some (.ref 4)], [], 0, 0, (mSH, (mMix mSM I K), L))) rfl ?_
  refine mB 2 (s2 := (d + 1, 39, 4, [some (.ref 4)], [.int (I 4 1)], 0, 0, (mSH, (mMix mSM I K), L))) rfl ?_
  refine mRt (r := (some (.int (I 4 1)))) (h := (mSH, (mMix mSM I K), L)) rfl (mRet_int rfl) ?_
  show mWP mTb_ mFT ro (d + 2, 65, 81, [some (.ref 10), some (.int w), some (.ref 22), some (.int 0), some (.int i), some (.int x0), o6], [.int (I 4 1), .int x0], 0, 0, (mSH, (mMix mSM I K), L)) _
  refine mBr (s2 := (d + 2, 65, 139, [some (.ref 10), some (.int w), some (.ref 22), some (.int 0), some (.int i), some (.int x0), o6], [], 0, 0, (mSH, (mMix mSM I K), L))) (s3 := (d + 2, 65, 84, [some (.ref 10), some (.int w), some (.ref 22), some (.int 0), some (.int i), some (.int x0), o6], [], 0, 0, (mSH, (mMix mSM I K), L))) rfl (fun c0 => ?_) (fun c0 => ?_)
  · refine mB 1 (s2 := (d + 2, 65, 140, [some (.ref 10), some (.int w), some (.ref 22), some (.int 0), some (.int i), some (.int x0), o6], [.int 1], 0, 0, (mSH, (mMix mSM I K), L))) rfl ?_
    refine mRt (r := (some (.int 1))) (h := (mSH, (mMix mSM I K), L)) rfl rfl ?_
    exact h1 (of_decide_eq_true c0)
  · refine mB 2 (s2 := (d + 2, 65, 88, [some (.ref 10), some (.int w), some (.ref 22), some (.int 0), some (.int i), some (.int x0), o6], [.int i, .int x0], 0, 0, (mSH, (mMix mSM I K), L))) rfl ?_
    refine mCall (s2 := (d + 1, 59, 0, [some (.int x0), some (.int i), none], [], 0, 0, (mSH, (mMix mSM I K), L))) rfl ?_
    refine w_cellOf (fun x1 hx1 => ?_)
    show mWP mTb_ mFT ro (d + 2, 65, 91, [some (.ref 10), some (.int w), some (.ref 22), some (.int 0), some (.int i), some (.int x0), o6], [.int x1], 0, 0, (mSH, (mMix mSM I K), L)) _
    refine mB 6 (s2 := (d + 2, 65, 102, [some (.ref 10), some (.int w), some (.ref 22), some (.int 0), some (.int i), some (.int x0), some (.int x1)], [.int 0, .ref 14, .ref 23], 0, 0, (mSH, (mMix mSM I K), L))) rfl ?_
    refine mRq (s2 := (d + 2, 65, 103, [some (.ref 10), some (.int w), some (.ref 22), some (.int 0), some (.int i), some (.int x0), some (.int x1)], [.ref 15, .ref 23], 0, 0, (mSH, (mMix mSM I K), L))) rfl (by decide) ?_
    refine mB 1 (s2 := (d + 2, 65, 105, [some (.ref 10), some (.int w), some (.ref 22), some (.int 0), some (.int i), some (.int x0), some (.int x1)], [.int x1, .ref 15, .ref 23], 0, 0, (mSH, (mMix mSM I K), L))) rfl ?_
    refine mRq (s2 := (d + 2, 65, 106, [some (.ref 10), some (.int w), some (.ref 22), some (.int 0), some (.int i), some (.int x0), some (.int x1)], [.int (I 15 x1.toNatClampNeg), .ref 23], 0, 0, (mSH, (mMix mSM I K), L))) rfl (mVp_of hx1) ?_
    refine mCall (s2 := (d + 1, 44, 0, [some (.ref 23), some (.int (I 15 x1.toNatClampNeg))], [], 0, 0, (mSH, (mMix mSM I K), L))) rfl ?_
    refine w_add_23 hK (fun K2 hK2 => ?_)
    show mWP mTb_ mFT ro (d + 2, 65, 109, [some (.ref 10), some (.int w), some (.ref 22), some (.int 0), some (.int i), some (.int x0), some (.int x1)], [], 0, 0, (mSH, (mMix [23, 24] (mMix mSM I K) K2), L)) _
    refine mB 4 (s2 := (d + 2, 65, 116, [some (.ref 10), some (.int w), some (.ref 22), some (.int 0), some (.int i), some (.int x0), some (.int x1)], [.int 0, .ref 14, .int i], 0, 0, (mSH, (mMix [23, 24] (mMix mSM I K) K2), L))) rfl ?_
    refine mRq (s2 := (d + 2, 65, 117, [some (.ref 10), some (.int w), some (.ref 22), some (.int 0), some (.int i), some (.int x0), some (.int x1)], [.ref 15, .int i], 0, 0, (mSH, (mMix [23, 24] (mMix mSM I K) K2), L))) rfl (by decide) ?_
    refine mB 1 (s2 := (d + 2, 65, 119, [some (.ref 10), some (.int w), some (.ref 22), some (.int 0), some (.int i), some (.int x0), some (.int x1)], [.int x1, .ref 15, .int i], 0, 0, (mSH, (mMix [23, 24] (mMix mSM I K) K2), L))) rfl ?_
    refine mRq (s2 := (d + 2, 65, 120, [some (.ref 10), some (.int w), some (.ref 22), some (.int 0), some (.int i), some (.int x0), some (.int x1)], [.int (I 15 x1.toNatClampNeg), .int i], 0, 0, (mSH, (mMix [23, 24] (mMix mSM I K) K2), L))) rfl (mVp_of hx1) ?_
    refine mB 5 (s2 := (d + 2, 65, 128, [some (.ref 10), some (.int w), some (.ref 22), some (.int 0), some (.int (i + (I 15 x1.toNatClampNeg))), some (.int x0), some (.int x1)], [.int 0, .ref 17], 0, 0, (mSH, (mMix [23, 24] (mMix mSM I K) K2), L))) rfl ?_
    refine mRq (s2 := (d + 2, 65, 129, [some (.ref 10), some (.int w), some (.ref 22), some (.int 0), some (.int (i + (I 15 x1.toNatClampNeg))), some (.int x0), some (.int x1)], [.ref 18], 0, 0, (mSH, (mMix [23, 24] (mMix mSM I K) K2), L))) rfl (by decide) ?_
    refine mB 1 (s2 := (d + 2, 65, 131, [some (.ref 10), some (.int w), some (.ref 22), some (.int 0), some (.int (i + (I 15 x1.toNatClampNeg))), some (.int x0), some (.int x1)], [.int x1, .ref 18], 0, 0, (mSH, (mMix [23, 24] (mMix mSM I K) K2), L))) rfl ?_
    refine mRq (s2 := (d + 2, 65, 132, [some (.ref 10), some (.int w), some (.ref 22), some (.int 0), some (.int (i + (I 15 x1.toNatClampNeg))), some (.int x0), some (.int x1)], [.int (I 18 x1.toNatClampNeg)], 0, 0, (mSH, (mMix [23, 24] (mMix mSM I K) K2), L))) rfl (mVp_of hx1) ?_
    refine mB 3 (s2 := (d + 2, 65, 69, [some (.ref 10), some (.int w), some (.ref 22), some (.int (I 18 x1.toNatClampNeg)), some (.int (i + (I 15 x1.toNatClampNeg))), some (.int (x0 + 1)), some (.int x1)], [], 0, 0, (mSH, (mMix [23, 24] (mMix mSM I K) K2), L))) rfl ?_
    exact h2 (of_decide_eq_false c0) x1 hx1 K2 hK2
theorem s_tr_1 {ro : Nat → Nat × (Nat → Int32)} {Q : mPo} {d : Nat} {I : Nat → Nat → Int32} {L : Nat → Nat → Int64} {K : Nat → Nat → Int32} {w i x0 : Int32} {o6 : Option Value} (hK : mCn K 23 8) (h1 : ((I 4 1) ≤ x0) → Q (some (.int 1)) (mSH, (mMix mSM I K), L)) (h2 : ¬ ((I 4 1) ≤ x0) → ∀ (x1 : Int32), (vp_in x1 154) → ∀ (K2 : Nat → Nat → Int32), (mCn K2 23 8) → mWP mTb_ mFT ro (d + 2, 65, 69, [some (.ref 10), some (.int w), some (.ref 22), some (.int (I 19 x1.toNatClampNeg)), some (.int (i + (I 16 x1.toNatClampNeg))), some (.int (x0 + 1)), some (.int x1)], [], 0, 0, (mSH, (mMix [23, 24] (mMix mSM I K) K2), L)) Q) : mWP mTb_ mFT ro (d + 2, 65, 69, [some (.ref 10), some (.int w), some (.ref 22), some (.int 1), some (.int i), some (.int x0), o6], [], 0, 0, (mSH, (mMix mSM I K), L)) Q := by
  refine mB 4 (s2 := (d + 2, 65, 78, [some (.ref 10), some (.int w), some (.ref 22), some (.int 1), some (.int i), some (.int x0), o6], [.ref 4, .int x0], 0, 0, (mSH, (mMix mSM I K), L))) rfl ?_
  refine mCall (s2 := (d + 1, 39, 0, [some (.ref 4)], [], 0, 0, (mSH, (mMix mSM I K), L))) rfl ?_
  refine mB 2 (s2 := (d + 1, 39, 4, [some (.ref 4)], [.int (I 4 1)], 0, 0, (mSH, (mMix mSM I K), L))) rfl ?_
  refine mRt (r := (some (.int (I 4 1)))) (h := (mSH, (mMix mSM I K), L)) rfl (mRet_int rfl) ?_
  show mWP mTb_ mFT ro (d + 2, 65, 81, [some (.ref 10), some (.int w), some (.ref 22), some (.int 1), some (.int i), some (.int x0), o6], [.int (I 4 1), .int x0], 0, 0, (mSH, (mMix mSM I K), L)) _
  refine mBr (s2 := (d + 2, 65, 139, [some (.ref 10), some (.int w), some (.ref 22), some (.int 1), some (.int i), some (.int x0), o6], [], 0, 0, (mSH, (mMix mSM I K), L))) (s3 := (d + 2, 65, 84, [some (.ref 10), some (.int w), some (.ref 22), some (.int 1), some (.int i), some (.int x0), o6], [], 0, 0, (mSH, (mMix mSM I K), L))) rfl (fun c0 => ?_) (fun c0 => ?_)
  · refine mB 1 (s2 := (d + 2, 65, 140, [some (.ref 10), some (.int w), some (.ref 22), some (.int 1), some (.int i), some (.int x0), o6], [.int 1], 0, 0, (mSH, (mMix mSM I K), L))) rfl ?_
    refine mRt (r := (some (.int 1))) (h := (mSH, (mMix mSM I K), L)) rfl rfl ?_
    exact h1 (of_decide_eq_true c0)
  · refine mB 2 (s2 := (d + 2, 65, 88, [some (.ref 10), some (.int w), some (.ref 22), some (.int 1), some (.int i), some (.int x0), o6], [.int i, .int x0], 0, 0, (mSH, (mMix mSM I K), L))) rfl ?_
    refine mCall (s2 := (d + 1, 59, 0, [some (.int x0), some (.int i), none], [], 0, 0, (mSH, (mMix mSM I K), L))) rfl ?_
    refine w_cellOf (fun x1 hx1 => ?_)
    show mWP mTb_ mFT ro (d + 2, 65, 91, [some (.ref 10), some (.int w), some (.ref 22), some (.int 1), some (.int i), some (.int x0), o6], [.int x1], 0, 0, (mSH, (mMix mSM I K), L)) _
    refine mB 6 (s2 := (d + 2, 65, 102, [some (.ref 10), some (.int w), some (.ref 22), some (.int 1), some (.int i), some (.int x0), some (.int x1)], [.int 1, .ref 14, .ref 23], 0, 0, (mSH, (mMix mSM I K), L))) rfl ?_
    refine mRq (s2 := (d + 2, 65, 103, [some (.ref 10), some (.int w), some (.ref 22), some (.int 1), some (.int i), some (.int x0), some (.int x1)], [.ref 16, .ref 23], 0, 0, (mSH, (mMix mSM I K), L))) rfl (by decide) ?_
    refine mB 1 (s2 := (d + 2, 65, 105, [some (.ref 10), some (.int w), some (.ref 22), some (.int 1), some (.int i), some (.int x0), some (.int x1)], [.int x1, .ref 16, .ref 23], 0, 0, (mSH, (mMix mSM I K), L))) rfl ?_
    refine mRq (s2 := (d + 2, 65, 106, [some (.ref 10), some (.int w), some (.ref 22), some (.int 1), some (.int i), some (.int x0), some (.int x1)], [.int (I 16 x1.toNatClampNeg), .ref 23], 0, 0, (mSH, (mMix mSM I K), L))) rfl (mVp_of hx1) ?_
    refine mCall (s2 := (d + 1, 44, 0, [some (.ref 23), some (.int (I 16 x1.toNatClampNeg))], [], 0, 0, (mSH, (mMix mSM I K), L))) rfl ?_
    refine w_add_23 hK (fun K2 hK2 => ?_)
    show mWP mTb_ mFT ro (d + 2, 65, 109, [some (.ref 10), some (.int w), some (.ref 22), some (.int 1), some (.int i), some (.int x0), some (.int x1)], [], 0, 0, (mSH, (mMix [23, 24] (mMix mSM I K) K2), L)) _
    refine mB 4 (s2 := (d + 2, 65, 116, [some (.ref 10), some (.int w), some (.ref 22), some (.int 1), some (.int i), some (.int x0), some (.int x1)], [.int 1, .ref 14, .int i], 0, 0, (mSH, (mMix [23, 24] (mMix mSM I K) K2), L))) rfl ?_
    refine mRq (s2 := (d + 2, 65, 117, [some (.ref 10), some (.int w), some (.ref 22), some (.int 1), some (.int i), some (.int x0), some (.int x1)], [.ref 16, .int i], 0, 0, (mSH, (mMix [23, 24] (mMix mSM I K) K2), L))) rfl (by decide) ?_
    refine mB 1 (s2 := (d + 2, 65, 119, [some (.ref 10), some (.int w), some (.ref 22), some (.int 1), some (.int i), some (.int x0), some (.int x1)], [.int x1, .ref 16, .int i], 0, 0, (mSH, (mMix [23, 24] (mMix mSM I K) K2), L))) rfl ?_
    refine mRq (s2 := (d + 2, 65, 120, [some (.ref 10), some (.int w), some (.ref 22), some (.int 1), some (.int i), some (.int x0), some (.int x1)], [.int (I 16 x1.toNatClampNeg), .int i], 0, 0, (mSH, (mMix [23, 24] (mMix mSM I K) K2), L))) rfl (mVp_of hx1) ?_
    refine mB 5 (s2 := (d + 2, 65, 128, [some (.ref 10), some (.int w), some (.ref 22), some (.int 1), some (.int (i + (I 16 x1.toNatClampNeg))), some (.int x0), some (.int x1)], [.int 1, .ref 17], 0, 0, (mSH, (mMix [23, 24] (mMix mSM I K) K2), L))) rfl ?_
    refine mRq (s2 := (d + 2, 65, 129, [some (.ref 10), some (.int w), some (.ref 22), some (.int 1), some (.int (i + (I 16 x1.toNatClampNeg))), some (.int x0), some (.int x1)], [.ref 19], 0, 0, (mSH, (mMix [23, 24] (mMix mSM I K) K2), L))) rfl (by decide) ?_
    refine mB 1 (s2 := (d + 2, 65, 131, [some (.ref 10), some (.int w), some (.ref 22), some (.int 1), some (.int (i + (I 16 x1.toNatClampNeg))), some (.int x0), some (.int x1)], [.int x1, .ref 19], 0, 0, (mSH, (mMix [23, 24] (mMix mSM I K) K2), L))) rfl ?_
    refine mRq (s2 := (d + 2, 65, 132, [some (.ref 10), some (.int w), some (.ref 22), some (.int 1), some (.int (i + (I 16 x1.toNatClampNeg))), some (.int x0), some (.int x1)], [.int (I 19 x1.toNatClampNeg)], 0, 0, (mSH, (mMix [23, 24] (mMix mSM I K) K2), L))) rfl (mVp_of hx1) ?_
    refine mB 3 (s2 := (d + 2, 65, 69, [some (.ref 10), some (.int w), some (.ref 22), some (.int (I 19 x1.toNatClampNeg)), some (.int (i + (I 16 x1.toNatClampNeg))), some (.int (x0 + 1)), some (.int x1)], [], 0, 0, (mSH, (mMix [23, 24] (mMix mSM I K) K2), L))) rfl ?_
    exact h2 (of_decide_eq_false c0) x1 hx1 K2 hK2
theorem l_tr {ro : Nat → Nat × (Nat → Int32)} {Q : mPo} {d : Nat} {I : Nat → Nat → Int32} {L : Nat → Nat → Int64} {w : Int32} (n4 : mCn I 4 8) (hR : mRk I) (q1 : ∀ K, mCn K 23 8 → Q (some (.int 1)) (mSH, mMix mSM I K, L)) (m : Nat) : ∀ (k : Nat) (K : Nat → Nat → Int32) (p i : Int32) (o6 : Option Value), (I 4 1).toInt ≤ k + m → k < 2 ^ 31 → mCn K 23 8 → (p = 0 ∨ p = 1) → mWP mTb_ mFT ro (d + 2, 65, 69, [some (.ref 10), some (.int w), some (.ref 22), some (.int p), some (.int i), some (.int (nI k)), o6], [], 0, 0, (mSH, (mMix mSM I K), L)) Q := by
  induction m with
  | zero =>
    intro k K p i o6 hm hk hK hp
    have z : I 4 1 ≤ nI k := (mLeI hk).mpr (by omega)
    rcases hp with e | e <;> subst e
    · apply s_tr_0 hK <;> intros <;> first | exact q1 _ (by assumption) | exact absurd z (by assumption)
    · apply s_tr_1 hK <;> intros <;> first | exact q1 _ (by assumption) | exact absurd z (by assumption)
  | succ m ih =>
    intro k K p i o6 hm hk hK hp
    by_cases z : I 4 1 ≤ nI k
    · rcases hp with e | e <;> subst e
      · apply s_tr_0 hK <;> intros <;> first | exact q1 _ (by assumption) | exact absurd z (by assumption)
      · apply s_tr_1 hK <;> intros <;> first | exact q1 _ (by assumption) | exact absurd z (by assumption)
    · have hk1 : k + 1 < 2 ^ 31 := mLe1 hk z
      rcases hp with e | e <;> subst e
      · apply s_tr_0 hK <;> intros <;> first | exact absurd (by assumption) z | (rw [nI_1, mMixIn (by decide)]; exact ih (k + 1) _ _ _ _ (by omega) hk1 (by assumption) (hR _ (mVl (by assumption))).1)
      · apply s_tr_1 hK <;> intros <;> first | exact absurd (by assumption) z | (rw [nI_1, mMixIn (by decide)]; exact ih (k + 1) _ _ _ _ (by omega) hk1 (by assumption) (hR _ (mVl (by assumption))).2)
theorem w_traces {ro : Nat → Nat × (Nat → Int32)} {Q : mPo} {d : Nat} {I : Nat → Nat → Int32} {L : Nat → Nat → Int64} {v0 : Int32} (n4 : mCn I 4 8) (hR : mRk I) (q0 : Q (some (.int 0)) (mSH, I, L)) (q1 : ∀ K, mCn K 23 8 → Q (some (.int 1)) (mSH, mMix mSM I K, L))  : mWP mTb_ mFT ro (d + 2, 65, 0, [some (.ref 10), some (.int v0), some (.ref 22), none, none, none, none], [], 0, 0, (mSH, I, L)) Q := by
  refine mB 1 (s2 := (d + 2, 65, 1, [some (.ref 10), some (.int v0), some (.ref 22), none, none, none, none], [.int v0], 0, 0, (mSH, I, L))) rfl ?_
  refine mBr (s2 := (d + 2, 65, 4, [some (.ref 10), some (.int v0), some (.ref 22), none, none, none, none], [], 0, 0, (mSH, I, L))) (s3 := (d + 2, 65, 8, [some (.ref 10), some (.int v0), some (.ref 22), none, none, none, none], [], 0, 0, (mSH, I, L))) rfl (fun c0 => ?_) (fun c0 => ?_)
  · refine mB 6 (s2 := (d + 2, 65, 15, [some (.ref 10), some (.int v0), some (.ref 22), some (.int 0), none, none, none], [.int 0, .ref 11], 0, 0, (mSH, I, L))) rfl ?_
    refine mRq (s2 := (d + 2, 65, 16, [some (.ref 10), some (.int v0), some (.ref 22), some (.int 0), none, none, none], [.ref 12], 0, 0, (mSH, I, L))) rfl (by decide) ?_
    refine mB 1 (s2 := (d + 2, 65, 19, [some (.ref 10), some (.int v0), some (.ref 22), some (.int 0), none, none, none], [.int 153, .ref 12], 0, 0, (mSH, I, L))) rfl ?_
    refine mRq (s2 := (d + 2, 65, 20, [some (.ref 10), some (.int v0), some (.ref 22), some (.int 0), none, none, none], [.int (I 12 153)], 0, 0, (mSH, I, L))) rfl (by decide) ?_
    refine mB 1 (s2 := (d + 2, 65, 22, [some (.ref 10), some (.int v0), some (.ref 22), some (.int 0), none, none, none], [.int 1000000000, .int (I 12 153)], 0, 0, (mSH, I, L))) rfl ?_
    refine mBr (s2 := (d + 2, 65, 25, [some (.ref 10), some (.int v0), some (.ref 22), some (.int 0), none, none, none], [], 0, 0, (mSH, I, L))) (s3 := (d + 2, 65, 27, [some (.ref 10), some (.int v0), some (.ref 22), some (.int 0), none, none, none], [], 0, 0, (mSH, I, L))) rfl (fun c1 => ?_) (fun c1 => ?_)
    · refine mB 1 (s2 := (d + 2, 65, 26, [some (.ref 10), some (.int v0), some (.ref 22), some (.int 0), none, none, none], [.int 0], 0, 0, (mSH, I, L))) rfl ?_
      refine mRt (r := (some (.int 0))) (h := (mSH, I, L)) rfl rfl ?_
      exact q0
    · refine mB 3 (s2 := (d + 2, 65, 32, [some (.ref 10), some (.int v0), some (.ref 22), some (.int 0), none, none, none], [.int 0, .ref 14], 0, 0, (mSH, I, L))) rfl ?_
      refine mRq (s2 := (d + 2, 65, 33, [some (.ref 10), some (.int v0), some (.ref 22), some (.int 0), none, none, none], [.ref 15], 0, 0, (mSH, I, L))) rfl (by decide) ?_
      refine mB 1 (s2 := (d + 2, 65, 36, [some (.ref 10), some (.int v0), some (.ref 22), some (.int 0), none, none, none], [.int 153, .ref 15], 0, 0, (mSH, I, L))) rfl ?_
      refine mRq (s2 := (d + 2, 65, 37, [some (.ref 10), some (.int v0), some (.ref 22), some (.int 0), none, none, none], [.int (I 15 153)], 0, 0, (mSH, I, L))) rfl (by decide) ?_
      refine mB 6 (s2 := (d + 2, 65, 47, [some (.ref 10), some (.int v0), some (.ref 22), some (.int 0), some (.int (I 15 153)), none, none], [.int 0, .ref 11, .int (I 15 153), .ref 22], 0, 0, (mSH, I, L))) rfl ?_
      refine mRq (s2 := (d + 2, 65, 48, [some (.ref 10), some (.int v0), some (.ref 22), some (.int 0), some (.int (I 15 153)), none, none], [.ref 12, .int (I 15 153), .ref 22], 0, 0, (mSH, I, L))) rfl (by decide) ?_
      refine mB 1 (s2 := (d + 2, 65, 51, [some (.ref 10), some (.int v0), some (.ref 22), some (.int 0), some (.int (I 15 153)), none, none], [.int 153, .ref 12, .int (I 15 153), .ref 22], 0, 0, (mSH, I, L))) rfl ?_
      refine mRq (s2 := (d + 2, 65, 52, [some (.ref 10), some (.int v0), some (.ref 22), some (.int 0), some (.int (I 15 153)), none, none], [.int (I 12 153), .int (I 15 153), .ref 22], 0, 0, (mSH, I, L))) rfl (by decide) ?_
      refine mCall (s2 := (d + 1, 14, 0, [some (.ref 22), some (.int (I 15 153)), some (.int (I 12 153))], [], 0, 0, (mSH, I, L))) rfl ?_
      refine mB 8 (s2 := (d + 1, 14, 14, [some (.ref 22), some (.int (I 15 153)), some (.int (I 12 153))], [.ref 23], 0, 0, (mSH, (mUp (mUp I 22 2 (I 15 153)) 22 3 (I 12 153)), L))) rfl ?_
      refine mCall (s2 := (d, 45, 0, [some (.ref 23), none], [], 0, 0, (mSH, (mUp (mUp I 22 2 (I 15 153)) 22 3 (I 12 153)), L))) rfl ?_
      refine mB 7 (s2 := (d, 45, 11, [some (.ref 23), some (.int (I 23 1))], [.int (I 23 1)], 0, 0, (mSH, (mUp (mUp (mUp I 22 2 (I 15 153)) 22 3 (I 12 153)) 23 1 0), L))) rfl ?_
      refine mRt (r := (some (.int (I 23 1)))) (h := (mSH, (mUp (mUp (mUp I 22 2 (I 15 153)) 22 3 (I 12 153)) 23 1 0), L)) rfl (mRet_int rfl) ?_
      show mWP mTb_ mFT ro (d + 1, 14, 17, [some (.ref 22), some (.int (I 15 153)), some (.int (I 12 153))], [.int (I 23 1)], 0, 0, (mSH, (mUp (mUp (mUp I 22 2 (I 15 153)) 22 3 (I 12 153)) 23 1 0), L)) _
      refine mB 1 (s2 := (d + 1, 14, 18, [some (.ref 22), some (.int (I 15 153)), some (.int (I 12 153))], [], 0, 0, (mSH, (mUp (mUp (mUp I 22 2 (I 15 153)) 22 3 (I 12 153)) 23 1 0), L))) rfl ?_
      refine mRt (r := none) (h := (mSH, (mUp (mUp (mUp I 22 2 (I 15 153)) 22 3 (I 12 153)) 23 1 0), L)) rfl rfl ?_
      show mWP mTb_ mFT ro (d + 2, 65, 55, [some (.ref 10), some (.int v0), some (.ref 22), some (.int 0), some (.int (I 15 153)), none, none], [], 0, 0, (mSH, (mUp (mUp (mUp I 22 2 (I 15 153)) 22 3 (I 12 153)) 23 1 0), L)) _
      refine mB 3 (s2 := (d + 2, 65, 60, [some (.ref 10), some (.int v0), some (.ref 22), some (.int 0), some (.int (I 15 153)), none, none], [.int 0, .ref 17], 0, 0, (mSH, (mUp (mUp (mUp I 22 2 (I 15 153)) 22 3 (I 12 153)) 23 1 0), L))) rfl ?_
      refine mRq (s2 := (d + 2, 65, 61, [some (.ref 10), some (.int v0), some (.ref 22), some (.int 0), some (.int (I 15 153)), none, none], [.ref 18], 0, 0, (mSH, (mUp (mUp (mUp I 22 2 (I 15 153)) 22 3 (I 12 153)) 23 1 0), L))) rfl (by decide) ?_
      refine mB 1 (s2 := (d + 2, 65, 64, [some (.ref 10), some (.int v0), some (.ref 22), some (.int 0), some (.int (I 15 153)), none, none], [.int 153, .ref 18], 0, 0, (mSH, (mUp (mUp (mUp I 22 2 (I 15 153)) 22 3 (I 12 153)) 23 1 0), L))) rfl ?_
      refine mRq (s2 := (d + 2, 65, 65, [some (.ref 10), some (.int v0), some (.ref 22), some (.int 0), some (.int (I 15 153)), none, none], [.int (I 18 153)], 0, 0, (mSH, (mUp (mUp (mUp I 22 2 (I 15 153)) 22 3 (I 12 153)) 23 1 0), L))) rfl (by decide) ?_
      refine mB 3 (s2 := (d + 2, 65, 69, [some (.ref 10), some (.int v0), some (.ref 22), some (.int (I 18 153)), some (.int (I 15 153)), some (.int 0), none], [], 0, 0, (mSH, (mUp (mUp (mUp I 22 2 (I 15 153)) 22 3 (I 12 153)) 23 1 0), L))) rfl ?_
      (rw [← ((mFr.up (by rfl) (mFr.up (by rfl) (mFr.up (by rfl) mFr.rf))) : mFr mSM I (mUp (mUp (mUp I 22 2 (I 15 153)) 22 3 (I 12 153)) 23 1 0)).eq]; exact l_tr n4 hR q1 2147483648 0 _ _ _ _ (by have := (I 4 1).toInt_lt; omega) (by omega) mCn_0 (hR _ (by decide)).1)
  · refine mB 5 (s2 := (d + 2, 65, 15, [some (.ref 10), some (.int v0), some (.ref 22), some (.int 1), none, none, none], [.int 1, .ref 11], 0, 0, (mSH, I, L))) rfl ?_
    refine mRq (s2 := (d + 2, 65, 16, [some (.ref 10), some (.int v0), some (.ref 22), some (.int 1), none, none, none], [.ref 13], 0, 0, (mSH, I, L))) rfl (by decide) ?_
    refine mB 1 (s2 := (d + 2, 65, 19, [some (.ref 10), some (.int v0), some (.ref 22), some (.int 1), none, none, none], [.int 153, .ref 13], 0, 0, (mSH, I, L))) rfl ?_
    refine mRq (s2 := (d + 2, 65, 20, [some (.ref 10), some (.int v0), some (.ref 22), some (.int 1), none, none, none], [.int (I 13 153)], 0, 0, (mSH, I, L))) rfl (by decide) ?_
    refine mB 1 (s2 := (d + 2, 65, 22, [some (.ref 10), some (.int v0), some (.ref 22), some (.int 1), none, none, none], [.int 1000000000, .int (I 13 153)], 0, 0, (mSH, I, L))) rfl ?_
    refine mBr (s2 := (d + 2, 65, 25, [some (.ref 10), some (.int v0), some (.ref 22), some (.int 1), none, none, none], [], 0, 0, (mSH, I, L))) (s3 := (d + 2, 65, 27, [some (.ref 10), some (.int v0), some (.ref 22), some (.int 1), none, none, none], [], 0, 0, (mSH, I, L))) rfl (fun c1 => ?_) (fun c1 => ?_)
    · refine mB 1 (s2 := (d + 2, 65, 26, [some (.ref 10), some (.int v0), some (.ref 22), some (.int 1), none, none, none], [.int 0], 0, 0, (mSH, I, L))) rfl ?_
      refine mRt (r := (some (.int 0))) (h := (mSH, I, L)) rfl rfl ?_
      exact q0
    · refine mB 3 (s2 := (d + 2, 65, 32, [some (.ref 10), some (.int v0), some (.ref 22), some (.int 1), none, none, none], [.int 1, .ref 14], 0, 0, (mSH, I, L))) rfl ?_
      refine mRq (s2 := (d + 2, 65, 33, [some (.ref 10), some (.int v0), some (.ref 22), some (.int 1), none, none, none], [.ref 16], 0, 0, (mSH, I, L))) rfl (by decide) ?_
      refine mB 1 (s2 := (d + 2, 65, 36, [some (.ref 10), some (.int v0), some (.ref 22), some (.int 1), none, none, none], [.int 153, .ref 16], 0, 0, (mSH, I, L))) rfl ?_
      refine mRq (s2 := (d + 2, 65, 37, [some (.ref 10), some (.int v0), some (.ref 22), some (.int 1), none, none, none], [.int (I 16 153)], 0, 0, (mSH, I, L))) rfl (by decide) ?_
      refine mB 6 (s2 := (d + 2, 65, 47, [some (.ref 10), some (.int v0), some (.ref 22), some (.int 1), some (.int (I 16 153)), none, none], [.int 1, .ref 11, .int (I 16 153), .ref 22], 0, 0, (mSH, I, L))) rfl ?_
      refine mRq (s2 := (d + 2, 65, 48, [some (.ref 10), some (.int v0), some (.ref 22), some (.int 1), some (.int (I 16 153)), none, none], [.ref 13, .int (I 16 153), .ref 22], 0, 0, (mSH, I, L))) rfl (by decide) ?_
      refine mB 1 (s2 := (d + 2, 65, 51, [some (.ref 10), some (.int v0), some (.ref 22), some (.int 1), some (.int (I 16 153)), none, none], [.int 153, .ref 13, .int (I 16 153), .ref 22], 0, 0, (mSH, I, L))) rfl ?_
      refine mRq (s2 := (d + 2, 65, 52, [some (.ref 10), some (.int v0), some (.ref 22), some (.int 1), some (.int (I 16 153)), none, none], [.int (I 13 153), .int (I 16 153), .ref 22], 0, 0, (mSH, I, L))) rfl (by decide) ?_
      refine mCall (s2 := (d + 1, 14, 0, [some (.ref 22), some (.int (I 16 153)), some (.int (I 13 153))], [], 0, 0, (mSH, I, L))) rfl ?_
      refine mB 8 (s2 := (d + 1, 14, 14, [some (.ref 22), some (.int (I 16 153)), some (.int (I 13 153))], [.ref 23], 0, 0, (mSH, (mUp (mUp I 22 2 (I 16 153)) 22 3 (I 13 153)), L))) rfl ?_
      refine mCall (s2 := (d, 45, 0, [some (.ref 23), none], [], 0, 0, (mSH, (mUp (mUp I 22 2 (I 16 153)) 22 3 (I 13 153)), L))) rfl ?_
      refine mB 7 (s2 := (d, 45, 11, [some (.ref 23), some (.int (I 23 1))], [.int (I 23 1)], 0, 0, (mSH, (mUp (mUp (mUp I 22 2 (I 16 153)) 22 3 (I 13 153)) 23 1 0), L))) rfl ?_
      refine mRt (r := (some (.int (I 23 1)))) (h := (mSH, (mUp (mUp (mUp I 22 2 (I 16 153)) 22 3 (I 13 153)) 23 1 0), L)) rfl (mRet_int rfl) ?_
      show mWP mTb_ mFT ro (d + 1, 14, 17, [some (.ref 22), some (.int (I 16 153)), some (.int (I 13 153))], [.int (I 23 1)], 0, 0, (mSH, (mUp (mUp (mUp I 22 2 (I 16 153)) 22 3 (I 13 153)) 23 1 0), L)) _
      refine mB 1 (s2 := (d + 1, 14, 18, [some (.ref 22), some (.int (I 16 153)), some (.int (I 13 153))], [], 0, 0, (mSH, (mUp (mUp (mUp I 22 2 (I 16 153)) 22 3 (I 13 153)) 23 1 0), L))) rfl ?_
      refine mRt (r := none) (h := (mSH, (mUp (mUp (mUp I 22 2 (I 16 153)) 22 3 (I 13 153)) 23 1 0), L)) rfl rfl ?_
      show mWP mTb_ mFT ro (d + 2, 65, 55, [some (.ref 10), some (.int v0), some (.ref 22), some (.int 1), some (.int (I 16 153)), none, none], [], 0, 0, (mSH, (mUp (mUp (mUp I 22 2 (I 16 153)) 22 3 (I 13 153)) 23 1 0), L)) _
      refine mB 3 (s2 := (d + 2, 65, 60, [some (.ref 10), some (.int v0), some (.ref 22), some (.int 1), some (.int (I 16 153)), none, none], [.int 1, .ref 17], 0, 0, (mSH, (mUp (mUp (mUp I 22 2 (I 16 153)) 22 3 (I 13 153)) 23 1 0), L))) rfl ?_
      refine mRq (s2 := (d + 2, 65, 61, [some (.ref 10), some (.int v0), some (.ref 22), some (.int 1), some (.int (I 16 153)), none, none], [.ref 19], 0, 0, (mSH, (mUp (mUp (mUp I 22 2 (I 16 153)) 22 3 (I 13 153)) 23 1 0), L))) rfl (by decide) ?_
      refine mB 1 (s2 := (d + 2, 65, 64, [some (.ref 10), some (.int v0), some (.ref 22), some (.int 1), some (.int (I 16 153)), none, none], [.int 153, .ref 19], 0, 0, (mSH, (mUp (mUp (mUp I 22 2 (I 16 153)) 22 3 (I 13 153)) 23 1 0), L))) rfl ?_
      refine mRq (s2 := (d + 2, 65, 65, [some (.ref 10), some (.int v0), some (.ref 22), some (.int 1), some (.int (I 16 153)), none, none], [.int (I 19 153)], 0, 0, (mSH, (mUp (mUp (mUp I 22 2 (I 16 153)) 22 3 (I 13 153)) 23 1 0), L))) rfl (by decide) ?_
      refine mB 3 (s2 := (d + 2, 65, 69, [some (.ref 10), some (.int v0), some (.ref 22), some (.int (I 19 153)), some (.int (I 16 153)), some (.int 0), none], [], 0, 0, (mSH, (mUp (mUp (mUp I 22 2 (I 16 153)) 22 3 (I 13 153)) 23 1 0), L))) rfl ?_
      (rw [← ((mFr.up (by rfl) (mFr.up (by rfl) (mFr.up (by rfl) mFr.rf))) : mFr mSM I (mUp (mUp (mUp I 22 2 (I 16 153)) 22 3 (I 13 153)) 23 1 0)).eq]; exact l_tr n4 hR q1 2147483648 0 _ _ _ _ (by have := (I 4 1).toInt_lt; omega) (by omega) mCn_0 (hR _ (by decide)).2)
abbrev mSX : List Nat := [12, 13, 15, 16, 18, 19, 20, 21, 22, 23, 24]
def mPX (K : Nat → Nat → Int32) : Prop := mRk K ∧ mCn K 23 8
theorem w_finds {ro : Nat → Nat × (Nat → Int32)} {Q : mPo} {d : Nat} {I : Nat → Nat → Int32} {L : Nat → Nat → Int64} {v0 : Int32} (n2 : mCn I 2 16) (n4 : mCn I 4 8) (n23 : mCn I 23 8) (hR : mRk I) (q0 : ∀ K, mPX K → Q (some (.int 0)) (mSH, mMix mSX I K, L)) (q1 : ∀ K, mPX K → Q (some (.int 1)) (mSH, mMix mSX I K, L))  : mWP mTb_ mFT ro (d + 5, 106, 0, [some (.ref 0), some (.int v0)], [], 0, 0, (mSH, I, L)) Q := by
  refine mB 7 (s2 := (d + 5, 106, 13, [some (.ref 0), some (.int v0)], [.int 0, .ref 8, .ref 6, .ref 10], 0, 0, (mSH, I, L))) rfl ?_
  refine mCall (s2 := (d + 4, 10, 0, [some (.ref 8), some (.int 0)], [], 0, 0, (mSH, I, L))) rfl ?_
  refine mB 2 (s2 := (d + 4, 10, 2, [some (.ref 8), some (.int 0)], [.int 0, .ref 8], 0, 0, (mSH, I, L))) rfl ?_
  refine mCall (s2 := (d + 3, 8, 0, [some (.ref 8), some (.int 0)], [], 0, 0, (mSH, I, L))) rfl ?_
  refine mB 1 (s2 := (d + 3, 8, 1, [some (.ref 8), some (.int 0)], [.int 0], 0, 0, (mSH, I, L))) rfl ?_
  refine mBF (s3 := (d + 3, 8, 4, [some (.ref 8), some (.int 0)], [], 0, 0, (mSH, I, L))) rfl (by decide) ?_
  refine mB 4 (s2 := (d + 3, 8, 10, [some (.ref 8), some (.int 0)], [.int 3, .int 0], 0, 0, (mSH, I, L))) rfl ?_
  refine mBF (s3 := (d + 3, 8, 13, [some (.ref 8), some (.int 0)], [], 0, 0, (mSH, I, L))) rfl (by decide) ?_
  refine mB 2 (s2 := (d + 3, 8, 18, [some (.ref 8), some (.int 0)], [.int 1], 0, 0, (mSH, I, L))) rfl ?_
  refine mRt (r := (some (.int 1))) (h := (mSH, I, L)) rfl rfl ?_
  show mWP mTb_ mFT ro (d + 4, 10, 5, [some (.ref 8), some (.int 0)], [.int 1], 0, 0, (mSH, I, L)) _
  refine mBF (s3 := (d + 4, 10, 8, [some (.ref 8), some (.int 0)], [], 0, 0, (mSH, I, L))) rfl (by decide) ?_
  refine mB 3 (s2 := (d + 4, 10, 13, [some (.ref 8), some (.int 0)], [.int 0, .ref 9], 0, 0, (mSH, I, L))) rfl ?_
  refine mRq (s2 := (d + 4, 10, 14, [some (.ref 8), some (.int 0)], [.int (I 9 0)], 0, 0, (mSH, I, L))) rfl (by decide) ?_
  refine mB 1 (s2 := (d + 4, 10, 18, [some (.ref 8), some (.int 0)], [.int (I 9 0)], 0, 0, (mSH, I, L))) rfl ?_
  refine mRt (r := (some (.int (I 9 0)))) (h := (mSH, I, L)) rfl (mRet_int rfl) ?_
  show mWP mTb_ mFT ro (d + 5, 106, 16, [some (.ref 0), some (.int v0)], [.int (I 9 0), .ref 6, .ref 10], 0, 0, (mSH, I, L)) _
  refine mCall (s2 := (d + 4, 52, 0, [some (.ref 10), some (.ref 6), some (.int (I 9 0)), none, none, none], [], 0, 0, (mSH, I, L))) rfl ?_
  refine w_fill_L6 n2 n4 hR (fun K1 hK1 => ?_)
  show mWP mTb_ mFT ro (d + 5, 106, 19, [some (.ref 0), some (.int v0)], [], 0, 0, (mSH, (mMix mSS I K1), L)) _
  refine mB 5 (s2 := (d + 5, 106, 28, [some (.ref 0), some (.int v0)], [.ref 22, .int v0, .ref 10], 0, 0, (mSH, (mMix mSS I K1), L))) rfl ?_
  refine mCall (s2 := (d + 4, 65, 0, [some (.ref 10), some (.int v0), some (.ref 22), none, none, none, none], [], 0, 0, (mSH, (mMix mSS I K1), L))) rfl ?_
  refine w_traces n4 hK1 ?_ ?_
  · show mWP mTb_ mFT ro (d + 5, 106, 31, [some (.ref 0), some (.int v0)], [.int 0], 0, 0, (mSH, (mMix mSS I K1), L)) _
    refine mRt (r := (some (.int 0))) (h := (mSH, (mMix mSS I K1), L)) rfl rfl ?_
    exact mFin (P := mPX) q0 (mFr.mix (by decide) mFr.rf) ⟨hK1, n23⟩
  · intro K2 hK2
    show mWP mTb_ mFT ro (d + 5, 106, 31, [some (.ref 0), some (.int v0)], [.int 1], 0, 0, (mSH, (mMix mSM (mMix mSS I K1) K2), L)) _
    refine mRt (r := (some (.int 1))) (h := (mSH, (mMix mSM (mMix mSS I K1) K2), L)) rfl rfl ?_
    exact mFin (P := mPX) q1 (mFr.mix (by decide) (mFr.mix (by decide) mFr.rf)) ⟨hK1, hK2⟩
