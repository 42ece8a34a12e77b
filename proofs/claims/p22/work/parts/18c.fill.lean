/-! The search is filled. Written by a program (wip/mk_c.py). -/
theorem mTl {x : Int32} : x.toInt < (2147483648 : Nat) := by
  have := x.toInt_lt
  omega
theorem mMixU {S : List Nat} {I K : Nat → Nat → Int32} {c z : Nat} {v : Int32} (h : mMem S c = true) : mUp (mMix S I K) c z v = mMix S I (mUp K c z v) := by
  funext r j
  cases e : mMem S r with
  | true =>
    rw [mMix_in e]
    unfold mUp
    by_cases g : r = c
    · subst g
      rw [if_pos rfl, if_pos rfl, mMix_in e]
    · rw [if_neg g, if_neg g, mMix_in e]
  | false =>
    have g : r ≠ c := mMem_ne e h
    rw [mMix_out e]
    unfold mUp
    rw [if_neg g, mMix_out e]
theorem s_endB {ro : Nat → Nat × (Nat → Int32)} {Q : mPo} {d : Nat} {I : Nat → Nat → Int32} {L : Nat → Nat → Int64} {la : Int32} {K : Nat → Nat → Int32} {o3 : Option Value} {x0 : Int32}  (h1 : ((I 2 1) < x0) → Q none (mSH, (mMix mSS I K), L)) (h2 : ¬ ((I 2 1) < x0) → ∀ (x1 : Int32), (vp_in x1 154) → mWP mTb_ mFT ro (d + 2, 54, 2, [some (.ref 10), some (.int la), some (.int (x0 + 1)), some (.int x1)], [], 0, 0, (mSH, (mUp (mUp (mUp (mMix mSS I K) 12 x1.toNatClampNeg 0) 20 x1.toNatClampNeg 1) 21 x1.toNatClampNeg 1), L)) Q) : mWP mTb_ mFT ro (d + 2, 54, 2, [some (.ref 10), some (.int la), some (.int x0), o3], [], 0, 0, (mSH, (mMix mSS I K), L)) Q := by
  refine mB 4 (s2 := (d + 2, 54, 10, [some (.ref 10), some (.int la), some (.int x0), o3], [.ref 2, .int x0], 0, 0, (mSH, (mMix mSS I K), L))) rfl ?_
  refine mCall (s2 := (d + 1, 39, 0, [some (.ref 2)], [], 0, 0, (mSH, (mMix mSS I K), L))) rfl ?_
  refine mB 2 (s2 := (d + 1, 39, 4, [some (.ref 2)], [.int (I 2 1)], 0, 0, (mSH, (mMix mSS I K), L))) rfl ?_
  refine mRt (r := (some (.int (I 2 1)))) (h := (mSH, (mMix mSS I K), L)) rfl (mRet_int rfl) ?_
  show mWP mTb_ mFT ro (d + 2, 54, 13, [some (.ref 10), some (.int la), some (.int x0), o3], [.int (I 2 1), .int x0], 0, 0, (mSH, (mMix mSS I K), L)) _
  refine mBr (s2 := (d + 2, 54, 53, [some (.ref 10), some (.int la), some (.int x0), o3], [], 0, 0, (mSH, (mMix mSS I K), L))) (s3 := (d + 2, 54, 16, [some (.ref 10), some (.int la), some (.int x0), o3], [], 0, 0, (mSH, (mMix mSS I K), L))) rfl (fun c0 => ?_) (fun c0 => ?_)
  · refine mRt (r := none) (h := (mSH, (mMix mSS I K), L)) rfl rfl ?_
    exact h1 (of_decide_eq_true c0)
  · refine mB 4 (s2 := (d + 2, 54, 20, [some (.ref 10), some (.int la), some (.int x0), o3], [.int x0, .int (la + 1)], 0, 0, (mSH, (mMix mSS I K), L))) rfl ?_
    refine mCall (s2 := (d + 1, 59, 0, [some (.int (la + 1)), some (.int x0), none], [], 0, 0, (mSH, (mMix mSS I K), L))) rfl ?_
    refine w_cellOf (fun x1 hx1 => ?_)
    show mWP mTb_ mFT ro (d + 2, 54, 23, [some (.ref 10), some (.int la), some (.int x0), o3], [.int x1], 0, 0, (mSH, (mMix mSS I K), L)) _
    refine mB 4 (s2 := (d + 2, 54, 29, [some (.ref 10), some (.int la), some (.int x0), some (.int x1)], [.int 0, .ref 11], 0, 0, (mSH, (mMix mSS I K), L))) rfl ?_
    refine mRq (s2 := (d + 2, 54, 30, [some (.ref 10), some (.int la), some (.int x0), some (.int x1)], [.ref 12], 0, 0, (mSH, (mMix mSS I K), L))) rfl (by decide) ?_
    refine mB 2 (s2 := (d + 2, 54, 32, [some (.ref 10), some (.int la), some (.int x0), some (.int x1)], [.int 0, .int x1, .ref 12], 0, 0, (mSH, (mMix mSS I K), L))) rfl ?_
    refine mRq (s2 := (d + 2, 54, 33, [some (.ref 10), some (.int la), some (.int x0), some (.int x1)], [], 0, 0, (mSH, (mUp (mMix mSS I K) 12 x1.toNatClampNeg 0), L))) rfl (mVp_of hx1) ?_
    refine mB 4 (s2 := (d + 2, 54, 39, [some (.ref 10), some (.int la), some (.int x0), some (.int x1)], [.int 1, .int x1, .ref 20], 0, 0, (mSH, (mUp (mMix mSS I K) 12 x1.toNatClampNeg 0), L))) rfl ?_
    refine mRq (s2 := (d + 2, 54, 40, [some (.ref 10), some (.int la), some (.int x0), some (.int x1)], [], 0, 0, (mSH, (mUp (mUp (mMix mSS I K) 12 x1.toNatClampNeg 0) 20 x1.toNatClampNeg 1), L))) rfl (mVp_of hx1) ?_
    refine mB 4 (s2 := (d + 2, 54, 46, [some (.ref 10), some (.int la), some (.int x0), some (.int x1)], [.int 1, .int x1, .ref 21], 0, 0, (mSH, (mUp (mUp (mMix mSS I K) 12 x1.toNatClampNeg 0) 20 x1.toNatClampNeg 1), L))) rfl ?_
    refine mRq (s2 := (d + 2, 54, 47, [some (.ref 10), some (.int la), some (.int x0), some (.int x1)], [], 0, 0, (mSH, (mUp (mUp (mUp (mMix mSS I K) 12 x1.toNatClampNeg 0) 20 x1.toNatClampNeg 1) 21 x1.toNatClampNeg 1), L))) rfl (mVp_of hx1) ?_
    refine mB 2 (s2 := (d + 2, 54, 2, [some (.ref 10), some (.int la), some (.int (x0 + 1)), some (.int x1)], [], 0, 0, (mSH, (mUp (mUp (mUp (mMix mSS I K) 12 x1.toNatClampNeg 0) 20 x1.toNatClampNeg 1) 21 x1.toNatClampNeg 1), L))) rfl ?_
    exact h2 (of_decide_eq_false c0) x1 hx1
theorem l_endB {ro : Nat → Nat × (Nat → Int32)} {Q : mPo} {d : Nat} {I : Nat → Nat → Int32} {L : Nat → Nat → Int64} {la : Int32} (n2 : mCn I 2 16) (hq : ∀ K, mRk K → Q none (mSH, mMix mSS I K, L)) (m : Nat) : ∀ (k : Nat) (K : Nat → Nat → Int32) (o3 : Option Value), (I 2 1).toInt < k + m → k < 2 ^ 31 → mRk K → mWP mTb_ mFT ro (d + 2, 54, 2, [some (.ref 10), some (.int la), some (.int (nI k)), o3], [], 0, 0, (mSH, (mMix mSS I K), L)) Q := by
  induction m with
  | zero =>
    intro k K o3 hm hk hK
    have z : I 2 1 < nI k := (mLtI hk).mpr (by omega)
    apply s_endB <;> intros <;> first | exact hq _ (by assumption) | exact absurd z (by assumption)
  | succ m ih =>
    intro k K o3 hm hk hK
    by_cases z : I 2 1 < nI k
    · apply s_endB <;> intros <;> first | exact hq _ (by assumption) | exact absurd z (by assumption)
    · have hk1 : k + 1 < 2 ^ 31 := (by have a : ¬ (I 2 1).toInt < (k : Int) := fun y => z ((mLtI hk).mpr y); have b := n2.hi; omega)
      apply s_endB <;> intros <;> first | exact absurd (by assumption) z | exact hq _ (by assumption) | exact (by assumption : vp_in _ _) | (rw [nI_1, mMixU (by rfl), mMixU (by rfl), mMixU (by rfl)]; exact ih (k + 1) _ _ (by omega) hk1 (mRk.up (mRk.up (mRk.up (by assumption) (by rfl) (by rfl)) (by rfl) (by rfl)) (by rfl) (by rfl)))
theorem w_endB {ro : Nat → Nat × (Nat → Int32)} {Q : mPo} {d : Nat} {I : Nat → Nat → Int32} {L : Nat → Nat → Int64} {v0 : Int32} (n2 : mCn I 2 16) (hR : mRk I) (hq : ∀ K, mRk K → Q none (mSH, mMix mSS I K, L))  : mWP mTb_ mFT ro (d + 2, 54, 0, [some (.ref 10), some (.int v0), none, none], [], 0, 0, (mSH, I, L)) Q := by
  refine mB 2 (s2 := (d + 2, 54, 2, [some (.ref 10), some (.int v0), some (.int 0), none], [], 0, 0, (mSH, I, L))) rfl ?_
  (rw [← (mFr.rf : mFr mSS I I).eq]; exact l_endB n2 hq 2147483648 0 _ _ (by have := (I 2 1).toInt_lt; omega) (by omega) hR)
theorem s_fillI_6 {ro : Nat → Nat × (Nat → Int32)} {Q : mPo} {d : Nat} {I : Nat → Nat → Int32} {L : Nat → Nat → Int64} {kind la j : Int32} {K : Nat → Nat → Int32} {x0 : Int32} (n2 : mCn I 2 16) (n4 : mCn I 4 8) (hK : mRk K) (h1 : ((I 2 1) ≤ x0) → mWP mTb_ mFT ro (d + 4, 52, 30, [some (.ref 10), some (.ref 6), some (.int kind), some (.int la), some (.int (j + (-1))), some (.int x0)], [], 0, 0, (mSH, (mMix mSS I K), L)) Q) (h2 : ¬ ((I 2 1) ≤ x0) → ∀ (K1 : Nat → Nat → Int32), (mRk K1) → mWP mTb_ mFT ro (d + 4, 52, 38, [some (.ref 10), some (.ref 6), some (.int kind), some (.int la), some (.int j), some (.int (x0 + 1))], [], 0, 0, (mSH, (mMix mSS (mMix mSS I K) K1), L)) Q) : mWP mTb_ mFT ro (d + 4, 52, 38, [some (.ref 10), some (.ref 6), some (.int kind), some (.int la), some (.int j), some (.int x0)], [], 0, 0, (mSH, (mMix mSS I K), L)) Q := by
  refine mB 4 (s2 := (d + 4, 52, 47, [some (.ref 10), some (.ref 6), some (.int kind), some (.int la), some (.int j), some (.int x0)], [.ref 2, .int x0], 0, 0, (mSH, (mMix mSS I K), L))) rfl ?_
  refine mCall (s2 := (d + 3, 39, 0, [some (.ref 2)], [], 0, 0, (mSH, (mMix mSS I K), L))) rfl ?_
  refine mB 2 (s2 := (d + 3, 39, 4, [some (.ref 2)], [.int (I 2 1)], 0, 0, (mSH, (mMix mSS I K), L))) rfl ?_
  refine mRt (r := (some (.int (I 2 1)))) (h := (mSH, (mMix mSS I K), L)) rfl (mRet_int rfl) ?_
  show mWP mTb_ mFT ro (d + 4, 52, 50, [some (.ref 10), some (.ref 6), some (.int kind), some (.int la), some (.int j), some (.int x0)], [.int (I 2 1), .int x0], 0, 0, (mSH, (mMix mSS I K), L)) _
  refine mBr (s2 := (d + 4, 52, 69, [some (.ref 10), some (.ref 6), some (.int kind), some (.int la), some (.int j), some (.int x0)], [], 0, 0, (mSH, (mMix mSS I K), L))) (s3 := (d + 4, 52, 53, [some (.ref 10), some (.ref 6), some (.int kind), some (.int la), some (.int j), some (.int x0)], [], 0, 0, (mSH, (mMix mSS I K), L))) rfl (fun c0 => ?_) (fun c0 => ?_)
  · refine mB 2 (s2 := (d + 4, 52, 30, [some (.ref 10), some (.ref 6), some (.int kind), some (.int la), some (.int (j + (-1))), some (.int x0)], [], 0, 0, (mSH, (mMix mSS I K), L))) rfl ?_
    exact h1 (of_decide_eq_true c0)
  · refine mB 5 (s2 := (d + 4, 52, 60, [some (.ref 10), some (.ref 6), some (.int kind), some (.int la), some (.int j), some (.int x0)], [.int x0, .int j, .int kind, .ref 6, .ref 10], 0, 0, (mSH, (mMix mSS I K), L))) rfl ?_
    refine mCall (s2 := (d + 3, 55, 0, [some (.ref 10), some (.ref 6), some (.int kind), some (.int j), some (.int x0), none, none], [], 0, 0, (mSH, (mMix mSS I K), L))) rfl ?_
    refine w_fillCell_6 n2 n4 hK (fun K1 hK1 => ?_)
    show mWP mTb_ mFT ro (d + 4, 52, 63, [some (.ref 10), some (.ref 6), some (.int kind), some (.int la), some (.int j), some (.int x0)], [], 0, 0, (mSH, (mMix mSS (mMix mSS I K) K1), L)) _
    refine mB 2 (s2 := (d + 4, 52, 38, [some (.ref 10), some (.ref 6), some (.int kind), some (.int la), some (.int j), some (.int (x0 + 1))], [], 0, 0, (mSH, (mMix mSS (mMix mSS I K) K1), L))) rfl ?_
    exact h2 (of_decide_eq_false c0) K1 hK1
theorem l_fillI_6 {ro : Nat → Nat × (Nat → Int32)} {Q : mPo} {d : Nat} {I : Nat → Nat → Int32} {L : Nat → Nat → Int64} {kind la j : Int32} (n2 : mCn I 2 16) (n4 : mCn I 4 8) (hx : ∀ K x, mRk K → mWP mTb_ mFT ro (d + 4, 52, 30, [some (.ref 10), some (.ref 6), some (.int kind), some (.int la), some (.int (j + (-1))), some (.int x)], [], 0, 0, (mSH, (mMix mSS I K), L)) Q) (m : Nat) : ∀ (k : Nat) (K : Nat → Nat → Int32), (I 2 1).toInt ≤ k + m → k < 2 ^ 31 → mRk K → mWP mTb_ mFT ro (d + 4, 52, 38, [some (.ref 10), some (.ref 6), some (.int kind), some (.int la), some (.int j), some (.int (nI k))], [], 0, 0, (mSH, (mMix mSS I K), L)) Q := by
  induction m with
  | zero =>
    intro k K hm hk hK
    have z : I 2 1 ≤ nI k := (mLeI hk).mpr (by omega)
    apply s_fillI_6 n2 n4 hK <;> intros <;> first | exact hx _ _ (by assumption) | exact absurd z (by assumption)
  | succ m ih =>
    intro k K hm hk hK
    by_cases z : I 2 1 ≤ nI k
    · apply s_fillI_6 n2 n4 hK <;> intros <;> first | exact hx _ _ (by assumption) | exact absurd z (by assumption)
    · have hk1 : k + 1 < 2 ^ 31 := mLe1 hk z
      apply s_fillI_6 n2 n4 hK <;> intros <;> first | exact absurd (by assumption) z | exact hx _ _ (by assumption) | (rw [nI_1, mMix2]; exact ih (k + 1) _ (by omega) hk1 (by assumption))
theorem s_fillR_6 {ro : Nat → Nat × (Nat → Int32)} {Q : mPo} {d : Nat} {I : Nat → Nat → Int32} {L : Nat → Nat → Int64} {kind la : Int32} {o5 : Option Value} {K : Nat → Nat → Int32} {x0 : Int32} (hK : mRk K) (h1 : ((I 2 1) ≤ x0) → Q none (mSH, (mMix mSS I K), L)) (h2 : ¬ ((I 2 1) ≤ x0) → ∀ (x1 : Int32), (vp_in x1 154) → ∀ (K2 : Nat → Nat → Int32), (mRk K2) → mWP mTb_ mFT ro (d + 4, 52, 78, [some (.ref 10), some (.ref 6), some (.int kind), some (.int la), some (.int (x0 + 1)), o5], [], 0, 0, (mSH, (mMix mSS (mMix mSS I K) K2), L)) Q) : mWP mTb_ mFT ro (d + 4, 52, 78, [some (.ref 10), some (.ref 6), some (.int kind), some (.int la), some (.int x0), o5], [], 0, 0, (mSH, (mMix mSS I K), L)) Q := by
  refine mB 4 (s2 := (d + 4, 52, 87, [some (.ref 10), some (.ref 6), some (.int kind), some (.int la), some (.int x0), o5], [.ref 2, .int x0], 0, 0, (mSH, (mMix mSS I K), L))) rfl ?_
  refine mCall (s2 := (d + 3, 39, 0, [some (.ref 2)], [], 0, 0, (mSH, (mMix mSS I K), L))) rfl ?_
  refine mB 2 (s2 := (d + 3, 39, 4, [some (.ref 2)], [.int (I 2 1)], 0, 0, (mSH, (mMix mSS I K), L))) rfl ?_
  refine mRt (r := (some (.int (I 2 1)))) (h := (mSH, (mMix mSS I K), L)) rfl (mRet_int rfl) ?_
  show mWP mTb_ mFT ro (d + 4, 52, 90, [some (.ref 10), some (.ref 6), some (.int kind), some (.int la), some (.int x0), o5], [.int (I 2 1), .int x0], 0, 0, (mSH, (mMix mSS I K), L)) _
  refine mBr (s2 := (d + 4, 52, 115, [some (.ref 10), some (.ref 6), some (.int kind), some (.int la), some (.int x0), o5], [], 0, 0, (mSH, (mMix mSS I K), L))) (s3 := (d + 4, 52, 93, [some (.ref 10), some (.ref 6), some (.int kind), some (.int la), some (.int x0), o5], [], 0, 0, (mSH, (mMix mSS I K), L))) rfl (fun c0 => ?_) (fun c0 => ?_)
  · refine mRt (r := none) (h := (mSH, (mMix mSS I K), L)) rfl rfl ?_
    exact h1 (of_decide_eq_true c0)
  · refine mB 4 (s2 := (d + 4, 52, 100, [some (.ref 10), some (.ref 6), some (.int kind), some (.int la), some (.int x0), o5], [.int x0, .int 0, .int 153, .ref 10], 0, 0, (mSH, (mMix mSS I K), L))) rfl ?_
    refine mCall (s2 := (d + 3, 59, 0, [some (.int 0), some (.int x0), none], [], 0, 0, (mSH, (mMix mSS I K), L))) rfl ?_
    refine w_cellOf (fun x1 hx1 => ?_)
    show mWP mTb_ mFT ro (d + 4, 52, 103, [some (.ref 10), some (.ref 6), some (.int kind), some (.int la), some (.int x0), o5], [.int x1, .int 153, .ref 10], 0, 0, (mSH, (mMix mSS I K), L)) _
    refine mB 2 (s2 := (d + 4, 52, 106, [some (.ref 10), some (.ref 6), some (.int kind), some (.int la), some (.int x0), o5], [.int 0, .int x0, .int x1, .int 153, .ref 10], 0, 0, (mSH, (mMix mSS I K), L))) rfl ?_
    refine mCall (s2 := (d + 3, 56, 0, [some (.ref 10), some (.int 153), some (.int x1), some (.int x0), some (.int 0), none], [], 0, 0, (mSH, (mMix mSS I K), L))) rfl ?_
    refine w_join hK mV153 hx1 (fun K2 hK2 => ?_)
    show mWP mTb_ mFT ro (d + 4, 52, 109, [some (.ref 10), some (.ref 6), some (.int kind), some (.int la), some (.int x0), o5], [], 0, 0, (mSH, (mMix mSS (mMix mSS I K) K2), L)) _
    refine mB 2 (s2 := (d + 4, 52, 78, [some (.ref 10), some (.ref 6), some (.int kind), some (.int la), some (.int (x0 + 1)), o5], [], 0, 0, (mSH, (mMix mSS (mMix mSS I K) K2), L))) rfl ?_
    exact h2 (of_decide_eq_false c0) x1 hx1 K2 hK2
theorem l_fillR_6 {ro : Nat → Nat × (Nat → Int32)} {Q : mPo} {d : Nat} {I : Nat → Nat → Int32} {L : Nat → Nat → Int64} {kind la : Int32} {o5 : Option Value} (hq : ∀ K, mRk K → Q none (mSH, mMix mSS I K, L)) (m : Nat) : ∀ (k : Nat) (K : Nat → Nat → Int32), (I 2 1).toInt ≤ k + m → k < 2 ^ 31 → mRk K → mWP mTb_ mFT ro (d + 4, 52, 78, [some (.ref 10), some (.ref 6), some (.int kind), some (.int la), some (.int (nI k)), o5], [], 0, 0, (mSH, (mMix mSS I K), L)) Q := by
  induction m with
  | zero =>
    intro k K hm hk hK
    have z : I 2 1 ≤ nI k := (mLeI hk).mpr (by omega)
    apply s_fillR_6 hK <;> intros <;> first | exact hq _ (by assumption) | exact absurd z (by assumption)
  | succ m ih =>
    intro k K hm hk hK
    by_cases z : I 2 1 ≤ nI k
    · apply s_fillR_6 hK <;> intros <;> first | exact hq _ (by assumption) | exact absurd z (by assumption)
    · have hk1 : k + 1 < 2 ^ 31 := mLe1 hk z
      apply s_fillR_6 hK <;> intros <;> first | exact absurd (by assumption) z | exact hq _ (by assumption) | (rw [nI_1, mMix2]; exact ih (k + 1) _ (by omega) hk1 (by assumption))
theorem s_fillO_6 {ro : Nat → Nat × (Nat → Int32)} {Q : mPo} {d : Nat} {I : Nat → Nat → Int32} {L : Nat → Nat → Int64} {K : Nat → Nat → Int32} {kind la j : Int32} {o5 : Option Value}  (h1 : (j < 0) → mWP mTb_ mFT ro (d + 4, 52, 78, [some (.ref 10), some (.ref 6), some (.int kind), some (.int la), some (.int 0), o5], [], 0, 0, (mSH, (mMix mSS I K), L)) Q) (h2 : ¬ (j < 0) → mWP mTb_ mFT ro (d + 4, 52, 38, [some (.ref 10), some (.ref 6), some (.int kind), some (.int la), some (.int j), some (.int 0)], [], 0, 0, (mSH, (mMix mSS I K), L)) Q) : mWP mTb_ mFT ro (d + 4, 52, 30, [some (.ref 10), some (.ref 6), some (.int kind), some (.int la), some (.int j), o5], [], 0, 0, (mSH, (mMix mSS I K), L)) Q := by
  refine mB 1 (s2 := (d + 4, 52, 32, [some (.ref 10), some (.ref 6), some (.int kind), some (.int la), some (.int j), o5], [.int j], 0, 0, (mSH, (mMix mSS I K), L))) rfl ?_
  refine mBr (s2 := (d + 4, 52, 75, [some (.ref 10), some (.ref 6), some (.int kind), some (.int la), some (.int j), o5], [], 0, 0, (mSH, (mMix mSS I K), L))) (s3 := (d + 4, 52, 35, [some (.ref 10), some (.ref 6), some (.int kind), some (.int la), some (.int j), o5], [], 0, 0, (mSH, (mMix mSS I K), L))) rfl (fun c0 => ?_) (fun c0 => ?_)
  · refine mB 2 (s2 := (d + 4, 52, 78, [some (.ref 10), some (.ref 6), some (.int kind), some (.int la), some (.int 0), o5], [], 0, 0, (mSH, (mMix mSS I K), L))) rfl ?_
    exact h1 (of_decide_eq_true c0)
  · refine mB 2 (s2 := (d + 4, 52, 38, [some (.ref 10), some (.ref 6), some (.int kind), some (.int la), some (.int j), some (.int 0)], [], 0, 0, (mSH, (mMix mSS I K), L))) rfl ?_
    exact h2 (of_decide_eq_false c0)
theorem mPred {j : Int32} {m : Nat} (h : ¬ j < 0) (hm : j.toInt < (m + 1 : Nat)) : (j + (-1)).toInt < m := by
  rw [Int32.lt_iff_toInt_lt, show (0 : Int32).toInt = 0 from rfl] at h
  have e : (j + (-1)).toInt = j.toInt - 1 := by
    rw [Int32.toInt_add, show ((-1 : Int32)).toInt = -1 from rfl]
    have := j.toInt_lt
    rw [Int.bmod_eq_of_le (by omega) (by omega)]
    omega
  omega
theorem l_fillO_6 {ro : Nat → Nat × (Nat → Int32)} {Q : mPo} {d : Nat} {I : Nat → Nat → Int32} {L : Nat → Nat → Int64} {kind la : Int32} (n2 : mCn I 2 16) (n4 : mCn I 4 8) (hq : ∀ K, mRk K → Q none (mSH, mMix mSS I K, L)) (m : Nat) : ∀ (j : Int32) (K : Nat → Nat → Int32) (o5 : Option Value), j.toInt < m → mRk K → mWP mTb_ mFT ro (d + 4, 52, 30, [some (.ref 10), some (.ref 6), some (.int kind), some (.int la), some (.int j), o5], [], 0, 0, (mSH, (mMix mSS I K), L)) Q := by
  induction m with
  | zero =>
    intro j K o5 hm hK
    apply s_fillO_6
    · intro c
      exact l_fillR_6 hq 2147483648 0 _ (by have := (I 2 1).toInt_lt; omega) (by omega) hK
    · intro c
      exact absurd (Int32.lt_iff_toInt_lt.mpr (by rw [show (0 : Int32).toInt = 0 from rfl]; omega)) c
  | succ m ih =>
    intro j K o5 hm hK
    apply s_fillO_6
    · intro c
      exact l_fillR_6 hq 2147483648 0 _ (by have := (I 2 1).toInt_lt; omega) (by omega) hK
    · intro c
      refine l_fillI_6 n2 n4 (fun K2 x hK2 => ih _ K2 _ ?_ hK2) 2147483648 0 _ (by have := (I 2 1).toInt_lt; omega) (by omega) hK
      exact mPred c hm
theorem w_fill_L6 {ro : Nat → Nat × (Nat → Int32)} {Q : mPo} {d : Nat} {I : Nat → Nat → Int32} {L : Nat → Nat → Int64} {v0 : Int32} (n2 : mCn I 2 16) (n4 : mCn I 4 8) (hR : mRk I) (hq : ∀ K, mRk K → Q none (mSH, mMix mSS I K, L))  : mWP mTb_ mFT ro (d + 4, 52, 0, [some (.ref 10), some (.ref 6), some (.int v0), none, none, none], [], 0, 0, (mSH, I, L)) Q := by
  refine mB 1 (s2 := (d + 4, 52, 1, [some (.ref 10), some (.ref 6), some (.int v0), none, none, none], [.ref 10], 0, 0, (mSH, I, L))) rfl ?_
  refine mCall (s2 := (d + 3, 53, 0, [some (.ref 10)], [], 0, 0, (mSH, I, L))) rfl ?_
  refine mB 3 (s2 := (d + 3, 53, 5, [some (.ref 10)], [.int 0, .ref 11], 0, 0, (mSH, I, L))) rfl ?_
  refine mRq (s2 := (d + 3, 53, 6, [some (.ref 10)], [.ref 12], 0, 0, (mSH, I, L))) rfl (by decide) ?_
  refine mB 1 (s2 := (d + 3, 53, 8, [some (.ref 10)], [.int 1000000000, .ref 12], 0, 0, (mSH, I, L))) rfl ?_
  refine mCall (s2 := (d + 2, 166, 0, [some (.ref 12), some (.int 1000000000), none, none], [], 0, 0, (mSH, I, L))) rfl ?_
  refine w_fill_12 ?_
  show mWP mTb_ mFT ro (d + 3, 53, 11, [some (.ref 10)], [], 0, 0, (mSH, (mFl I 12 154 1000000000), L)) _
  refine mB 3 (s2 := (d + 3, 53, 16, [some (.ref 10)], [.int 1, .ref 11], 0, 0, (mSH, (mFl I 12 154 1000000000), L))) rfl ?_
  refine mRq (s2 := (d + 3, 53, 17, [some (.ref 10)], [.ref 13], 0, 0, (mSH, (mFl I 12 154 1000000000), L))) rfl (by decide) ?_
  refine mB 1 (s2 := (d + 3, 53, 19, [some (.ref 10)], [.int 1000000000, .ref 13], 0, 0, (mSH, (mFl I 12 154 1000000000), L))) rfl ?_
  refine mCall (s2 := (d + 2, 166, 0, [some (.ref 13), some (.int 1000000000), none, none], [], 0, 0, (mSH, (mFl I 12 154 1000000000), L))) rfl ?_
  refine w_fill_13 ?_
  show mWP mTb_ mFT ro (d + 3, 53, 22, [some (.ref 10)], [], 0, 0, (mSH, (mFl (mFl I 12 154 1000000000) 13 154 1000000000), L)) _
  refine mB 3 (s2 := (d + 3, 53, 27, [some (.ref 10)], [.int 0, .ref 20], 0, 0, (mSH, (mFl (mFl I 12 154 1000000000) 13 154 1000000000), L))) rfl ?_
  refine mCall (s2 := (d + 2, 166, 0, [some (.ref 20), some (.int 0), none, none], [], 0, 0, (mSH, (mFl (mFl I 12 154 1000000000) 13 154 1000000000), L))) rfl ?_
  refine w_fill_20 ?_
  show mWP mTb_ mFT ro (d + 3, 53, 30, [some (.ref 10)], [], 0, 0, (mSH, (mFl (mFl (mFl I 12 154 1000000000) 13 154 1000000000) 20 154 0), L)) _
  refine mB 3 (s2 := (d + 3, 53, 35, [some (.ref 10)], [.int 0, .ref 21], 0, 0, (mSH, (mFl (mFl (mFl I 12 154 1000000000) 13 154 1000000000) 20 154 0), L))) rfl ?_
  refine mCall (s2 := (d + 2, 166, 0, [some (.ref 21), some (.int 0), none, none], [], 0, 0, (mSH, (mFl (mFl (mFl I 12 154 1000000000) 13 154 1000000000) 20 154 0), L))) rfl ?_
  refine w_fill_21 ?_
  show mWP mTb_ mFT ro (d + 3, 53, 38, [some (.ref 10)], [], 0, 0, (mSH, (mFl (mFl (mFl (mFl I 12 154 1000000000) 13 154 1000000000) 20 154 0) 21 154 0), L)) _
  refine mRt (r := none) (h := (mSH, (mFl (mFl (mFl (mFl I 12 154 1000000000) 13 154 1000000000) 20 154 0) 21 154 0), L)) rfl rfl ?_
  show mWP mTb_ mFT ro (d + 4, 52, 4, [some (.ref 10), some (.ref 6), some (.int v0), none, none, none], [], 0, 0, (mSH, (mFl (mFl (mFl (mFl I 12 154 1000000000) 13 154 1000000000) 20 154 0) 21 154 0), L)) _
  refine mB 3 (s2 := (d + 4, 52, 11, [some (.ref 10), some (.ref 6), some (.int v0), none, none, none], [.ref 4], 0, 0, (mSH, (mFl (mFl (mFl (mFl I 12 154 1000000000) 13 154 1000000000) 20 154 0) 21 154 0), L))) rfl ?_
  refine mCall (s2 := (d + 3, 39, 0, [some (.ref 4)], [], 0, 0, (mSH, (mFl (mFl (mFl (mFl I 12 154 1000000000) 13 154 1000000000) 20 154 0) 21 154 0), L))) rfl ?_
  refine mB 2 (s2 := (d + 3, 39, 4, [some (.ref 4)], [.int (I 4 1)], 0, 0, (mSH, (mFl (mFl (mFl (mFl I 12 154 1000000000) 13 154 1000000000) 20 154 0) 21 154 0), L))) rfl ?_
  refine mRt (r := (some (.int (I 4 1)))) (h := (mSH, (mFl (mFl (mFl (mFl I 12 154 1000000000) 13 154 1000000000) 20 154 0) 21 154 0), L)) rfl (mRet_int rfl) ?_
  show mWP mTb_ mFT ro (d + 4, 52, 14, [some (.ref 10), some (.ref 6), some (.int v0), none, none, none], [.int (I 4 1)], 0, 0, (mSH, (mFl (mFl (mFl (mFl I 12 154 1000000000) 13 154 1000000000) 20 154 0) 21 154 0), L)) _
  refine mB 4 (s2 := (d + 4, 52, 18, [some (.ref 10), some (.ref 6), some (.int v0), some (.int ((I 4 1) - 1)), none, none], [.int ((I 4 1) - 1)], 0, 0, (mSH, (mFl (mFl (mFl (mFl I 12 154 1000000000) 13 154 1000000000) 20 154 0) 21 154 0), L))) rfl ?_
  refine mBr (s2 := (d + 4, 52, 22, [some (.ref 10), some (.ref 6), some (.int v0), some (.int ((I 4 1) - 1)), none, none], [], 0, 0, (mSH, (mFl (mFl (mFl (mFl I 12 154 1000000000) 13 154 1000000000) 20 154 0) 21 154 0), L))) (s3 := (d + 4, 52, 21, [some (.ref 10), some (.ref 6), some (.int v0), some (.int ((I 4 1) - 1)), none, none], [], 0, 0, (mSH, (mFl (mFl (mFl (mFl I 12 154 1000000000) 13 154 1000000000) 20 154 0) 21 154 0), L))) rfl (fun c0 => ?_) (fun c0 => ?_)
  · refine mB 2 (s2 := (d + 4, 52, 24, [some (.ref 10), some (.ref 6), some (.int v0), some (.int ((I 4 1) - 1)), none, none], [.int ((I 4 1) - 1), .ref 10], 0, 0, (mSH, (mFl (mFl (mFl (mFl I 12 154 1000000000) 13 154 1000000000) 20 154 0) 21 154 0), L))) rfl ?_
    refine mCall (s2 := (d + 3, 54, 0, [some (.ref 10), some (.int ((I 4 1) - 1)), none, none], [], 0, 0, (mSH, (mFl (mFl (mFl (mFl I 12 154 1000000000) 13 154 1000000000) 20 154 0) 21 154 0), L))) rfl ?_
    refine w_endB n2 (mRk.fl (mRk.fl (mRk.fl (mRk.fl hR (by rfl) (by rfl)) (by rfl) (by rfl)) (by rfl) (by rfl)) (by rfl) (by rfl)) (fun K1 hK1 => ?_)
    show mWP mTb_ mFT ro (d + 4, 52, 27, [some (.ref 10), some (.ref 6), some (.int v0), some (.int ((I 4 1) - 1)), none, none], [], 0, 0, (mSH, (mMix mSS (mFl (mFl (mFl (mFl I 12 154 1000000000) 13 154 1000000000) 20 154 0) 21 154 0) K1), L)) _
    refine mB 2 (s2 := (d + 4, 52, 30, [some (.ref 10), some (.ref 6), some (.int v0), some (.int ((I 4 1) - 1)), some (.int ((I 4 1) - 1)), none], [], 0, 0, (mSH, (mMix mSS (mFl (mFl (mFl (mFl I 12 154 1000000000) 13 154 1000000000) 20 154 0) 21 154 0) K1), L))) rfl ?_
    (rw [← ((mFr.mix (by decide) (mFr.fl (by rfl) (mFr.fl (by rfl) (mFr.fl (by rfl) (mFr.fl (by rfl) mFr.rf))))) : mFr mSS I (mMix mSS (mFl (mFl (mFl (mFl I 12 154 1000000000) 13 154 1000000000) 20 154 0) 21 154 0) K1)).eq]; exact l_fillO_6 n2 n4 hq 2147483648 _ _ _ mTl hK1)
  · refine mRt (r := none) (h := (mSH, (mFl (mFl (mFl (mFl I 12 154 1000000000) 13 154 1000000000) 20 154 0) 21 154 0), L)) rfl rfl ?_
    exact mFin hq (mFr.fl (by rfl) (mFr.fl (by rfl) (mFr.fl (by rfl) (mFr.fl (by rfl) mFr.rf)))) (mRk.fl (mRk.fl (mRk.fl (mRk.fl hR (by rfl) (by rfl)) (by rfl) (by rfl)) (by rfl) (by rfl)) (by rfl) (by rfl))
theorem s_fillI_7 {ro : Nat → Nat × (Nat → Int32)} {Q : mPo} {d : Nat} {I : Nat → Nat → Int32} {L : Nat → Nat → Int64} {kind la j : Int32} {K : Nat → Nat → Int32} {x0 : Int32} (n2 : mCn I 2 16) (n4 : mCn I 4 8) (hK : mRk K) (h1 : ((I 2 1) ≤ x0) → mWP mTb_ mFT ro (d + 4, 52, 30, [some (.ref 10), some (.ref 7), some (.int kind), some (.int la), some (.int (j + (-1))), some (.int x0)], [], 0, 0, (mSH, (mMix mSS I K), L)) Q) (h2 : ¬ ((I 2 1) ≤ x0) → ∀ (K1 : Nat → Nat → Int32), (mRk K1) → mWP mTb_ mFT ro (d + 4, 52, 38, [some (.ref 10), some (.ref 7), some (.int kind), some (.int la), some (.int j), some (.int (x0 + 1))], [], 0, 0, (mSH, (mMix mSS (mMix mSS I K) K1), L)) Q) : mWP mTb_ mFT ro (d + 4, 52, 38, [some (.ref 10), some (.ref 7), some (.int kind), some (.int la), some (.int j), some (.int x0)], [], 0, 0, (mSH, (mMix mSS I K), L)) Q := by
  refine mB 4 (s2 := (d + 4, 52, 47, [some (.ref 10), some (.ref 7), some (.int kind), some (.int la), some (.int j), some (.int x0)], [.ref 2, .int x0], 0, 0, (mSH, (mMix mSS I K), L))) rfl ?_
  refine mCall (s2 := (d + 3, 39, 0, [some (.ref 2)], [], 0, 0, (mSH, (mMix mSS I K), L))) rfl ?_
  refine mB 2 (s2 := (d + 3, 39, 4, [some (.ref 2)], [.int (I 2 1)], 0, 0, (mSH, (mMix mSS I K), L))) rfl ?_
  refine mRt (r := (some (.int (I 2 1)))) (h := (mSH, (mMix mSS I K), L)) rfl (mRet_int rfl) ?_
  show mWP mTb_ mFT ro (d + 4, 52, 50, [some (.ref 10), some (.ref 7), some (.int kind), some (.int la), some (.int j), some (.int x0)], [.int (I 2 1), .int x0], 0, 0, (mSH, (mMix mSS I K), L)) _
  refine mBr (s2 := (d + 4, 52, 69, [some (.ref 10), some (.ref 7), some (.int kind), some (.int la), some (.int j), some (.int x0)], [], 0, 0, (mSH, (mMix mSS I K), L))) (s3 := (d + 4, 52, 53, [some (.ref 10), some (.ref 7), some (.int kind), some (.int la), some (.int j), some (.int x0)], [], 0, 0, (mSH, (mMix mSS I K), L))) rfl (fun c0 => ?_) (fun c0 => ?_)
  · refine mB 2 (s2 := (d + 4, 52, 30, [some (.ref 10), some (.ref 7), some (.int kind), some (.int la), some (.int (j + (-1))), some (.int x0)], [], 0, 0, (mSH, (mMix mSS I K), L))) rfl ?_
    exact h1 (of_decide_eq_true c0)
  · refine mB 5 (s2 := (d + 4, 52, 60, [some (.ref 10), some (.ref 7), some (.int kind), some (.int la), some (.int j), some (.int x0)], [.int x0, .int j, .int kind, .ref 7, .ref 10], 0, 0, (mSH, (mMix mSS I K), L))) rfl ?_
    refine mCall (s2 := (d + 3, 55, 0, [some (.ref 10), some (.ref 7), some (.int kind), some (.int j), some (.int x0), none, none], [], 0, 0, (mSH, (mMix mSS I K), L))) rfl ?_
    refine w_fillCell_7 n2 n4 hK (fun K1 hK1 => ?_)
    show mWP mTb_ mFT ro (d + 4, 52, 63, [some (.ref 10), some (.ref 7), some (.int kind), some (.int la), some (.int j), some (.int x0)], [], 0, 0, (mSH, (mMix mSS (mMix mSS I K) K1), L)) _
    refine mB 2 (s2 := (d + 4, 52, 38, [some (.ref 10), some (.ref 7), some (.int kind), some (.int la), some (.int j), some (.int (x0 + 1))], [], 0, 0, (mSH, (mMix mSS (mMix mSS I K) K1), L))) rfl ?_
    exact h2 (of_decide_eq_false c0) K1 hK1
theorem l_fillI_7 {ro : Nat → Nat × (Nat → Int32)} {Q : mPo} {d : Nat} {I : Nat → Nat → Int32} {L : Nat → Nat → Int64} {kind la j : Int32} (n2 : mCn I 2 16) (n4 : mCn I 4 8) (hx : ∀ K x, mRk K → mWP mTb_ mFT ro (d + 4, 52, 30, [some (.ref 10), some (.ref 7), some (.int kind), some (.int la), some (.int (j + (-1))), some (.int x)], [], 0, 0, (mSH, (mMix mSS I K), L)) Q) (m : Nat) : ∀ (k : Nat) (K : Nat → Nat → Int32), (I 2 1).toInt ≤ k + m → k < 2 ^ 31 → mRk K → mWP mTb_ mFT ro (d + 4, 52, 38, [some (.ref 10), some (.ref 7), some (.int kind), some (.int la), some (.int j), some (.int (nI k))], [], 0, 0, (mSH, (mMix mSS I K), L)) Q := by
  induction m with
  | zero =>
    intro k K hm hk hK
    have z : I 2 1 ≤ nI k := (mLeI hk).mpr (by omega)
    apply s_fillI_7 n2 n4 hK <;> intros <;> first | exact hx _ _ (by assumption) | exact absurd z (by assumption)
  | succ m ih =>
    intro k K hm hk hK
    by_cases z : I 2 1 ≤ nI k
    · apply s_fillI_7 n2 n4 hK <;> intros <;> first | exact hx _ _ (by assumption) | exact absurd z (by assumption)
    · have hk1 : k + 1 < 2 ^ 31 := mLe1 hk z
      apply s_fillI_7 n2 n4 hK <;> intros <;> first | exact absurd (by assumption) z | exact hx _ _ (by assumption) | (rw [nI_1, mMix2]; exact ih (k + 1) _ (by omega) hk1 (by assumption))
theorem s_fillR_7 {ro : Nat → Nat × (Nat → Int32)} {Q : mPo} {d : Nat} {I : Nat → Nat → Int32} {L : Nat → Nat → Int64} {kind la : Int32} {o5 : Option Value} {K : Nat → Nat → Int32} {x0 : Int32} (hK : mRk K) (h1 : ((I 2 1) ≤ x0) → Q none (mSH, (mMix mSS I K), L)) (h2 : ¬ ((I 2 1) ≤ x0) → ∀ (x1 : Int32), (vp_in x1 154) → ∀ (K2 : Nat → Nat → Int32), (mRk K2) → mWP mTb_ mFT ro (d + 4, 52, 78, [some (.ref 10), some (.ref 7), some (.int kind), some (.int la), some (.int (x0 + 1)), o5], [], 0, 0, (mSH, (mMix mSS (mMix mSS I K) K2), L)) Q) : mWP mTb_ mFT ro (d + 4, 52, 78, [some (.ref 10), some (.ref 7), some (.int kind), some (.int la), some (.int x0), o5], [], 0, 0, (mSH, (mMix mSS I K), L)) Q := by
  refine mB 4 (s2 := (d + 4, 52, 87, [some (.ref 10), some (.ref 7), some (.int kind), some (.int la), some (.int x0), o5], [.ref 2, .int x0], 0, 0, (mSH, (mMix mSS I K), L))) rfl ?_
  refine mCall (s2 := (d + 3, 39, 0, [some (.ref 2)], [], 0, 0, (mSH, (mMix mSS I K), L))) rfl ?_
  refine mB 2 (s2 := (d + 3, 39, 4, [some (.ref 2)], [.int (I 2 1)], 0, 0, (mSH, (mMix mSS I K), L))) rfl ?_
  refine mRt (r := (some (.int (I 2 1)))) (h := (mSH, (mMix mSS I K), L)) rfl (mRet_int rfl) ?_
  show mWP mTb_ mFT ro (d + 4, 52, 90, [some (.ref 10), some (.ref 7), some (.int kind), some (.int la), some (.int x0), o5], [.int (I 2 1), .int x0], 0, 0, (mSH, (mMix mSS I K), L)) _
  refine mBr (s2 := (d + 4, 52, 115, [some (.ref 10), some (.ref 7), some (.int kind), some (.int la), some (.int x0), o5], [], 0, 0, (mSH, (mMix mSS I K), L))) (s3 := (d + 4, 52, 93, [some (.ref 10), some (.ref 7), some (.int kind), some (.int la), some (.int x0), o5], [], 0, 0, (mSH, (mMix mSS I K), L))) rfl (fun c0 => ?_) (fun c0 => ?_)
  · refine mRt (r := none) (h := (mSH, (mMix mSS I K), L)) rfl rfl ?_
    exact h1 (of_decide_eq_true c0)
  · refine mB 4 (s2 := (d + 4, 52, 100, [some (.ref 10), some (.ref 7), some (.int kind), some (.int la), some (.int x0), o5], [.int x0, .int 0, .int 153, .ref 10], 0, 0, (mSH, (mMix mSS I K), L))) rfl ?_
    refine mCall (s2 := (d + 3, 59, 0, [some (.int 0), some (.int x0), none], [], 0, 0, (mSH, (mMix mSS I K), L))) rfl ?_
    refine w_cellOf (fun x1 hx1 => ?_)
    show mWP mTb_ mFT ro (d + 4, 52, 103, [some (.ref 10), some (.ref 7), some (.int kind), some (.int la), some (.int x0), o5], [.int x1, .int 153, .ref 10], 0, 0, (mSH, (mMix mSS I K), L)) _
    refine mB 2 (s2 := (d + 4, 52, 106, [some (.ref 10), some (.ref 7), some (.int kind), some (.int la), some (.int x0), o5], [.int 0, .int x0, .int x1, .int 153, .ref 10], 0, 0, (mSH, (mMix mSS I K), L))) rfl ?_
    refine mCall (s2 := (d + 3, 56, 0, [some (.ref 10), some (.int 153), some (.int x1), some (.int x0), some (.int 0), none], [], 0, 0, (mSH, (mMix mSS I K), L))) rfl ?_
    refine w_join hK mV153 hx1 (fun K2 hK2 => ?_)
    show mWP mTb_ mFT ro (d + 4, 52, 109, [some (.ref 10), some (.ref 7), some (.int kind), some (.int la), some (.int x0), o5], [], 0, 0, (mSH, (mMix mSS (mMix mSS I K) K2), L)) _
    refine mB 2 (s2 := (d + 4, 52, 78, [some (.ref 10), some (.ref 7), some (.int kind), some (.int la), some (.int (x0 + 1)), o5], [], 0, 0, (mSH, (mMix mSS (mMix mSS I K) K2), L))) rfl ?_
    exact h2 (of_decide_eq_false c0) x1 hx1 K2 hK2
theorem l_fillR_7 {ro : Nat → Nat × (Nat → Int32)} {Q : mPo} {d : Nat} {I : Nat → Nat → Int32} {L : Nat → Nat → Int64} {kind la : Int32} {o5 : Option Value} (hq : ∀ K, mRk K → Q none (mSH, mMix mSS I K, L)) (m : Nat) : ∀ (k : Nat) (K : Nat → Nat → Int32), (I 2 1).toInt ≤ k + m → k < 2 ^ 31 → mRk K → mWP mTb_ mFT ro (d + 4, 52, 78, [some (.ref 10), some (.ref 7), some (.int kind), some (.int la), some (.int (nI k)), o5], [], 0, 0, (mSH, (mMix mSS I K), L)) Q := by
  induction m with
  | zero =>
    intro k K hm hk hK
    have z : I 2 1 ≤ nI k := (mLeI hk).mpr (by omega)
    apply s_fillR_7 hK <;> intros <;> first | exact hq _ (by assumption) | exact absurd z (by assumption)
  | succ m ih =>
    intro k K hm hk hK
    by_cases z : I 2 1 ≤ nI k
    · apply s_fillR_7 hK <;> intros <;> first | exact hq _ (by assumption) | exact absurd z (by assumption)
    · have hk1 : k + 1 < 2 ^ 31 := mLe1 hk z
      apply s_fillR_7 hK <;> intros <;> first | exact absurd (by assumption) z | exact hq _ (by assumption) | (rw [nI_1, mMix2]; exact ih (k + 1) _ (by omega) hk1 (by assumption))
theorem s_fillO_7 {ro : Nat → Nat × (Nat → Int32)} {Q : mPo} {d : Nat} {I : Nat → Nat → Int32} {L : Nat → Nat → Int64} {K : Nat → Nat → Int32} {kind la j : Int32} {o5 : Option Value}  (h1 : (j < 0) → mWP mTb_ mFT ro (d + 4, 52, 78, [some (.ref 10), some (.ref 7), some (.int kind), some (.int la), some (.int 0), o5], [], 0, 0, (mSH, (mMix mSS I K), L)) Q) (h2 : ¬ (j < 0) → mWP mTb_ mFT ro (d + 4, 52, 38, [some (.ref 10), some (.ref 7), some (.int kind), some (.int la), some (.int j), some (.int 0)], [], 0, 0, (mSH, (mMix mSS I K), L)) Q) : mWP mTb_ mFT ro (d + 4, 52, 30, [some (.ref 10), some (.ref 7), some (.int kind), some (.int la), some (.int j), o5], [], 0, 0, (mSH, (mMix mSS I K), L)) Q := by
  refine mB 1 (s2 := (d + 4, 52, 32, [some (.ref 10), some (.ref 7), some (.int kind), some (.int la), some (.int j), o5], [.int j], 0, 0, (mSH, (mMix mSS I K), L))) rfl ?_
  refine mBr (s2 := (d + 4, 52, 75, [some (.ref 10), some (.ref 7), some (.int kind), some (.int la), some (.int j), o5], [], 0, 0, (mSH, (mMix mSS I K), L))) (s3 := (d + 4, 52, 35, [some (.ref 10), some (.ref 7), some (.int kind), some (.int la), some (.int j), o5], [], 0, 0, (mSH, (mMix mSS I K), L))) rfl (fun c0 => ?_) (fun c0 => ?_)
  · refine mB 2 (s2 := (d + 4, 52, 78, [some (.ref 10), some (.ref 7), some (.int kind), some (.int la), some (.int 0), o5], [], 0, 0, (mSH, (mMix mSS I K), L))) rfl ?_
    exact h1 (of_decide_eq_true c0)
  · refine mB 2 (s2 := (d + 4, 52, 38, [some (.ref 10), some (.ref 7), some (.int kind), some (.int la), some (.int j), some (.int 0)], [], 0, 0, (mSH, (mMix mSS I K), L))) rfl ?_
    exact h2 (of_decide_eq_false c0)
theorem l_fillO_7 {ro : Nat → Nat × (Nat → Int32)} {Q : mPo} {d : Nat} {I : Nat → Nat → Int32} {L : Nat → Nat → Int64} {kind la : Int32} (n2 : mCn I 2 16) (n4 : mCn I 4 8) (hq : ∀ K, mRk K → Q none (mSH, mMix mSS I K, L)) (m : Nat) : ∀ (j : Int32) (K : Nat → Nat → Int32) (o5 : Option Value), j.toInt < m → mRk K → mWP mTb_ mFT ro (d + 4, 52, 30, [some (.ref 10), some (.ref 7), some (.int kind), some (.int la), some (.int j), o5], [], 0, 0, (mSH, (mMix mSS I K), L)) Q := by
  induction m with
  | zero =>
    intro j K o5 hm hK
    apply s_fillO_7
    · intro c
      exact l_fillR_7 hq 2147483648 0 _ (by have := (I 2 1).toInt_lt; omega) (by omega) hK
    · intro c
      exact absurd (Int32.lt_iff_toInt_lt.mpr (by rw [show (0 : Int32).toInt = 0 from rfl]; omega)) c
  | succ m ih =>
    intro j K o5 hm hK
    apply s_fillO_7
    · intro c
      exact l_fillR_7 hq 2147483648 0 _ (by have := (I 2 1).toInt_lt; omega) (by omega) hK
    · intro c
      refine l_fillI_7 n2 n4 (fun K2 x hK2 => ih _ K2 _ ?_ hK2) 2147483648 0 _ (by have := (I 2 1).toInt_lt; omega) (by omega) hK
      exact mPred c hm
theorem w_fill_L7 {ro : Nat → Nat × (Nat → Int32)} {Q : mPo} {d : Nat} {I : Nat → Nat → Int32} {L : Nat → Nat → Int64} {v0 : Int32} (n2 : mCn I 2 16) (n4 : mCn I 4 8) (hR : mRk I) (hq : ∀ K, mRk K → Q none (mSH, mMix mSS I K, L))  : mWP mTb_ mFT ro (d + 4, 52, 0, [some (.ref 10), some (.ref 7), some (.int v0), none, none, none], [], 0, 0, (mSH, I, L)) Q := by
  refine mB 1 (s2 := (d + 4, 52, 1, [some (.ref 10), some (.ref 7), some (.int v0), none, none, none], [.ref 10], 0, 0, (mSH, I, L))) rfl ?_
  refine mCall (s2 := (d + 3, 53, 0, [some (.ref 10)], [], 0, 0, (mSH, I, L))) rfl ?_
  refine mB 3 (s2 := (d + 3, 53, 5, [some (.ref 10)], [.int 0, .ref 11], 0, 0, (mSH, I, L))) rfl ?_
  refine mRq (s2 := (d + 3, 53, 6, [some (.ref 10)], [.ref 12], 0, 0, (mSH, I, L))) rfl (by decide) ?_
  refine mB 1 (s2 := (d + 3, 53, 8, [some (.ref 10)], [.int 1000000000, .ref 12], 0, 0, (mSH, I, L))) rfl ?_
  refine mCall (s2 := (d + 2, 166, 0, [some (.ref 12), some (.int 1000000000), none, none], [], 0, 0, (mSH, I, L))) rfl ?_
  refine w_fill_12 ?_
  show mWP mTb_ mFT ro (d + 3, 53, 11, [some (.ref 10)], [], 0, 0, (mSH, (mFl I 12 154 1000000000), L)) _
  refine mB 3 (s2 := (d + 3, 53, 16, [some (.ref 10)], [.int 1, .ref 11], 0, 0, (mSH, (mFl I 12 154 1000000000), L))) rfl ?_
  refine mRq (s2 := (d + 3, 53, 17, [some (.ref 10)], [.ref 13], 0, 0, (mSH, (mFl I 12 154 1000000000), L))) rfl (by decide) ?_
  refine mB 1 (s2 := (d + 3, 53, 19, [some (.ref 10)], [.int 1000000000, .ref 13], 0, 0, (mSH, (mFl I 12 154 1000000000), L))) rfl ?_
  refine mCall (s2 := (d + 2, 166, 0, [some (.ref 13), some (.int 1000000000), none, none], [], 0, 0, (mSH, (mFl I 12 154 1000000000), L))) rfl ?_
  refine w_fill_13 ?_
  show mWP mTb_ mFT ro (d + 3, 53, 22, [some (.ref 10)], [], 0, 0, (mSH, (mFl (mFl I 12 154 1000000000) 13 154 1000000000), L)) _
  refine mB 3 (s2 := (d + 3, 53, 27, [some (.ref 10)], [.int 0, .ref 20], 0, 0, (mSH, (mFl (mFl I 12 154 1000000000) 13 154 1000000000), L))) rfl ?_
  refine mCall (s2 := (d + 2, 166, 0, [some (.ref 20), some (.int 0), none, none], [], 0, 0, (mSH, (mFl (mFl I 12 154 1000000000) 13 154 1000000000), L))) rfl ?_
  refine w_fill_20 ?_
  show mWP mTb_ mFT ro (d + 3, 53, 30, [some (.ref 10)], [], 0, 0, (mSH, (mFl (mFl (mFl I 12 154 1000000000) 13 154 1000000000) 20 154 0), L)) _
  refine mB 3 (s2 := (d + 3, 53, 35, [some (.ref 10)], [.int 0, .ref 21], 0, 0, (mSH, (mFl (mFl (mFl I 12 154 1000000000) 13 154 1000000000) 20 154 0), L))) rfl ?_
  refine mCall (s2 := (d + 2, 166, 0, [some (.ref 21), some (.int 0), none, none], [], 0, 0, (mSH, (mFl (mFl (mFl I 12 154 1000000000) 13 154 1000000000) 20 154 0), L))) rfl ?_
  refine w_fill_21 ?_
  show mWP mTb_ mFT ro (d + 3, 53, 38, [some (.ref 10)], [], 0, 0, (mSH, (mFl (mFl (mFl (mFl I 12 154 1000000000) 13 154 1000000000) 20 154 0) 21 154 0), L)) _
  refine mRt (r := none) (h := (mSH, (mFl (mFl (mFl (mFl I 12 154 1000000000) 13 154 1000000000) 20 154 0) 21 154 0), L)) rfl rfl ?_
  show mWP mTb_ mFT ro (d + 4, 52, 4, [some (.ref 10), some (.ref 7), some (.int v0), none, none, none], [], 0, 0, (mSH, (mFl (mFl (mFl (mFl I 12 154 1000000000) 13 154 1000000000) 20 154 0) 21 154 0), L)) _
  refine mB 3 (s2 := (d + 4, 52, 11, [some (.ref 10), some (.ref 7), some (.int v0), none, none, none], [.ref 4], 0, 0, (mSH, (mFl (mFl (mFl (mFl I 12 154 1000000000) 13 154 1000000000) 20 154 0) 21 154 0), L))) rfl ?_
  refine mCall (s2 := (d + 3, 39, 0, [some (.ref 4)], [], 0, 0, (mSH, (mFl (mFl (mFl (mFl I 12 154 1000000000) 13 154 1000000000) 20 154 0) 21 154 0), L))) rfl ?_
  refine mB 2 (s2 := (d + 3, 39, 4, [some (.ref 4)], [.int (I 4 1)], 0, 0, (mSH, (mFl (mFl (mFl (mFl I 12 154 1000000000) 13 154 1000000000) 20 154 0) 21 154 0), L))) rfl ?_
  refine mRt (r := (some (.int (I 4 1)))) (h := (mSH, (mFl (mFl (mFl (mFl I 12 154 1000000000) 13 154 1000000000) 20 154 0) 21 154 0), L)) rfl (mRet_int rfl) ?_
  show mWP mTb_ mFT ro (d + 4, 52, 14, [some (.ref 10), some (.ref 7), some (.int v0), none, none, none], [.int (I 4 1)], 0, 0, (mSH, (mFl (mFl (mFl (mFl I 12 154 1000000000) 13 154 1000000000) 20 154 0) 21 154 0), L)) _
  refine mB 4 (s2 := (d + 4, 52, 18, [some (.ref 10), some (.ref 7), some (.int v0), some (.int ((I 4 1) - 1)), none, none], [.int ((I 4 1) - 1)], 0, 0, (mSH, (mFl (mFl (mFl (mFl I 12 154 1000000000) 13 154 1000000000) 20 154 0) 21 154 0), L))) rfl ?_
  refine mBr (s2 := (d + 4, 52, 22, [some (.ref 10), some (.ref 7), some (.int v0), some (.int ((I 4 1) - 1)), none, none], [], 0, 0, (mSH, (mFl (mFl (mFl (mFl I 12 154 1000000000) 13 154 1000000000) 20 154 0) 21 154 0), L))) (s3 := (d + 4, 52, 21, [some (.ref 10), some (.ref 7), some (.int v0), some (.int ((I 4 1) - 1)), none, none], [], 0, 0, (mSH, (mFl (mFl (mFl (mFl I 12 154 1000000000) 13 154 1000000000) 20 154 0) 21 154 0), L))) rfl (fun c0 => ?_) (fun c0 => ?_)
  · refine mB 2 (s2 := (d + 4, 52, 24, [some (.ref 10), some (.ref 7), some (.int v0), some (.int ((I 4 1) - 1)), none, none], [.int ((I 4 1) - 1), .ref 10], 0, 0, (mSH, (mFl (mFl (mFl (mFl I 12 154 1000000000) 13 154 1000000000) 20 154 0) 21 154 0), L))) rfl ?_
    refine mCall (s2 := (d + 3, 54, 0, [some (.ref 10), some (.int ((I 4 1) - 1)), none, none], [], 0, 0, (mSH, (mFl (mFl (mFl (mFl I 12 154 1000000000) 13 154 1000000000) 20 154 0) 21 154 0), L))) rfl ?_
    refine w_endB n2 (mRk.fl (mRk.fl (mRk.fl (mRk.fl hR (by rfl) (by rfl)) (by rfl) (by rfl)) (by rfl) (by rfl)) (by rfl) (by rfl)) (fun K1 hK1 => ?_)
    show mWP mTb_ mFT ro (d + 4, 52, 27, [some (.ref 10), some (.ref 7), some (.int v0), some (.int ((I 4 1) - 1)), none, none], [], 0, 0, (mSH, (mMix mSS (mFl (mFl (mFl (mFl I 12 154 1000000000) 13 154 1000000000) 20 154 0) 21 154 0) K1), L)) _
    refine mB 2 (s2 := (d + 4, 52, 30, [some (.ref 10), some (.ref 7), some (.int v0), some (.int ((I 4 1) - 1)), some (.int ((I 4 1) - 1)), none], [], 0, 0, (mSH, (mMix mSS (mFl (mFl (mFl (mFl I 12 154 1000000000) 13 154 1000000000) 20 154 0) 21 154 0) K1), L))) rfl ?_
    (rw [← ((mFr.mix (by decide) (mFr.fl (by rfl) (mFr.fl (by rfl) (mFr.fl (by rfl) (mFr.fl (by rfl) mFr.rf))))) : mFr mSS I (mMix mSS (mFl (mFl (mFl (mFl I 12 154 1000000000) 13 154 1000000000) 20 154 0) 21 154 0) K1)).eq]; exact l_fillO_7 n2 n4 hq 2147483648 _ _ _ mTl hK1)
  · refine mRt (r := none) (h := (mSH, (mFl (mFl (mFl (mFl I 12 154 1000000000) 13 154 1000000000) 20 154 0) 21 154 0), L)) rfl rfl ?_
    exact mFin hq (mFr.fl (by rfl) (mFr.fl (by rfl) (mFr.fl (by rfl) (mFr.fl (by rfl) mFr.rf)))) (mRk.fl (mRk.fl (mRk.fl (mRk.fl hR (by rfl) (by rfl)) (by rfl) (by rfl)) (by rfl) (by rfl)) (by rfl) (by rfl))
