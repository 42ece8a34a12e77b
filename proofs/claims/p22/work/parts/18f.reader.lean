/-! The reader. Written by a program (wip/mk_c.py). -/
theorem mTn0 : (0 : Int32).toNatClampNeg = 0 := rfl
theorem mTn1 : (1 : Int32).toNatClampNeg = 1 := rfl
theorem mTn2 : (2 : Int32).toNatClampNeg = 2 := rfl
theorem mTs7 : ((7 : Int32) - 7).toNatClampNeg = 0 := rfl
theorem mTs8 : ((8 : Int32) - 7).toNatClampNeg = 1 := rfl
theorem mTs9 : ((9 : Int32) - 7).toNatClampNeg = 2 := rfl
theorem mTn10 : (10 : Int32).toNatClampNeg = 10 := rfl
theorem mLi0 : (0 : Int32).toInt = 0 := rfl
theorem mLi1 : (1 : Int32).toInt = 1 := rfl
theorem mLi2 : (2 : Int32).toInt = 2 := rfl
theorem mLi3 : (3 : Int32).toInt = 3 := rfl
theorem mLi4 : (4 : Int32).toInt = 4 := rfl
theorem mLi5 : (5 : Int32).toInt = 5 := rfl
theorem mLi6 : (6 : Int32).toInt = 6 := rfl
theorem mLi7 : (7 : Int32).toInt = 7 := rfl
theorem mLi8 : (8 : Int32).toInt = 8 := rfl
theorem mLi9 : (9 : Int32).toInt = 9 := rfl
theorem mLi10 : (10 : Int32).toInt = 10 := rfl
theorem mLi16 : (16 : Int32).toInt = 16 := rfl
theorem mLi32 : (32 : Int32).toInt = 32 := rfl
theorem mLi48 : (48 : Int32).toInt = 48 := rfl
theorem mLi57 : (57 : Int32).toInt = 57 := rfl
theorem mLi59 : (59 : Int32).toInt = 59 := rfl
theorem mLi65 : (65 : Int32).toInt = 65 := rfl
theorem mLi90 : (90 : Int32).toInt = 90 := rfl
theorem mLi97 : (97 : Int32).toInt = 97 := rfl
theorem mLi99 : (99 : Int32).toInt = 99 := rfl
theorem mLi120 : (120 : Int32).toInt = 120 := rfl
theorem mLi122 : (122 : Int32).toInt = 122 := rfl
theorem mLi127 : (127 : Int32).toInt = 127 := rfl
theorem mLi1584 : (1584 : Int32).toInt = 1584 := rfl
theorem mLi999999 : (999999 : Int32).toInt = 999999 := rfl
theorem mLim : ((0 : Int32) - 1).toInt = -1 := rfl
theorem mTI {x y : Int32} {k : Int} (h : x.toInt = k) (hy : y.toInt = k) : x = y := Int32.toInt_inj.mp (h.trans hy.symm)
theorem mCn_z {I : Nat → Nat → Int32} {q n : Nat} (h : I q 1 = 0) : mCn I q n := by
  unfold mCn
  rw [h]
  exact ⟨by decide, by rw [show (0 : Int32).toInt = 0 from rfl]; omega⟩
theorem mSucc {x y : Int32} (h : ¬ y ≤ x) : (x + 1).toInt = x.toInt + 1 := by
  rw [Int32.le_iff_toInt_le] at h
  have := y.toInt_lt
  have := x.le_toInt
  rw [Int32.toInt_add, show (1 : Int32).toInt = 1 from rfl, Int.bmod_eq_of_le (by omega) (by omega)]
/-- the strings of the reader -/
def mRB (ro : Nat → Nat × (Nat → Int32)) : Prop := ∀ i, i < 4 → (ro (13 + i)).1 = mSln.getD i 0 ∧ ∀ j, (ro (13 + i)).2 j = (mSby.getD i []).getD j 0
theorem s_skip {ro : Nat → Nat × (Nat → Int32)} {Q : mPo} {d : Nat} {I : Nat → Nat → Int32} {L : Nat → Nat → Int64} {K : Nat → Nat → Int32} (n26 : mCn I 26 120)  (h1 : ((I 26 1) ≤ (K 28 2)) → Q none (mSH, (mMix [28] I K), L)) (h2 : ¬ ((I 26 1) ≤ (K 28 2)) → ((mAt (mMix [28] I K) 26 27 (K 28 2)) = 32) → mWP mTb_ mFT ro (d + 1, 34, 0, [some (.ref 28)], [], 0, 0, (mSH, (mUp (mMix [28] I K) 28 2 ((K 28 2) + 1)), L)) Q) (h3 : ¬ ((I 26 1) ≤ (K 28 2)) → ¬ ((mAt (mMix [28] I K) 26 27 (K 28 2)) = 32) → Q none (mSH, (mMix [28] I K), L)) : mWP mTb_ mFT ro (d + 1, 34, 0, [some (.ref 28)], [], 0, 0, (mSH, (mMix [28] I K), L)) Q := by
  refine mB 4 (s2 := (d + 1, 34, 8, [some (.ref 28)], [.ref 26, .int (K 28 2)], 0, 0, (mSH, (mMix [28] I K), L))) rfl ?_
  refine mCall (s2 := (d, 39, 0, [some (.ref 26)], [], 0, 0, (mSH, (mMix [28] I K), L))) rfl ?_
  refine mB 2 (s2 := (d, 39, 4, [some (.ref 26)], [.int (I 26 1)], 0, 0, (mSH, (mMix [28] I K), L))) rfl ?_
  refine mRt (r := (some (.int (I 26 1)))) (h := (mSH, (mMix [28] I K), L)) rfl (mRet_int rfl) ?_
  show mWP mTb_ mFT ro (d + 1, 34, 11, [some (.ref 28)], [.int (I 26 1), .int (K 28 2)], 0, 0, (mSH, (mMix [28] I K), L)) _
  refine mBr (s2 := (d + 1, 34, 43, [some (.ref 28)], [], 0, 0, (mSH, (mMix [28] I K), L))) (s3 := (d + 1, 34, 14, [some (.ref 28)], [], 0, 0, (mSH, (mMix [28] I K), L))) rfl (fun c0 => ?_) (fun c0 => ?_)
  · refine mRt (r := none) (h := (mSH, (mMix [28] I K), L)) rfl rfl ?_
    exact h1 (of_decide_eq_true c0)
  · refine mB 4 (s2 := (d + 1, 34, 22, [some (.ref 28)], [.int (K 28 2), .ref 26], 0, 0, (mSH, (mMix [28] I K), L))) rfl ?_
    refine mCall (s2 := (d, 42, 0, [some (.ref 26), some (.int (K 28 2))], [], 0, 0, (mSH, (mMix [28] I K), L))) rfl ?_
    refine w_at_26 n26 ?_
    show mWP mTb_ mFT ro (d + 1, 34, 25, [some (.ref 28)], [.int (mAt (mMix [28] I K) 26 27 (K 28 2))], 0, 0, (mSH, (mMix [28] I K), L)) _
    refine mB 1 (s2 := (d + 1, 34, 27, [some (.ref 28)], [.int 32, .int (mAt (mMix [28] I K) 26 27 (K 28 2))], 0, 0, (mSH, (mMix [28] I K), L))) rfl ?_
    refine mBr (s2 := (d + 1, 34, 30, [some (.ref 28)], [], 0, 0, (mSH, (mMix [28] I K), L))) (s3 := (d + 1, 34, 43, [some (.ref 28)], [], 0, 0, (mSH, (mMix [28] I K), L))) rfl (fun c1 => ?_) (fun c1 => ?_)
    · refine mB 7 (s2 := (d + 1, 34, 0, [some (.ref 28)], [], 0, 0, (mSH, (mUp (mMix [28] I K) 28 2 ((K 28 2) + 1)), L))) rfl ?_
      exact h2 (of_decide_eq_false c0) (of_decide_eq_true c1)
    · refine mRt (r := none) (h := (mSH, (mMix [28] I K), L)) rfl rfl ?_
      exact h3 (of_decide_eq_false c0) (of_decide_eq_false c1)
theorem l_skip {ro : Nat → Nat × (Nat → Int32)} {Q : mPo} {d : Nat} {I : Nat → Nat → Int32} {L : Nat → Nat → Int64} (n26 : mCn I 26 120) (hq : ∀ K, True → Q none (mSH, mMix [28] I K, L)) (m : Nat) : ∀ (K : Nat → Nat → Int32), (I 26 1).toInt ≤ (K 28 2).toInt + m → mWP mTb_ mFT ro (d + 1, 34, 0, [some (.ref 28)], [], 0, 0, (mSH, (mMix [28] I K), L)) Q := by
  induction m with
  | zero =>
    intro K hm
    have z : I 26 1 ≤ K 28 2 := Int32.le_iff_toInt_le.mpr (by omega)
    apply s_skip n26 <;> intros <;> first | exact hq _ trivial | exact absurd z (by assumption)
  | succ m ih =>
    intro K hm
    by_cases z : I 26 1 ≤ K 28 2
    · apply s_skip n26 <;> intros <;> first | exact hq _ trivial | exact absurd z (by assumption)
    · have hs := mSucc z
      apply s_skip n26 <;> intros <;> first | exact absurd (by assumption) z | exact hq _ trivial | (rw [mMixU (by rfl)]; exact ih _ (by have e : (mUp K 28 2 (K 28 2 + 1)) 28 2 = K 28 2 + 1 := rfl; rw [e]; omega))
theorem w_skip {ro : Nat → Nat × (Nat → Int32)} {Q : mPo} {d : Nat} {I : Nat → Nat → Int32} {L : Nat → Nat → Int64} (n26 : mCn I 26 120) (hq : ∀ K, True → Q none (mSH, mMix [28] I K, L)) : mWP mTb_ mFT ro (d + 1, 34, 0, [some (.ref 28)], [], 0, 0, (mSH, I, L)) Q := by
  rw [← (mFr.rf : mFr [28] I I).eq]
  exact l_skip n26 hq 4294967296 I (by have := (I 26 1).toInt_lt; have := (I 28 2).le_toInt; omega)
theorem s_eol {ro : Nat → Nat × (Nat → Int32)} {Q : mPo} {d : Nat} {I : Nat → Nat → Int32} {L : Nat → Nat → Int64} {x : Int32} (n26 : mCn I 26 120)  (h1 : ((I 26 1) ≤ x) → Q (some (.int x)) (mSH, I, L)) (h2 : ¬ ((I 26 1) ≤ x) → ((mAt I 26 27 x) < 97) → ((mAt I 26 27 x) < 65) → Q (some (.int x)) (mSH, I, L)) (h3 : ¬ ((I 26 1) ≤ x) → ((mAt I 26 27 x) < 97) → ¬ ((mAt I 26 27 x) < 65) → ((90 : Int32) < (mAt I 26 27 x)) → Q (some (.int x)) (mSH, I, L)) (h4 : ¬ ((I 26 1) ≤ x) → ((mAt I 26 27 x) < 97) → ¬ ((mAt I 26 27 x) < 65) → ¬ ((90 : Int32) < (mAt I 26 27 x)) → mWP mTb_ mFT ro (d + 1, 35, 5, [some (.ref 28), some (.int (x + 1))], [], 0, 0, (mSH, I, L)) Q) (h5 : ¬ ((I 26 1) ≤ x) → ¬ ((mAt I 26 27 x) < 97) → ((mAt I 26 27 x) ≤ 122) → mWP mTb_ mFT ro (d + 1, 35, 5, [some (.ref 28), some (.int (x + 1))], [], 0, 0, (mSH, I, L)) Q) (h6 : ¬ ((I 26 1) ≤ x) → ¬ ((mAt I 26 27 x) < 97) → ¬ ((mAt I 26 27 x) ≤ 122) → Q (some (.int x)) (mSH, I, L)) : mWP mTb_ mFT ro (d + 1, 35, 5, [some (.ref 28), some (.int x)], [], 0, 0, (mSH, I, L)) Q := by
  refine mB 3 (s2 := (d + 1, 35, 10, [some (.ref 28), some (.int x)], [.ref 26, .int x], 0, 0, (mSH, I, L))) rfl ?_
  refine mCall (s2 := (d, 39, 0, [some (.ref 26)], [], 0, 0, (mSH, I, L))) rfl ?_
  refine mB 2 (s2 := (d, 39, 4, [some (.ref 26)], [.int (I 26 1)], 0, 0, (mSH, I, L))) rfl ?_
  refine mRt (r := (some (.int (I 26 1)))) (h := (mSH, I, L)) rfl (mRet_int rfl) ?_
  show mWP mTb_ mFT ro (d + 1, 35, 13, [some (.ref 28), some (.int x)], [.int (I 26 1), .int x], 0, 0, (mSH, I, L)) _
  refine mBr (s2 := (d + 1, 35, 36, [some (.ref 28), some (.int x)], [], 0, 0, (mSH, I, L))) (s3 := (d + 1, 35, 16, [some (.ref 28), some (.int x)], [], 0, 0, (mSH, I, L))) rfl (fun c0 => ?_) (fun c0 => ?_)
  · refine mB 1 (s2 := (d + 1, 35, 37, [some (.ref 28), some (.int x)], [.int x], 0, 0, (mSH, I, L))) rfl ?_
    refine mRt (r := (some (.int x))) (h := (mSH, I, L)) rfl (mRet_int rfl) ?_
    exact h1 (of_decide_eq_true c0)
  · refine mB 3 (s2 := (d + 1, 35, 21, [some (.ref 28), some (.int x)], [.int x, .ref 26], 0, 0, (mSH, I, L))) rfl ?_
    refine mCall (s2 := (d, 42, 0, [some (.ref 26), some (.int x)], [], 0, 0, (mSH, I, L))) rfl ?_
    refine w_at_26 n26 ?_
    show mWP mTb_ mFT ro (d + 1, 35, 24, [some (.ref 28), some (.int x)], [.int (mAt I 26 27 x)], 0, 0, (mSH, I, L)) _
    refine mCall (s2 := (d, 37, 0, [some (.int (mAt I 26 27 x))], [], 0, 0, (mSH, I, L))) rfl ?_
    refine mB 2 (s2 := (d, 37, 3, [some (.int (mAt I 26 27 x))], [.int 97, .int (mAt I 26 27 x)], 0, 0, (mSH, I, L))) rfl ?_
    refine mBr (s2 := (d, 37, 12, [some (.int (mAt I 26 27 x))], [], 0, 0, (mSH, I, L))) (s3 := (d, 37, 6, [some (.int (mAt I 26 27 x))], [], 0, 0, (mSH, I, L))) rfl (fun c1 => ?_) (fun c1 => ?_)
    · refine mB 2 (s2 := (d, 37, 15, [some (.int (mAt I 26 27 x))], [.int 65, .int (mAt I 26 27 x)], 0, 0, (mSH, I, L))) rfl ?_
      refine mBr (s2 := (d, 37, 28, [some (.int (mAt I 26 27 x))], [], 0, 0, (mSH, I, L))) (s3 := (d, 37, 18, [some (.int (mAt I 26 27 x))], [], 0, 0, (mSH, I, L))) rfl (fun c2 => ?_) (fun c2 => ?_)
      · refine mB 1 (s2 := (d, 37, 29, [some (.int (mAt I 26 27 x))], [.int 0], 0, 0, (mSH, I, L))) rfl ?_
        refine mRt (r := (some (.int 0))) (h := (mSH, I, L)) rfl rfl ?_
        show mWP mTb_ mFT ro (d + 1, 35, 27, [some (.ref 28), some (.int x)], [.int 0], 0, 0, (mSH, I, L)) _
        refine mBT (s2 := (d + 1, 35, 36, [some (.ref 28), some (.int x)], [], 0, 0, (mSH, I, L))) rfl (by decide) ?_
        refine mB 1 (s2 := (d + 1, 35, 37, [some (.ref 28), some (.int x)], [.int x], 0, 0, (mSH, I, L))) rfl ?_
        refine mRt (r := (some (.int x))) (h := (mSH, I, L)) rfl (mRet_int rfl) ?_
        exact h2 (of_decide_eq_false c0) (of_decide_eq_true c1) (of_decide_eq_true c2)
      · refine mB 2 (s2 := (d, 37, 21, [some (.int (mAt I 26 27 x))], [.int 90, .int (mAt I 26 27 x)], 0, 0, (mSH, I, L))) rfl ?_
        refine mBr (s2 := (d, 37, 28, [some (.int (mAt I 26 27 x))], [], 0, 0, (mSH, I, L))) (s3 := (d, 37, 24, [some (.int (mAt I 26 27 x))], [], 0, 0, (mSH, I, L))) rfl (fun c3 => ?_) (fun c3 => ?_)
        · refine mB 1 (s2 := (d, 37, 29, [some (.int (mAt I 26 27 x))], [.int 0], 0, 0, (mSH, I, L))) rfl ?_
          refine mRt (r := (some (.int 0))) (h := (mSH, I, L)) rfl rfl ?_
          show mWP mTb_ mFT ro (d + 1, 35, 27, [some (.ref 28), some (.int x)], [.int 0], 0, 0, (mSH, I, L)) _
          refine mBT (s2 := (d + 1, 35, 36, [some (.ref 28), some (.int x)], [], 0, 0, (mSH, I, L))) rfl (by decide) ?_
          refine mB 1 (s2 := (d + 1, 35, 37, [some (.ref 28), some (.int x)], [.int x], 0, 0, (mSH, I, L))) rfl ?_
          refine mRt (r := (some (.int x))) (h := (mSH, I, L)) rfl (mRet_int rfl) ?_
          exact h3 (of_decide_eq_false c0) (of_decide_eq_true c1) (of_decide_eq_false c2) (of_decide_eq_true c3)
        · refine mB 2 (s2 := (d, 37, 29, [some (.int (mAt I 26 27 x))], [.int 1], 0, 0, (mSH, I, L))) rfl ?_
          refine mRt (r := (some (.int 1))) (h := (mSH, I, L)) rfl rfl ?_
          show mWP mTb_ mFT ro (d + 1, 35, 27, [some (.ref 28), some (.int x)], [.int 1], 0, 0, (mSH, I, L)) _
          refine mBF (s3 := (d + 1, 35, 30, [some (.ref 28), some (.int x)], [], 0, 0, (mSH, I, L))) rfl (by decide) ?_
          refine mB 2 (s2 := (d + 1, 35, 5, [some (.ref 28), some (.int (x + 1))], [], 0, 0, (mSH, I, L))) rfl ?_
          exact h4 (of_decide_eq_false c0) (of_decide_eq_true c1) (of_decide_eq_false c2) (of_decide_eq_false c3)
    · refine mB 2 (s2 := (d, 37, 9, [some (.int (mAt I 26 27 x))], [.int 122, .int (mAt I 26 27 x)], 0, 0, (mSH, I, L))) rfl ?_
      refine mBr (s2 := (d, 37, 24, [some (.int (mAt I 26 27 x))], [], 0, 0, (mSH, I, L))) (s3 := (d, 37, 12, [some (.int (mAt I 26 27 x))], [], 0, 0, (mSH, I, L))) rfl (fun c2 => ?_) (fun c2 => ?_)
      · refine mB 2 (s2 := (d, 37, 29, [some (.int (mAt I 26 27 x))], [.int 1], 0, 0, (mSH, I, L))) rfl ?_
        refine mRt (r := (some (.int 1))) (h := (mSH, I, L)) rfl rfl ?_
        show mWP mTb_ mFT ro (d + 1, 35, 27, [some (.ref 28), some (.int x)], [.int 1], 0, 0, (mSH, I, L)) _
        refine mBF (s3 := (d + 1, 35, 30, [some (.ref 28), some (.int x)], [], 0, 0, (mSH, I, L))) rfl (by decide) ?_
        refine mB 2 (s2 := (d + 1, 35, 5, [some (.ref 28), some (.int (x + 1))], [], 0, 0, (mSH, I, L))) rfl ?_
        exact h5 (of_decide_eq_false c0) (of_decide_eq_false c1) (of_decide_eq_true c2)
      · refine mB 2 (s2 := (d, 37, 15, [some (.int (mAt I 26 27 x))], [.int 65, .int (mAt I 26 27 x)], 0, 0, (mSH, I, L))) rfl ?_
        refine mBF (c := decide ((mAt I 26 27 x) < 65)) (s3 := (d, 37, 18, [some (.int (mAt I 26 27 x))], [], 0, 0, (mSH, I, L))) rfl (decide_eq_false (by have a0 := of_decide_eq_false c1; have a1 := of_decide_eq_false c2; simp only [Int32.lt_iff_toInt_lt, Int32.le_iff_toInt_le, ← Int32.toInt_inj, mLi0, mLi1, mLi2, mLi3, mLi4, mLi5, mLi6, mLi7, mLi8, mLi9, mLi10, mLi16, mLi32, mLi48, mLi57, mLi59, mLi65, mLi90, mLi97, mLi99, mLi120, mLi122, mLi127, mLi1584, mLi999999, mLim] at a0 a1 ⊢; omega)) ?_
        refine mB 2 (s2 := (d, 37, 21, [some (.int (mAt I 26 27 x))], [.int 90, .int (mAt I 26 27 x)], 0, 0, (mSH, I, L))) rfl ?_
        refine mBT (c := decide ((90 : Int32) < (mAt I 26 27 x))) (s2 := (d, 37, 28, [some (.int (mAt I 26 27 x))], [], 0, 0, (mSH, I, L))) rfl (decide_eq_true (by have a0 := of_decide_eq_false c1; have a1 := of_decide_eq_false c2; simp only [Int32.lt_iff_toInt_lt, Int32.le_iff_toInt_le, ← Int32.toInt_inj, mLi0, mLi1, mLi2, mLi3, mLi4, mLi5, mLi6, mLi7, mLi8, mLi9, mLi10, mLi16, mLi32, mLi48, mLi57, mLi59, mLi65, mLi90, mLi97, mLi99, mLi120, mLi122, mLi127, mLi1584, mLi999999, mLim] at a0 a1 ⊢; omega)) ?_
        refine mB 1 (s2 := (d, 37, 29, [some (.int (mAt I 26 27 x))], [.int 0], 0, 0, (mSH, I, L))) rfl ?_
        refine mRt (r := (some (.int 0))) (h := (mSH, I, L)) rfl rfl ?_
        show mWP mTb_ mFT ro (d + 1, 35, 27, [some (.ref 28), some (.int x)], [.int 0], 0, 0, (mSH, I, L)) _
        refine mBT (s2 := (d + 1, 35, 36, [some (.ref 28), some (.int x)], [], 0, 0, (mSH, I, L))) rfl (by decide) ?_
        refine mB 1 (s2 := (d + 1, 35, 37, [some (.ref 28), some (.int x)], [.int x], 0, 0, (mSH, I, L))) rfl ?_
        refine mRt (r := (some (.int x))) (h := (mSH, I, L)) rfl (mRet_int rfl) ?_
        exact h6 (of_decide_eq_false c0) (of_decide_eq_false c1) (of_decide_eq_false c2)
theorem l_eol {ro : Nat → Nat × (Nat → Int32)} {Q : mPo} {d : Nat} {I : Nat → Nat → Int32} {L : Nat → Nat → Int64} (n26 : mCn I 26 120) (hq : ∀ r, Q (some (.int r)) (mSH, I, L)) (m : Nat) : ∀ (x : Int32), (I 26 1).toInt ≤ (x).toInt + m → mWP mTb_ mFT ro (d + 1, 35, 5, [some (.ref 28), some (.int x)], [], 0, 0, (mSH, I, L)) Q := by
  induction m with
  | zero =>
    intro x hm
    have z : I 26 1 ≤ x := Int32.le_iff_toInt_le.mpr (by omega)
    apply s_eol n26 <;> intros <;> first | exact hq _ | exact absurd z (by assumption)
  | succ m ih =>
    intro x hm
    by_cases z : I 26 1 ≤ x
    · apply s_eol n26 <;> intros <;> first | exact hq _ | exact absurd z (by assumption)
    · have hs := mSucc z
      apply s_eol n26 <;> intros <;> first | exact absurd (by assumption) z | exact hq _ | (exact ih _ (by omega))
theorem w_eol {ro : Nat → Nat × (Nat → Int32)} {Q : mPo} {d : Nat} {I : Nat → Nat → Int32} {L : Nat → Nat → Int64} (n26 : mCn I 26 120) (hq : ∀ r, Q (some (.int r)) (mSH, I, L))  : mWP mTb_ mFT ro (d + 1, 35, 0, [some (.ref 28), none], [], 0, 0, (mSH, I, L)) Q := by
  refine mB 3 (s2 := (d + 1, 35, 5, [some (.ref 28), some (.int (I 28 2))], [], 0, 0, (mSH, I, L))) rfl ?_
  exact l_eol n26 hq 4294967296 _ (by have := (I 26 1).toInt_lt; have := (I 28 2).le_toInt; omega)
theorem s_eof {ro : Nat → Nat × (Nat → Int32)} {Q : mPo} {d : Nat} {I : Nat → Nat → Int32} {L : Nat → Nat → Int64} {x : Int32} (n26 : mCn I 26 120)  (h1 : ((I 26 1) ≤ x) → Q (some (.int x)) (mSH, I, L)) (h2 : ¬ ((I 26 1) ≤ x) → ((mAt I 26 27 x) < 48) → Q (some (.int x)) (mSH, I, L)) (h3 : ¬ ((I 26 1) ≤ x) → ¬ ((mAt I 26 27 x) < 48) → ((57 : Int32) < (mAt I 26 27 x)) → Q (some (.int x)) (mSH, I, L)) (h4 : ¬ ((I 26 1) ≤ x) → ¬ ((mAt I 26 27 x) < 48) → ¬ ((57 : Int32) < (mAt I 26 27 x)) → mWP mTb_ mFT ro (d + 1, 36, 5, [some (.ref 28), some (.int (x + 1))], [], 0, 0, (mSH, I, L)) Q) : mWP mTb_ mFT ro (d + 1, 36, 5, [some (.ref 28), some (.int x)], [], 0, 0, (mSH, I, L)) Q := by
  refine mB 3 (s2 := (d + 1, 36, 10, [some (.ref 28), some (.int x)], [.ref 26, .int x], 0, 0, (mSH, I, L))) rfl ?_
  refine mCall (s2 := (d, 39, 0, [some (.ref 26)], [], 0, 0, (mSH, I, L))) rfl ?_
  refine mB 2 (s2 := (d, 39, 4, [some (.ref 26)], [.int (I 26 1)], 0, 0, (mSH, I, L))) rfl ?_
  refine mRt (r := (some (.int (I 26 1)))) (h := (mSH, I, L)) rfl (mRet_int rfl) ?_
  show mWP mTb_ mFT ro (d + 1, 36, 13, [some (.ref 28), some (.int x)], [.int (I 26 1), .int x], 0, 0, (mSH, I, L)) _
  refine mBr (s2 := (d + 1, 36, 48, [some (.ref 28), some (.int x)], [], 0, 0, (mSH, I, L))) (s3 := (d + 1, 36, 16, [some (.ref 28), some (.int x)], [], 0, 0, (mSH, I, L))) rfl (fun c0 => ?_) (fun c0 => ?_)
  · refine mB 1 (s2 := (d + 1, 36, 49, [some (.ref 28), some (.int x)], [.int x], 0, 0, (mSH, I, L))) rfl ?_
    refine mRt (r := (some (.int x))) (h := (mSH, I, L)) rfl (mRet_int rfl) ?_
    exact h1 (of_decide_eq_true c0)
  · refine mB 3 (s2 := (d + 1, 36, 21, [some (.ref 28), some (.int x)], [.int x, .ref 26], 0, 0, (mSH, I, L))) rfl ?_
    refine mCall (s2 := (d, 42, 0, [some (.ref 26), some (.int x)], [], 0, 0, (mSH, I, L))) rfl ?_
    refine w_at_26 n26 ?_
    show mWP mTb_ mFT ro (d + 1, 36, 24, [some (.ref 28), some (.int x)], [.int (mAt I 26 27 x)], 0, 0, (mSH, I, L)) _
    refine mB 1 (s2 := (d + 1, 36, 26, [some (.ref 28), some (.int x)], [.int 48, .int (mAt I 26 27 x)], 0, 0, (mSH, I, L))) rfl ?_
    refine mBr (s2 := (d + 1, 36, 48, [some (.ref 28), some (.int x)], [], 0, 0, (mSH, I, L))) (s3 := (d + 1, 36, 29, [some (.ref 28), some (.int x)], [], 0, 0, (mSH, I, L))) rfl (fun c1 => ?_) (fun c1 => ?_)
    · refine mB 1 (s2 := (d + 1, 36, 49, [some (.ref 28), some (.int x)], [.int x], 0, 0, (mSH, I, L))) rfl ?_
      refine mRt (r := (some (.int x))) (h := (mSH, I, L)) rfl (mRet_int rfl) ?_
      exact h2 (of_decide_eq_false c0) (of_decide_eq_true c1)
    · refine mB 3 (s2 := (d + 1, 36, 34, [some (.ref 28), some (.int x)], [.int x, .ref 26], 0, 0, (mSH, I, L))) rfl ?_
      refine mCall (s2 := (d, 42, 0, [some (.ref 26), some (.int x)], [], 0, 0, (mSH, I, L))) rfl ?_
      refine w_at_26 n26 ?_
      show mWP mTb_ mFT ro (d + 1, 36, 37, [some (.ref 28), some (.int x)], [.int (mAt I 26 27 x)], 0, 0, (mSH, I, L)) _
      refine mB 1 (s2 := (d + 1, 36, 39, [some (.ref 28), some (.int x)], [.int 57, .int (mAt I 26 27 x)], 0, 0, (mSH, I, L))) rfl ?_
      refine mBr (s2 := (d + 1, 36, 48, [some (.ref 28), some (.int x)], [], 0, 0, (mSH, I, L))) (s3 := (d + 1, 36, 42, [some (.ref 28), some (.int x)], [], 0, 0, (mSH, I, L))) rfl (fun c2 => ?_) (fun c2 => ?_)
      · refine mB 1 (s2 := (d + 1, 36, 49, [some (.ref 28), some (.int x)], [.int x], 0, 0, (mSH, I, L))) rfl ?_
        refine mRt (r := (some (.int x))) (h := (mSH, I, L)) rfl (mRet_int rfl) ?_
        exact h3 (of_decide_eq_false c0) (of_decide_eq_false c1) (of_decide_eq_true c2)
      · refine mB 2 (s2 := (d + 1, 36, 5, [some (.ref 28), some (.int (x + 1))], [], 0, 0, (mSH, I, L))) rfl ?_
        exact h4 (of_decide_eq_false c0) (of_decide_eq_false c1) (of_decide_eq_false c2)
theorem l_eof {ro : Nat → Nat × (Nat → Int32)} {Q : mPo} {d : Nat} {I : Nat → Nat → Int32} {L : Nat → Nat → Int64} (n26 : mCn I 26 120) (hq : ∀ r, Q (some (.int r)) (mSH, I, L)) (m : Nat) : ∀ (x : Int32), (I 26 1).toInt ≤ (x).toInt + m → mWP mTb_ mFT ro (d + 1, 36, 5, [some (.ref 28), some (.int x)], [], 0, 0, (mSH, I, L)) Q := by
  induction m with
  | zero =>
    intro x hm
    have z : I 26 1 ≤ x := Int32.le_iff_toInt_le.mpr (by omega)
    apply s_eof n26 <;> intros <;> first | exact hq _ | exact absurd z (by assumption)
  | succ m ih =>
    intro x hm
    by_cases z : I 26 1 ≤ x
    · apply s_eof n26 <;> intros <;> first | exact hq _ | exact absurd z (by assumption)
    · have hs := mSucc z
      apply s_eof n26 <;> intros <;> first | exact absurd (by assumption) z | exact hq _ | (exact ih _ (by omega))
theorem w_eof {ro : Nat → Nat × (Nat → Int32)} {Q : mPo} {d : Nat} {I : Nat → Nat → Int32} {L : Nat → Nat → Int64} (n26 : mCn I 26 120) (hq : ∀ r, Q (some (.int r)) (mSH, I, L))  : mWP mTb_ mFT ro (d + 1, 36, 0, [some (.ref 28), none], [], 0, 0, (mSH, I, L)) Q := by
  refine mB 3 (s2 := (d + 1, 36, 5, [some (.ref 28), some (.int (I 28 2))], [], 0, 0, (mSH, I, L))) rfl ?_
  exact l_eof n26 hq 4294967296 _ (by have := (I 26 1).toInt_lt; have := (I 28 2).le_toInt; omega)
theorem w_len_0 {ro : Nat → Nat × (Nat → Int32)} {Q : mPo} {d : Nat} {I : Nat → Nat → Int32} {L : Nat → Nat → Int64} (hB : mRB ro) (hq : Q (some (.int 5)) (mSH, I, L))  : mWP mTb_ mFT ro (d + 1, 160, 0, [some (.ref 1003)], [], 0, 0, (mSH, I, L)) Q := by
  have e1 : (ro 13).1 = 5 := (hB 0 (by omega)).1
  refine mB 4 (s2 := (d + 1, 160, 6, [some (.ref 1003)], [.ref 1003, .int (Int32.ofNat (ro 13).1)], 0, 0, (mSH, I, L))) rfl ?_
  refine mCall (s2 := (d, 162, 0, [some (.ref 1003)], [], 0, 0, (mSH, I, L))) rfl ?_
  refine mB 1 (s2 := (d, 162, 3, [some (.ref 1003)], [.int 1], 0, 0, (mSH, I, L))) rfl ?_
  refine mBF (s3 := (d, 162, 6, [some (.ref 1003)], [], 0, 0, (mSH, I, L))) rfl (by decide) ?_
  refine mB 3 (s2 := (d, 162, 14, [some (.ref 1003)], [.int 0], 0, 0, (mSH, I, L))) rfl ?_
  refine mRt (r := (some (.int 0))) (h := (mSH, I, L)) rfl rfl ?_
  show mWP mTb_ mFT ro (d + 1, 160, 9, [some (.ref 1003)], [.int 0, .int (Int32.ofNat (ro 13).1)], 0, 0, (mSH, I, L)) _
  refine mB 1 (s2 := (d + 1, 160, 10, [some (.ref 1003)], [.int ((Int32.ofNat (ro 13).1) >>> (0 &&& 31))], 0, 0, (mSH, I, L))) rfl ?_
  refine mRt (r := (some (.int ((Int32.ofNat (ro 13).1) >>> (0 &&& 31))))) (h := (mSH, I, L)) rfl (mRet_int rfl) ?_
  (rw [show (Int32.ofNat (ro 13).1) >>> (0 &&& 31) = 5 by rw [e1]; decide]; exact hq)
theorem w_char_0_0 {ro : Nat → Nat × (Nat → Int32)} {Q : mPo} {d : Nat} {I : Nat → Nat → Int32} {L : Nat → Nat → Int64} (hB : mRB ro) (hq : Q (some (.int 121)) (mSH, I, L))  : mWP mTb_ mFT ro (d + 3, 161, 0, [some (.ref 1003), some (.int 0)], [], 0, 0, (mSH, I, L)) Q := by
  have e1 : (ro 13).1 = 5 := (hB 0 (by omega)).1
  have e2 : (ro 13).2 0 = 121 := (hB 0 (by omega)).2 0
  refine mB 1 (s2 := (d + 3, 161, 1, [some (.ref 1003), some (.int 0)], [.ref 1003], 0, 0, (mSH, I, L))) rfl ?_
  refine mCall (s2 := (d + 2, 163, 0, [some (.ref 1003)], [], 0, 0, (mSH, I, L))) rfl ?_
  refine mB 1 (s2 := (d + 2, 163, 3, [some (.ref 1003)], [.int 1], 0, 0, (mSH, I, L))) rfl ?_
  refine mBF (s3 := (d + 2, 163, 6, [some (.ref 1003)], [], 0, 0, (mSH, I, L))) rfl (by decide) ?_
  refine mB 2 (s2 := (d + 2, 163, 10, [some (.ref 1003)], [.int 0], 0, 0, (mSH, I, L))) rfl ?_
  refine mBT (s2 := (d + 2, 163, 13, [some (.ref 1003)], [], 0, 0, (mSH, I, L))) rfl (by decide) ?_
  refine mB 2 (s2 := (d + 2, 163, 18, [some (.ref 1003)], [.int 1], 0, 0, (mSH, I, L))) rfl ?_
  refine mRt (r := (some (.int 1))) (h := (mSH, I, L)) rfl rfl ?_
  show mWP mTb_ mFT ro (d + 3, 161, 4, [some (.ref 1003), some (.int 0)], [.int 1], 0, 0, (mSH, I, L)) _
  refine mBF (s3 := (d + 3, 161, 7, [some (.ref 1003), some (.int 0)], [], 0, 0, (mSH, I, L))) rfl (by decide) ?_
  refine mB 3 (s2 := (d + 3, 161, 12, [some (.ref 1003), some (.int 0)], [.int 0, .ref 1013], 0, 0, (mSH, I, L))) rfl ?_
  refine mCall (s2 := (d + 2, 165, 0, [some (.ref 1013), some (.int 0)], [], 0, 0, (mSH, I, L))) rfl ?_
  refine mB 3 (s2 := (d + 2, 165, 3, [some (.ref 1013), some (.int 0)], [.int (Int32.ofNat (ro 13).1), .int 0], 0, 0, (mSH, I, L))) rfl ?_
  refine mCall (s2 := (d + 1, 164, 0, [some (.int 0), some (.int (Int32.ofNat (ro 13).1))], [], 0, 0, (mSH, I, L))) rfl ?_
  refine mB 2 (s2 := (d + 1, 164, 2, [some (.int 0), some (.int (Int32.ofNat (ro 13).1))], [.int (Int32.ofNat (ro 13).1), .int 0], 0, 0, (mSH, I, L))) rfl ?_
  refine mBr (s2 := (d + 1, 164, 5, [some (.int 0), some (.int (Int32.ofNat (ro 13).1))], [.null, .int (Int32.ofNat (ro 13).1), .int 0], 0, 0, (mSH, I, L))) (s3 := (d + 1, 164, 5, [some (.int 0), some (.int (Int32.ofNat (ro 13).1))], [.ref 1007, .int (Int32.ofNat (ro 13).1), .int 0], 0, 0, (mSH, I, L))) rfl (fun _ => ?_) (fun _ => ?_)
  · refine mCall (s2 := (d, 167, 0, [some (.int 0), some (.int (Int32.ofNat (ro 13).1)), some .null], [], 0, 0, (mSH, I, L))) rfl ?_
    refine mB 1 (s2 := (d, 167, 1, [some (.int 0), some (.int (Int32.ofNat (ro 13).1)), some .null], [.int 0], 0, 0, (mSH, I, L))) rfl ?_
    refine mBF (s3 := (d, 167, 4, [some (.int 0), some (.int (Int32.ofNat (ro 13).1)), some .null], [], 0, 0, (mSH, I, L))) rfl (by decide) ?_
    refine mB 2 (s2 := (d, 167, 6, [some (.int 0), some (.int (Int32.ofNat (ro 13).1)), some .null], [.int (Int32.ofNat (ro 13).1), .int 0], 0, 0, (mSH, I, L))) rfl ?_
    refine mBT (s2 := (d, 167, 16, [some (.int 0), some (.int (Int32.ofNat (ro 13).1)), some .null], [], 0, 0, (mSH, I, L))) rfl (by first | (simp only [e1, e2]; first | decide | rfl) | decide | rfl) ?_
    refine mB 1 (s2 := (d, 167, 17, [some (.int 0), some (.int (Int32.ofNat (ro 13).1)), some .null], [.int 0], 0, 0, (mSH, I, L))) rfl ?_
    refine mRt (r := (some (.int 0))) (h := (mSH, I, L)) rfl (mRet_int rfl) ?_
    show mWP mTb_ mFT ro (d + 1, 164, 8, [some (.int 0), some (.int (Int32.ofNat (ro 13).1))], [.int 0], 0, 0, (mSH, I, L)) _
    refine mB 1 (s2 := (d + 1, 164, 9, [some (.int 0), some (.int (Int32.ofNat (ro 13).1))], [], 0, 0, (mSH, I, L))) rfl ?_
    refine mRt (r := none) (h := (mSH, I, L)) rfl rfl ?_
    show mWP mTb_ mFT ro (d + 2, 165, 6, [some (.ref 1013), some (.int 0)], [], 0, 0, (mSH, I, L)) _
    refine mB 2 (s2 := (d + 2, 165, 8, [some (.ref 1013), some (.int 0)], [.int 0, .ref 1013], 0, 0, (mSH, I, L))) rfl ?_
    refine mRq (s2 := (d + 2, 165, 9, [some (.ref 1013), some (.int 0)], [.int ((ro 13).2 0)], 0, 0, (mSH, I, L))) rfl (by first | (simp only [e1, e2]; first | decide | rfl) | decide | rfl) ?_
    refine mB 3 (s2 := (d + 2, 165, 14, [some (.ref 1013), some (.int 0)], [.int (((((ro 13).2 0) &&& 255).toUInt32 % 65536).toInt32)], 0, 0, (mSH, I, L))) rfl ?_
    refine mRt (r := (some (.int (((((ro 13).2 0) &&& 255).toUInt32 % 65536).toInt32)))) (h := (mSH, I, L)) rfl (by first | (simp only [e1, e2]; first | decide | rfl) | decide | rfl) ?_
    show mWP mTb_ mFT ro (d + 3, 161, 15, [some (.ref 1003), some (.int 0)], [.int (((((ro 13).2 0) &&& 255).toUInt32 % 65536).toInt32)], 0, 0, (mSH, I, L)) _
    refine mRt (r := (some (.int (((((ro 13).2 0) &&& 255).toUInt32 % 65536).toInt32)))) (h := (mSH, I, L)) rfl (by first | (simp only [e1, e2]; first | decide | rfl) | decide | rfl) ?_
    (rw [show ((((ro 13).2 0) &&& 255).toUInt32 % 65536).toInt32 = 121 by rw [e2]; decide]; exact hq)
  · refine mCall (s2 := (d, 167, 0, [some (.int 0), some (.int (Int32.ofNat (ro 13).1)), some (.ref 1007)], [], 0, 0, (mSH, I, L))) rfl ?_
    refine mB 1 (s2 := (d, 167, 1, [some (.int 0), some (.int (Int32.ofNat (ro 13).1)), some (.ref 1007)], [.int 0], 0, 0, (mSH, I, L))) rfl ?_
    refine mBF (s3 := (d, 167, 4, [some (.int 0), some (.int (Int32.ofNat (ro 13).1)), some (.ref 1007)], [], 0, 0, (mSH, I, L))) rfl (by decide) ?_
    refine mB 2 (s2 := (d, 167, 6, [some (.int 0), some (.int (Int32.ofNat (ro 13).1)), some (.ref 1007)], [.int (Int32.ofNat (ro 13).1), .int 0], 0, 0, (mSH, I, L))) rfl ?_
    refine mBT (s2 := (d, 167, 16, [some (.int 0), some (.int (Int32.ofNat (ro 13).1)), some (.ref 1007)], [], 0, 0, (mSH, I, L))) rfl (by first | (simp only [e1, e2]; first | decide | rfl) | decide | rfl) ?_
    refine mB 1 (s2 := (d, 167, 17, [some (.int 0), some (.int (Int32.ofNat (ro 13).1)), some (.ref 1007)], [.int 0], 0, 0, (mSH, I, L))) rfl ?_
    refine mRt (r := (some (.int 0))) (h := (mSH, I, L)) rfl (mRet_int rfl) ?_
    show mWP mTb_ mFT ro (d + 1, 164, 8, [some (.int 0), some (.int (Int32.ofNat (ro 13).1))], [.int 0], 0, 0, (mSH, I, L)) _
    refine mB 1 (s2 := (d + 1, 164, 9, [some (.int 0), some (.int (Int32.ofNat (ro 13).1))], [], 0, 0, (mSH, I, L))) rfl ?_
    refine mRt (r := none) (h := (mSH, I, L)) rfl rfl ?_
    show mWP mTb_ mFT ro (d + 2, 165, 6, [some (.ref 1013), some (.int 0)], [], 0, 0, (mSH, I, L)) _
    refine mB 2 (s2 := (d + 2, 165, 8, [some (.ref 1013), some (.int 0)], [.int 0, .ref 1013], 0, 0, (mSH, I, L))) rfl ?_
    refine mRq (s2 := (d + 2, 165, 9, [some (.ref 1013), some (.int 0)], [.int ((ro 13).2 0)], 0, 0, (mSH, I, L))) rfl (by first | (simp only [e1, e2]; first | decide | rfl) | decide | rfl) ?_
    refine mB 3 (s2 := (d + 2, 165, 14, [some (.ref 1013), some (.int 0)], [.int (((((ro 13).2 0) &&& 255).toUInt32 % 65536).toInt32)], 0, 0, (mSH, I, L))) rfl ?_
    refine mRt (r := (some (.int (((((ro 13).2 0) &&& 255).toUInt32 % 65536).toInt32)))) (h := (mSH, I, L)) rfl (by first | (simp only [e1, e2]; first | decide | rfl) | decide | rfl) ?_
    show mWP mTb_ mFT ro (d + 3, 161, 15, [some (.ref 1003), some (.int 0)], [.int (((((ro 13).2 0) &&& 255).toUInt32 % 65536).toInt32)], 0, 0, (mSH, I, L)) _
    refine mRt (r := (some (.int (((((ro 13).2 0) &&& 255).toUInt32 % 65536).toInt32)))) (h := (mSH, I, L)) rfl (by first | (simp only [e1, e2]; first | decide | rfl) | decide | rfl) ?_
    (rw [show ((((ro 13).2 0) &&& 255).toUInt32 % 65536).toInt32 = 121 by rw [e2]; decide]; exact hq)
theorem w_char_0_1 {ro : Nat → Nat × (Nat → Int32)} {Q : mPo} {d : Nat} {I : Nat → Nat → Int32} {L : Nat → Nat → Int64} (hB : mRB ro) (hq : Q (some (.int 101)) (mSH, I, L))  : mWP mTb_ mFT ro (d + 3, 161, 0, [some (.ref 1003), some (.int 1)], [], 0, 0, (mSH, I, L)) Q := by
  have e1 : (ro 13).1 = 5 := (hB 0 (by omega)).1
  have e2 : (ro 13).2 1 = 101 := (hB 0 (by omega)).2 1
  refine mB 1 (s2 := (d + 3, 161, 1, [some (.ref 1003), some (.int 1)], [.ref 1003], 0, 0, (mSH, I, L))) rfl ?_
  refine mCall (s2 := (d + 2, 163, 0, [some (.ref 1003)], [], 0, 0, (mSH, I, L))) rfl ?_
  refine mB 1 (s2 := (d + 2, 163, 3, [some (.ref 1003)], [.int 1], 0, 0, (mSH, I, L))) rfl ?_
  refine mBF (s3 := (d + 2, 163, 6, [some (.ref 1003)], [], 0, 0, (mSH, I, L))) rfl (by decide) ?_
  refine mB 2 (s2 := (d + 2, 163, 10, [some (.ref 1003)], [.int 0], 0, 0, (mSH, I, L))) rfl ?_
  refine mBT (s2 := (d + 2, 163, 13, [some (.ref 1003)], [], 0, 0, (mSH, I, L))) rfl (by decide) ?_
  refine mB 2 (s2 := (d + 2, 163, 18, [some (.ref 1003)], [.int 1], 0, 0, (mSH, I, L))) rfl ?_
  refine mRt (r := (some (.int 1))) (h := (mSH, I, L)) rfl rfl ?_
  show mWP mTb_ mFT ro (d + 3, 161, 4, [some (.ref 1003), some (.int 1)], [.int 1], 0, 0, (mSH, I, L)) _
  refine mBF (s3 := (d + 3, 161, 7, [some (.ref 1003), some (.int 1)], [], 0, 0, (mSH, I, L))) rfl (by decide) ?_
  refine mB 3 (s2 := (d + 3, 161, 12, [some (.ref 1003), some (.int 1)], [.int 1, .ref 1013], 0, 0, (mSH, I, L))) rfl ?_
  refine mCall (s2 := (d + 2, 165, 0, [some (.ref 1013), some (.int 1)], [], 0, 0, (mSH, I, L))) rfl ?_
  refine mB 3 (s2 := (d + 2, 165, 3, [some (.ref 1013), some (.int 1)], [.int (Int32.ofNat (ro 13).1), .int 1], 0, 0, (mSH, I, L))) rfl ?_
  refine mCall (s2 := (d + 1, 164, 0, [some (.int 1), some (.int (Int32.ofNat (ro 13).1))], [], 0, 0, (mSH, I, L))) rfl ?_
  refine mB 2 (s2 := (d + 1, 164, 2, [some (.int 1), some (.int (Int32.ofNat (ro 13).1))], [.int (Int32.ofNat (ro 13).1), .int 1], 0, 0, (mSH, I, L))) rfl ?_
  refine mBr (s2 := (d + 1, 164, 5, [some (.int 1), some (.int (Int32.ofNat (ro 13).1))], [.null, .int (Int32.ofNat (ro 13).1), .int 1], 0, 0, (mSH, I, L))) (s3 := (d + 1, 164, 5, [some (.int 1), some (.int (Int32.ofNat (ro 13).1))], [.ref 1007, .int (Int32.ofNat (ro 13).1), .int 1], 0, 0, (mSH, I, L))) rfl (fun _ => ?_) (fun _ => ?_)
  · refine mCall (s2 := (d, 167, 0, [some (.int 1), some (.int (Int32.ofNat (ro 13).1)), some .null], [], 0, 0, (mSH, I, L))) rfl ?_
    refine mB 1 (s2 := (d, 167, 1, [some (.int 1), some (.int (Int32.ofNat (ro 13).1)), some .null], [.int 1], 0, 0, (mSH, I, L))) rfl ?_
    refine mBF (s3 := (d, 167, 4, [some (.int 1), some (.int (Int32.ofNat (ro 13).1)), some .null], [], 0, 0, (mSH, I, L))) rfl (by decide) ?_
    refine mB 2 (s2 := (d, 167, 6, [some (.int 1), some (.int (Int32.ofNat (ro 13).1)), some .null], [.int (Int32.ofNat (ro 13).1), .int 1], 0, 0, (mSH, I, L))) rfl ?_
    refine mBT (s2 := (d, 167, 16, [some (.int 1), some (.int (Int32.ofNat (ro 13).1)), some .null], [], 0, 0, (mSH, I, L))) rfl (by first | (simp only [e1, e2]; first | decide | rfl) | decide | rfl) ?_
    refine mB 1 (s2 := (d, 167, 17, [some (.int 1), some (.int (Int32.ofNat (ro 13).1)), some .null], [.int 1], 0, 0, (mSH, I, L))) rfl ?_
    refine mRt (r := (some (.int 1))) (h := (mSH, I, L)) rfl (mRet_int rfl) ?_
    show mWP mTb_ mFT ro (d + 1, 164, 8, [some (.int 1), some (.int (Int32.ofNat (ro 13).1))], [.int 1], 0, 0, (mSH, I, L)) _
    refine mB 1 (s2 := (d + 1, 164, 9, [some (.int 1), some (.int (Int32.ofNat (ro 13).1))], [], 0, 0, (mSH, I, L))) rfl ?_
    refine mRt (r := none) (h := (mSH, I, L)) rfl rfl ?_
    show mWP mTb_ mFT ro (d + 2, 165, 6, [some (.ref 1013), some (.int 1)], [], 0, 0, (mSH, I, L)) _
    refine mB 2 (s2 := (d + 2, 165, 8, [some (.ref 1013), some (.int 1)], [.int 1, .ref 1013], 0, 0, (mSH, I, L))) rfl ?_
    refine mRq (s2 := (d + 2, 165, 9, [some (.ref 1013), some (.int 1)], [.int ((ro 13).2 1)], 0, 0, (mSH, I, L))) rfl (by first | (simp only [e1, e2]; first | decide | rfl) | decide | rfl) ?_
    refine mB 3 (s2 := (d + 2, 165, 14, [some (.ref 1013), some (.int 1)], [.int (((((ro 13).2 1) &&& 255).toUInt32 % 65536).toInt32)], 0, 0, (mSH, I, L))) rfl ?_
    refine mRt (r := (some (.int (((((ro 13).2 1) &&& 255).toUInt32 % 65536).toInt32)))) (h := (mSH, I, L)) rfl (by first | (simp only [e1, e2]; first | decide | rfl) | decide | rfl) ?_
    show mWP mTb_ mFT ro (d + 3, 161, 15, [some (.ref 1003), some (.int 1)], [.int (((((ro 13).2 1) &&& 255).toUInt32 % 65536).toInt32)], 0, 0, (mSH, I, L)) _
    refine mRt (r := (some (.int (((((ro 13).2 1) &&& 255).toUInt32 % 65536).toInt32)))) (h := (mSH, I, L)) rfl (by first | (simp only [e1, e2]; first | decide | rfl) | decide | rfl) ?_
    (rw [show ((((ro 13).2 1) &&& 255).toUInt32 % 65536).toInt32 = 101 by rw [e2]; decide]; exact hq)
  · refine mCall (s2 := (d, 167, 0, [some (.int 1), some (.int (Int32.ofNat (ro 13).1)), some (.ref 1007)], [], 0, 0, (mSH, I, L))) rfl ?_
    refine mB 1 (s2 := (d, 167, 1, [some (.int 1), some (.int (Int32.ofNat (ro 13).1)), some (.ref 1007)], [.int 1], 0, 0, (mSH, I, L))) rfl ?_
    refine mBF (s3 := (d, 167, 4, [some (.int 1), some (.int (Int32.ofNat (ro 13).1)), some (.ref 1007)], [], 0, 0, (mSH, I, L))) rfl (by decide) ?_
    refine mB 2 (s2 := (d, 167, 6, [some (.int 1), some (.int (Int32.ofNat (ro 13).1)), some (.ref 1007)], [.int (Int32.ofNat (ro 13).1), .int 1], 0, 0, (mSH, I, L))) rfl ?_
    refine mBT (s2 := (d, 167, 16, [some (.int 1), some (.int (Int32.ofNat (ro 13).1)), some (.ref 1007)], [], 0, 0, (mSH, I, L))) rfl (by first | (simp only [e1, e2]; first | decide | rfl) | decide | rfl) ?_
    refine mB 1 (s2 := (d, 167, 17, [some (.int 1), some (.int (Int32.ofNat (ro 13).1)), some (.ref 1007)], [.int 1], 0, 0, (mSH, I, L))) rfl ?_
    refine mRt (r := (some (.int 1))) (h := (mSH, I, L)) rfl (mRet_int rfl) ?_
    show mWP mTb_ mFT ro (d + 1, 164, 8, [some (.int 1), some (.int (Int32.ofNat (ro 13).1))], [.int 1], 0, 0, (mSH, I, L)) _
    refine mB 1 (s2 := (d + 1, 164, 9, [some (.int 1), some (.int (Int32.ofNat (ro 13).1))], [], 0, 0, (mSH, I, L))) rfl ?_
    refine mRt (r := none) (h := (mSH, I, L)) rfl rfl ?_
    show mWP mTb_ mFT ro (d + 2, 165, 6, [some (.ref 1013), some (.int 1)], [], 0, 0, (mSH, I, L)) _
    refine mB 2 (s2 := (d + 2, 165, 8, [some (.ref 1013), some (.int 1)], [.int 1, .ref 1013], 0, 0, (mSH, I, L))) rfl ?_
    refine mRq (s2 := (d + 2, 165, 9, [some (.ref 1013), some (.int 1)], [.int ((ro 13).2 1)], 0, 0, (mSH, I, L))) rfl (by first | (simp only [e1, e2]; first | decide | rfl) | decide | rfl) ?_
    refine mB 3 (s2 := (d + 2, 165, 14, [some (.ref 1013), some (.int 1)], [.int (((((ro 13).2 1) &&& 255).toUInt32 % 65536).toInt32)], 0, 0, (mSH, I, L))) rfl ?_
    refine mRt (r := (some (.int (((((ro 13).2 1) &&& 255).toUInt32 % 65536).toInt32)))) (h := (mSH, I, L)) rfl (by first | (simp only [e1, e2]; first | decide | rfl) | decide | rfl) ?_
    show mWP mTb_ mFT ro (d + 3, 161, 15, [some (.ref 1003), some (.int 1)], [.int (((((ro 13).2 1) &&& 255).toUInt32 % 65536).toInt32)], 0, 0, (mSH, I, L)) _
    refine mRt (r := (some (.int (((((ro 13).2 1) &&& 255).toUInt32 % 65536).toInt32)))) (h := (mSH, I, L)) rfl (by first | (simp only [e1, e2]; first | decide | rfl) | decide | rfl) ?_
    (rw [show ((((ro 13).2 1) &&& 255).toUInt32 % 65536).toInt32 = 101 by rw [e2]; decide]; exact hq)
theorem w_char_0_2 {ro : Nat → Nat × (Nat → Int32)} {Q : mPo} {d : Nat} {I : Nat → Nat → Int32} {L : Nat → Nat → Int64} (hB : mRB ro) (hq : Q (some (.int 97)) (mSH, I, L))  : mWP mTb_ mFT ro (d + 3, 161, 0, [some (.ref 1003), some (.int 2)], [], 0, 0, (mSH, I, L)) Q := by
  have e1 : (ro 13).1 = 5 := (hB 0 (by omega)).1
  have e2 : (ro 13).2 2 = 97 := (hB 0 (by omega)).2 2
  refine mB 1 (s2 := (d + 3, 161, 1, [some (.ref 1003), some (.int 2)], [.ref 1003], 0, 0, (mSH, I, L))) rfl ?_
  refine mCall (s2 := (d + 2, 163, 0, [some (.ref 1003)], [], 0, 0, (mSH, I, L))) rfl ?_
  refine mB 1 (s2 := (d + 2, 163, 3, [some (.ref 1003)], [.int 1], 0, 0, (mSH, I, L))) rfl ?_
  refine mBF (s3 := (d + 2, 163, 6, [some (.ref 1003)], [], 0, 0, (mSH, I, L))) rfl (by decide) ?_
  refine mB 2 (s2 := (d + 2, 163, 10, [some (.ref 1003)], [.int 0], 0, 0, (mSH, I, L))) rfl ?_
  refine mBT (s2 := (d + 2, 163, 13, [some (.ref 1003)], [], 0, 0, (mSH, I, L))) rfl (by decide) ?_
  refine mB 2 (s2 := (d + 2, 163, 18, [some (.ref 1003)], [.int 1], 0, 0, (mSH, I, L))) rfl ?_
  refine mRt (r := (some (.int 1))) (h := (mSH, I, L)) rfl rfl ?_
  show mWP mTb_ mFT ro (d + 3, 161, 4, [some (.ref 1003), some (.int 2)], [.int 1], 0, 0, (mSH, I, L)) _
  refine mBF (s3 := (d + 3, 161, 7, [some (.ref 1003), some (.int 2)], [], 0, 0, (mSH, I, L))) rfl (by decide) ?_
  refine mB 3 (s2 := (d + 3, 161, 12, [some (.ref 1003), some (.int 2)], [.int 2, .ref 1013], 0, 0, (mSH, I, L))) rfl ?_
  refine mCall (s2 := (d + 2, 165, 0, [some (.ref 1013), some (.int 2)], [], 0, 0, (mSH, I, L))) rfl ?_
  refine mB 3 (s2 := (d + 2, 165, 3, [some (.ref 1013), some (.int 2)], [.int (Int32.ofNat (ro 13).1), .int 2], 0, 0, (mSH, I, L))) rfl ?_
  refine mCall (s2 := (d + 1, 164, 0, [some (.int 2), some (.int (Int32.ofNat (ro 13).1))], [], 0, 0, (mSH, I, L))) rfl ?_
  refine mB 2 (s2 := (d + 1, 164, 2, [some (.int 2), some (.int (Int32.ofNat (ro 13).1))], [.int (Int32.ofNat (ro 13).1), .int 2], 0, 0, (mSH, I, L))) rfl ?_
  refine mBr (s2 := (d + 1, 164, 5, [some (.int 2), some (.int (Int32.ofNat (ro 13).1))], [.null, .int (Int32.ofNat (ro 13).1), .int 2], 0, 0, (mSH, I, L))) (s3 := (d + 1, 164, 5, [some (.int 2), some (.int (Int32.ofNat (ro 13).1))], [.ref 1007, .int (Int32.ofNat (ro 13).1), .int 2], 0, 0, (mSH, I, L))) rfl (fun _ => ?_) (fun _ => ?_)
  · refine mCall (s2 := (d, 167, 0, [some (.int 2), some (.int (Int32.ofNat (ro 13).1)), some .null], [], 0, 0, (mSH, I, L))) rfl ?_
    refine mB 1 (s2 := (d, 167, 1, [some (.int 2), some (.int (Int32.ofNat (ro 13).1)), some .null], [.int 2], 0, 0, (mSH, I, L))) rfl ?_
    refine mBF (s3 := (d, 167, 4, [some (.int 2), some (.int (Int32.ofNat (ro 13).1)), some .null], [], 0, 0, (mSH, I, L))) rfl (by decide) ?_
    refine mB 2 (s2 := (d, 167, 6, [some (.int 2), some (.int (Int32.ofNat (ro 13).1)), some .null], [.int (Int32.ofNat (ro 13).1), .int 2], 0, 0, (mSH, I, L))) rfl ?_
    refine mBT (s2 := (d, 167, 16, [some (.int 2), some (.int (Int32.ofNat (ro 13).1)), some .null], [], 0, 0, (mSH, I, L))) rfl (by first | (simp only [e1, e2]; first | decide | rfl) | decide | rfl) ?_
    refine mB 1 (s2 := (d, 167, 17, [some (.int 2), some (.int (Int32.ofNat (ro 13).1)), some .null], [.int 2], 0, 0, (mSH, I, L))) rfl ?_
    refine mRt (r := (some (.int 2))) (h := (mSH, I, L)) rfl (mRet_int rfl) ?_
    show mWP mTb_ mFT ro (d + 1, 164, 8, [some (.int 2), some (.int (Int32.ofNat (ro 13).1))], [.int 2], 0, 0, (mSH, I, L)) _
    refine mB 1 (s2 := (d + 1, 164, 9, [some (.int 2), some (.int (Int32.ofNat (ro 13).1))], [], 0, 0, (mSH, I, L))) rfl ?_
    refine mRt (r := none) (h := (mSH, I, L)) rfl rfl ?_
    show mWP mTb_ mFT ro (d + 2, 165, 6, [some (.ref 1013), some (.int 2)], [], 0, 0, (mSH, I, L)) _
    refine mB 2 (s2 := (d + 2, 165, 8, [some (.ref 1013), some (.int 2)], [.int 2, .ref 1013], 0, 0, (mSH, I, L))) rfl ?_
    refine mRq (s2 := (d + 2, 165, 9, [some (.ref 1013), some (.int 2)], [.int ((ro 13).2 2)], 0, 0, (mSH, I, L))) rfl (by first | (simp only [e1, e2]; first | decide | rfl) | decide | rfl) ?_
    refine mB 3 (s2 := (d + 2, 165, 14, [some (.ref 1013), some (.int 2)], [.int (((((ro 13).2 2) &&& 255).toUInt32 % 65536).toInt32)], 0, 0, (mSH, I, L))) rfl ?_
    refine mRt (r := (some (.int (((((ro 13).2 2) &&& 255).toUInt32 % 65536).toInt32)))) (h := (mSH, I, L)) rfl (by first | (simp only [e1, e2]; first | decide | rfl) | decide | rfl) ?_
    show mWP mTb_ mFT ro (d + 3, 161, 15, [some (.ref 1003), some (.int 2)], [.int (((((ro 13).2 2) &&& 255).toUInt32 % 65536).toInt32)], 0, 0, (mSH, I, L)) _
    refine mRt (r := (some (.int (((((ro 13).2 2) &&& 255).toUInt32 % 65536).toInt32)))) (h := (mSH, I, L)) rfl (by first | (simp only [e1, e2]; first | decide | rfl) | decide | rfl) ?_
    (rw [show ((((ro 13).2 2) &&& 255).toUInt32 % 65536).toInt32 = 97 by rw [e2]; decide]; exact hq)
  · refine mCall (s2 := (d, 167, 0, [some (.int 2), some (.int (Int32.ofNat (ro 13).1)), some (.ref 1007)], [], 0, 0, (mSH, I, L))) rfl ?_
    refine mB 1 (s2 := (d, 167, 1, [some (.int 2), some (.int (Int32.ofNat (ro 13).1)), some (.ref 1007)], [.int 2], 0, 0, (mSH, I, L))) rfl ?_
    refine mBF (s3 := (d, 167, 4, [some (.int 2), some (.int (Int32.ofNat (ro 13).1)), some (.ref 1007)], [], 0, 0, (mSH, I, L))) rfl (by decide) ?_
    refine mB 2 (s2 := (d, 167, 6, [some (.int 2), some (.int (Int32.ofNat (ro 13).1)), some (.ref 1007)], [.int (Int32.ofNat (ro 13).1), .int 2], 0, 0, (mSH, I, L))) rfl ?_
    refine mBT (s2 := (d, 167, 16, [some (.int 2), some (.int (Int32.ofNat (ro 13).1)), some (.ref 1007)], [], 0, 0, (mSH, I, L))) rfl (by first | (simp only [e1, e2]; first | decide | rfl) | decide | rfl) ?_
    refine mB 1 (s2 := (d, 167, 17, [some (.int 2), some (.int (Int32.ofNat (ro 13).1)), some (.ref 1007)], [.int 2], 0, 0, (mSH, I, L))) rfl ?_
    refine mRt (r := (some (.int 2))) (h := (mSH, I, L)) rfl (mRet_int rfl) ?_
    show mWP mTb_ mFT ro (d + 1, 164, 8, [some (.int 2), some (.int (Int32.ofNat (ro 13).1))], [.int 2], 0, 0, (mSH, I, L)) _
    refine mB 1 (s2 := (d + 1, 164, 9, [some (.int 2), some (.int (Int32.ofNat (ro 13).1))], [], 0, 0, (mSH, I, L))) rfl ?_
    refine mRt (r := none) (h := (mSH, I, L)) rfl rfl ?_
    show mWP mTb_ mFT ro (d + 2, 165, 6, [some (.ref 1013), some (.int 2)], [], 0, 0, (mSH, I, L)) _
    refine mB 2 (s2 := (d + 2, 165, 8, [some (.ref 1013), some (.int 2)], [.int 2, .ref 1013], 0, 0, (mSH, I, L))) rfl ?_
    refine mRq (s2 := (d + 2, 165, 9, [some (.ref 1013), some (.int 2)], [.int ((ro 13).2 2)], 0, 0, (mSH, I, L))) rfl (by first | (simp only [e1, e2]; first | decide | rfl) | decide | rfl) ?_
    refine mB 3 (s2 := (d + 2, 165, 14, [some (.ref 1013), some (.int 2)], [.int (((((ro 13).2 2) &&& 255).toUInt32 % 65536).toInt32)], 0, 0, (mSH, I, L))) rfl ?_
    refine mRt (r := (some (.int (((((ro 13).2 2) &&& 255).toUInt32 % 65536).toInt32)))) (h := (mSH, I, L)) rfl (by first | (simp only [e1, e2]; first | decide | rfl) | decide | rfl) ?_
    show mWP mTb_ mFT ro (d + 3, 161, 15, [some (.ref 1003), some (.int 2)], [.int (((((ro 13).2 2) &&& 255).toUInt32 % 65536).toInt32)], 0, 0, (mSH, I, L)) _
    refine mRt (r := (some (.int (((((ro 13).2 2) &&& 255).toUInt32 % 65536).toInt32)))) (h := (mSH, I, L)) rfl (by first | (simp only [e1, e2]; first | decide | rfl) | decide | rfl) ?_
    (rw [show ((((ro 13).2 2) &&& 255).toUInt32 % 65536).toInt32 = 97 by rw [e2]; decide]; exact hq)
theorem w_char_0_3 {ro : Nat → Nat × (Nat → Int32)} {Q : mPo} {d : Nat} {I : Nat → Nat → Int32} {L : Nat → Nat → Int64} (hB : mRB ro) (hq : Q (some (.int 114)) (mSH, I, L))  : mWP mTb_ mFT ro (d + 3, 161, 0, [some (.ref 1003), some (.int 3)], [], 0, 0, (mSH, I, L)) Q := by
  have e1 : (ro 13).1 = 5 := (hB 0 (by omega)).1
  have e2 : (ro 13).2 3 = 114 := (hB 0 (by omega)).2 3
  refine mB 1 (s2 := (d + 3, 161, 1, [some (.ref 1003), some (.int 3)], [.ref 1003], 0, 0, (mSH, I, L))) rfl ?_
  refine mCall (s2 := (d + 2, 163, 0, [some (.ref 1003)], [], 0, 0, (mSH, I, L))) rfl ?_
  refine mB 1 (s2 := (d + 2, 163, 3, [some (.ref 1003)], [.int 1], 0, 0, (mSH, I, L))) rfl ?_
  refine mBF (s3 := (d + 2, 163, 6, [some (.ref 1003)], [], 0, 0, (mSH, I, L))) rfl (by decide) ?_
  refine mB 2 (s2 := (d + 2, 163, 10, [some (.ref 1003)], [.int 0], 0, 0, (mSH, I, L))) rfl ?_
  refine mBT (s2 := (d + 2, 163, 13, [some (.ref 1003)], [], 0, 0, (mSH, I, L))) rfl (by decide) ?_
  refine mB 2 (s2 := (d + 2, 163, 18, [some (.ref 1003)], [.int 1], 0, 0, (mSH, I, L))) rfl ?_
  refine mRt (r := (some (.int 1))) (h := (mSH, I, L)) rfl rfl ?_
  show mWP mTb_ mFT ro (d + 3, 161, 4, [some (.ref 1003), some (.int 3)], [.int 1], 0, 0, (mSH, I, L)) _
  refine mBF (s3 := (d + 3, 161, 7, [some (.ref 1003), some (.int 3)], [], 0, 0, (mSH, I, L))) rfl (by decide) ?_
  refine mB 3 (s2 := (d + 3, 161, 12, [some (.ref 1003), some (.int 3)], [.int 3, .ref 1013], 0, 0, (mSH, I, L))) rfl ?_
  refine mCall (s2 := (d + 2, 165, 0, [some (.ref 1013), some (.int 3)], [], 0, 0, (mSH, I, L))) rfl ?_
  refine mB 3 (s2 := (d + 2, 165, 3, [some (.ref 1013), some (.int 3)], [.int (Int32.ofNat (ro 13).1), .int 3], 0, 0, (mSH, I, L))) rfl ?_
  refine mCall (s2 := (d + 1, 164, 0, [some (.int 3), some (.int (Int32.ofNat (ro 13).1))], [], 0, 0, (mSH, I, L))) rfl ?_
  refine mB 2 (s2 := (d + 1, 164, 2, [some (.int 3), some (.int (Int32.ofNat (ro 13).1))], [.int (Int32.ofNat (ro 13).1), .int 3], 0, 0, (mSH, I, L))) rfl ?_
  refine mBr (s2 := (d + 1, 164, 5, [some (.int 3), some (.int (Int32.ofNat (ro 13).1))], [.null, .int (Int32.ofNat (ro 13).1), .int 3], 0, 0, (mSH, I, L))) (s3 := (d + 1, 164, 5, [some (.int 3), some (.int (Int32.ofNat (ro 13).1))], [.ref 1007, .int (Int32.ofNat (ro 13).1), .int 3], 0, 0, (mSH, I, L))) rfl (fun _ => ?_) (fun _ => ?_)
  · refine mCall (s2 := (d, 167, 0, [some (.int 3), some (.int (Int32.ofNat (ro 13).1)), some .null], [], 0, 0, (mSH, I, L))) rfl ?_
    refine mB 1 (s2 := (d, 167, 1, [some (.int 3), some (.int (Int32.ofNat (ro 13).1)), some .null], [.int 3], 0, 0, (mSH, I, L))) rfl ?_
    refine mBF (s3 := (d, 167, 4, [some (.int 3), some (.int (Int32.ofNat (ro 13).1)), some .null], [], 0, 0, (mSH, I, L))) rfl (by decide) ?_
    refine mB 2 (s2 := (d, 167, 6, [some (.int 3), some (.int (Int32.ofNat (ro 13).1)), some .null], [.int (Int32.ofNat (ro 13).1), .int 3], 0, 0, (mSH, I, L))) rfl ?_
    refine mBT (s2 := (d, 167, 16, [some (.int 3), some (.int (Int32.ofNat (ro 13).1)), some .null], [], 0, 0, (mSH, I, L))) rfl (by first | (simp only [e1, e2]; first | decide | rfl) | decide | rfl) ?_
    refine mB 1 (s2 := (d, 167, 17, [some (.int 3), some (.int (Int32.ofNat (ro 13).1)), some .null], [.int 3], 0, 0, (mSH, I, L))) rfl ?_
    refine mRt (r := (some (.int 3))) (h := (mSH, I, L)) rfl (mRet_int rfl) ?_
    show mWP mTb_ mFT ro (d + 1, 164, 8, [some (.int 3), some (.int (Int32.ofNat (ro 13).1))], [.int 3], 0, 0, (mSH, I, L)) _
    refine mB 1 (s2 := (d + 1, 164, 9, [some (.int 3), some (.int (Int32.ofNat (ro 13).1))], [], 0, 0, (mSH, I, L))) rfl ?_
    refine mRt (r := none) (h := (mSH, I, L)) rfl rfl ?_
    show mWP mTb_ mFT ro (d + 2, 165, 6, [some (.ref 1013), some (.int 3)], [], 0, 0, (mSH, I, L)) _
    refine mB 2 (s2 := (d + 2, 165, 8, [some (.ref 1013), some (.int 3)], [.int 3, .ref 1013], 0, 0, (mSH, I, L))) rfl ?_
    refine mRq (s2 := (d + 2, 165, 9, [some (.ref 1013), some (.int 3)], [.int ((ro 13).2 3)], 0, 0, (mSH, I, L))) rfl (by first | (simp only [e1, e2]; first | decide | rfl) | decide | rfl) ?_
    refine mB 3 (s2 := (d + 2, 165, 14, [some (.ref 1013), some (.int 3)], [.int (((((ro 13).2 3) &&& 255).toUInt32 % 65536).toInt32)], 0, 0, (mSH, I, L))) rfl ?_
    refine mRt (r := (some (.int (((((ro 13).2 3) &&& 255).toUInt32 % 65536).toInt32)))) (h := (mSH, I, L)) rfl (by first | (simp only [e1, e2]; first | decide | rfl) | decide | rfl) ?_
    show mWP mTb_ mFT ro (d + 3, 161, 15, [some (.ref 1003), some (.int 3)], [.int (((((ro 13).2 3) &&& 255).toUInt32 % 65536).toInt32)], 0, 0, (mSH, I, L)) _
    refine mRt (r := (some (.int (((((ro 13).2 3) &&& 255).toUInt32 % 65536).toInt32)))) (h := (mSH, I, L)) rfl (by first | (simp only [e1, e2]; first | decide | rfl) | decide | rfl) ?_
    (rw [show ((((ro 13).2 3) &&& 255).toUInt32 % 65536).toInt32 = 114 by rw [e2]; decide]; exact hq)
  · refine mCall (s2 := (d, 167, 0, [some (.int 3), some (.int (Int32.ofNat (ro 13).1)), some (.ref 1007)], [], 0, 0, (mSH, I, L))) rfl ?_
    refine mB 1 (s2 := (d, 167, 1, [some (.int 3), some (.int (Int32.ofNat (ro 13).1)), some (.ref 1007)], [.int 3], 0, 0, (mSH, I, L))) rfl ?_
    refine mBF (s3 := (d, 167, 4, [some (.int 3), some (.int (Int32.ofNat (ro 13).1)), some (.ref 1007)], [], 0, 0, (mSH, I, L))) rfl (by decide) ?_
    refine mB 2 (s2 := (d, 167, 6, [some (.int 3), some (.int (Int32.ofNat (ro 13).1)), some (.ref 1007)], [.int (Int32.ofNat (ro 13).1), .int 3], 0, 0, (mSH, I, L))) rfl ?_
    refine mBT (s2 := (d, 167, 16, [some (.int 3), some (.int (Int32.ofNat (ro 13).1)), some (.ref 1007)], [], 0, 0, (mSH, I, L))) rfl (by first | (simp only [e1, e2]; first | decide | rfl) | decide | rfl) ?_
    refine mB 1 (s2 := (d, 167, 17, [some (.int 3), some (.int (Int32.ofNat (ro 13).1)), some (.ref 1007)], [.int 3], 0, 0, (mSH, I, L))) rfl ?_
    refine mRt (r := (some (.int 3))) (h := (mSH, I, L)) rfl (mRet_int rfl) ?_
    show mWP mTb_ mFT ro (d + 1, 164, 8, [some (.int 3), some (.int (Int32.ofNat (ro 13).1))], [.int 3], 0, 0, (mSH, I, L)) _
    refine mB 1 (s2 := (d + 1, 164, 9, [some (.int 3), some (.int (Int32.ofNat (ro 13).1))], [], 0, 0, (mSH, I, L))) rfl ?_
    refine mRt (r := none) (h := (mSH, I, L)) rfl rfl ?_
    show mWP mTb_ mFT ro (d + 2, 165, 6, [some (.ref 1013), some (.int 3)], [], 0, 0, (mSH, I, L)) _
    refine mB 2 (s2 := (d + 2, 165, 8, [some (.ref 1013), some (.int 3)], [.int 3, .ref 1013], 0, 0, (mSH, I, L))) rfl ?_
    refine mRq (s2 := (d + 2, 165, 9, [some (.ref 1013), some (.int 3)], [.int ((ro 13).2 3)], 0, 0, (mSH, I, L))) rfl (by first | (simp only [e1, e2]; first | decide | rfl) | decide | rfl) ?_
    refine mB 3 (s2 := (d + 2, 165, 14, [some (.ref 1013), some (.int 3)], [.int (((((ro 13).2 3) &&& 255).toUInt32 % 65536).toInt32)], 0, 0, (mSH, I, L))) rfl ?_
    refine mRt (r := (some (.int (((((ro 13).2 3) &&& 255).toUInt32 % 65536).toInt32)))) (h := (mSH, I, L)) rfl (by first | (simp only [e1, e2]; first | decide | rfl) | decide | rfl) ?_
    show mWP mTb_ mFT ro (d + 3, 161, 15, [some (.ref 1003), some (.int 3)], [.int (((((ro 13).2 3) &&& 255).toUInt32 % 65536).toInt32)], 0, 0, (mSH, I, L)) _
    refine mRt (r := (some (.int (((((ro 13).2 3) &&& 255).toUInt32 % 65536).toInt32)))) (h := (mSH, I, L)) rfl (by first | (simp only [e1, e2]; first | decide | rfl) | decide | rfl) ?_
    (rw [show ((((ro 13).2 3) &&& 255).toUInt32 % 65536).toInt32 = 114 by rw [e2]; decide]; exact hq)
theorem w_char_0_4 {ro : Nat → Nat × (Nat → Int32)} {Q : mPo} {d : Nat} {I : Nat → Nat → Int32} {L : Nat → Nat → Int64} (hB : mRB ro) (hq : Q (some (.int 115)) (mSH, I, L))  : mWP mTb_ mFT ro (d + 3, 161, 0, [some (.ref 1003), some (.int 4)], [], 0, 0, (mSH, I, L)) Q := by
  have e1 : (ro 13).1 = 5 := (hB 0 (by omega)).1
  have e2 : (ro 13).2 4 = 115 := (hB 0 (by omega)).2 4
  refine mB 1 (s2 := (d + 3, 161, 1, [some (.ref 1003), some (.int 4)], [.ref 1003], 0, 0, (mSH, I, L))) rfl ?_
  refine mCall (s2 := (d + 2, 163, 0, [some (.ref 1003)], [], 0, 0, (mSH, I, L))) rfl ?_
  refine mB 1 (s2 := (d + 2, 163, 3, [some (.ref 1003)], [.int 1], 0, 0, (mSH, I, L))) rfl ?_
  refine mBF (s3 := (d + 2, 163, 6, [some (.ref 1003)], [], 0, 0, (mSH, I, L))) rfl (by decide) ?_
  refine mB 2 (s2 := (d + 2, 163, 10, [some (.ref 1003)], [.int 0], 0, 0, (mSH, I, L))) rfl ?_
  refine mBT (s2 := (d + 2, 163, 13, [some (.ref 1003)], [], 0, 0, (mSH, I, L))) rfl (by decide) ?_
  refine mB 2 (s2 := (d + 2, 163, 18, [some (.ref 1003)], [.int 1], 0, 0, (mSH, I, L))) rfl ?_
  refine mRt (r := (some (.int 1))) (h := (mSH, I, L)) rfl rfl ?_
  show mWP mTb_ mFT ro (d + 3, 161, 4, [some (.ref 1003), some (.int 4)], [.int 1], 0, 0, (mSH, I, L)) _
  refine mBF (s3 := (d + 3, 161, 7, [some (.ref 1003), some (.int 4)], [], 0, 0, (mSH, I, L))) rfl (by decide) ?_
  refine mB 3 (s2 := (d + 3, 161, 12, [some (.ref 1003), some (.int 4)], [.int 4, .ref 1013], 0, 0, (mSH, I, L))) rfl ?_
  refine mCall (s2 := (d + 2, 165, 0, [some (.ref 1013), some (.int 4)], [], 0, 0, (mSH, I, L))) rfl ?_
  refine mB 3 (s2 := (d + 2, 165, 3, [some (.ref 1013), some (.int 4)], [.int (Int32.ofNat (ro 13).1), .int 4], 0, 0, (mSH, I, L))) rfl ?_
  refine mCall (s2 := (d + 1, 164, 0, [some (.int 4), some (.int (Int32.ofNat (ro 13).1))], [], 0, 0, (mSH, I, L))) rfl ?_
  refine mB 2 (s2 := (d + 1, 164, 2, [some (.int 4), some (.int (Int32.ofNat (ro 13).1))], [.int (Int32.ofNat (ro 13).1), .int 4], 0, 0, (mSH, I, L))) rfl ?_
  refine mBr (s2 := (d + 1, 164, 5, [some (.int 4), some (.int (Int32.ofNat (ro 13).1))], [.null, .int (Int32.ofNat (ro 13).1), .int 4], 0, 0, (mSH, I, L))) (s3 := (d + 1, 164, 5, [some (.int 4), some (.int (Int32.ofNat (ro 13).1))], [.ref 1007, .int (Int32.ofNat (ro 13).1), .int 4], 0, 0, (mSH, I, L))) rfl (fun _ => ?_) (fun _ => ?_)
  · refine mCall (s2 := (d, 167, 0, [some (.int 4), some (.int (Int32.ofNat (ro 13).1)), some .null], [], 0, 0, (mSH, I, L))) rfl ?_
    refine mB 1 (s2 := (d, 167, 1, [some (.int 4), some (.int (Int32.ofNat (ro 13).1)), some .null], [.int 4], 0, 0, (mSH, I, L))) rfl ?_
    refine mBF (s3 := (d, 167, 4, [some (.int 4), some (.int (Int32.ofNat (ro 13).1)), some .null], [], 0, 0, (mSH, I, L))) rfl (by decide) ?_
    refine mB 2 (s2 := (d, 167, 6, [some (.int 4), some (.int (Int32.ofNat (ro 13).1)), some .null], [.int (Int32.ofNat (ro 13).1), .int 4], 0, 0, (mSH, I, L))) rfl ?_
    refine mBT (s2 := (d, 167, 16, [some (.int 4), some (.int (Int32.ofNat (ro 13).1)), some .null], [], 0, 0, (mSH, I, L))) rfl (by first | (simp only [e1, e2]; first | decide | rfl) | decide | rfl) ?_
    refine mB 1 (s2 := (d, 167, 17, [some (.int 4), some (.int (Int32.ofNat (ro 13).1)), some .null], [.int 4], 0, 0, (mSH, I, L))) rfl ?_
    refine mRt (r := (some (.int 4))) (h := (mSH, I, L)) rfl (mRet_int rfl) ?_
    show mWP mTb_ mFT ro (d + 1, 164, 8, [some (.int 4), some (.int (Int32.ofNat (ro 13).1))], [.int 4], 0, 0, (mSH, I, L)) _
    refine mB 1 (s2 := (d + 1, 164, 9, [some (.int 4), some (.int (Int32.ofNat (ro 13).1))], [], 0, 0, (mSH, I, L))) rfl ?_
    refine mRt (r := none) (h := (mSH, I, L)) rfl rfl ?_
    show mWP mTb_ mFT ro (d + 2, 165, 6, [some (.ref 1013), some (.int 4)], [], 0, 0, (mSH, I, L)) _
    refine mB 2 (s2 := (d + 2, 165, 8, [some (.ref 1013), some (.int 4)], [.int 4, .ref 1013], 0, 0, (mSH, I, L))) rfl ?_
    refine mRq (s2 := (d + 2, 165, 9, [some (.ref 1013), some (.int 4)], [.int ((ro 13).2 4)], 0, 0, (mSH, I, L))) rfl (by first | (simp only [e1, e2]; first | decide | rfl) | decide | rfl) ?_
    refine mB 3 (s2 := (d + 2, 165, 14, [some (.ref 1013), some (.int 4)], [.int (((((ro 13).2 4) &&& 255).toUInt32 % 65536).toInt32)], 0, 0, (mSH, I, L))) rfl ?_
    refine mRt (r := (some (.int (((((ro 13).2 4) &&& 255).toUInt32 % 65536).toInt32)))) (h := (mSH, I, L)) rfl (by first | (simp only [e1, e2]; first | decide | rfl) | decide | rfl) ?_
    show mWP mTb_ mFT ro (d + 3, 161, 15, [some (.ref 1003), some (.int 4)], [.int (((((ro 13).2 4) &&& 255).toUInt32 % 65536).toInt32)], 0, 0, (mSH, I, L)) _
    refine mRt (r := (some (.int (((((ro 13).2 4) &&& 255).toUInt32 % 65536).toInt32)))) (h := (mSH, I, L)) rfl (by first | (simp only [e1, e2]; first | decide | rfl) | decide | rfl) ?_
    (rw [show ((((ro 13).2 4) &&& 255).toUInt32 % 65536).toInt32 = 115 by rw [e2]; decide]; exact hq)
  · refine mCall (s2 := (d, 167, 0, [some (.int 4), some (.int (Int32.ofNat (ro 13).1)), some (.ref 1007)], [], 0, 0, (mSH, I, L))) rfl ?_
    refine mB 1 (s2 := (d, 167, 1, [some (.int 4), some (.int (Int32.ofNat (ro 13).1)), some (.ref 1007)], [.int 4], 0, 0, (mSH, I, L))) rfl ?_
    refine mBF (s3 := (d, 167, 4, [some (.int 4), some (.int (Int32.ofNat (ro 13).1)), some (.ref 1007)], [], 0, 0, (mSH, I, L))) rfl (by decide) ?_
    refine mB 2 (s2 := (d, 167, 6, [some (.int 4), some (.int (Int32.ofNat (ro 13).1)), some (.ref 1007)], [.int (Int32.ofNat (ro 13).1), .int 4], 0, 0, (mSH, I, L))) rfl ?_
    refine mBT (s2 := (d, 167, 16, [some (.int 4), some (.int (Int32.ofNat (ro 13).1)), some (.ref 1007)], [], 0, 0, (mSH, I, L))) rfl (by first | (simp only [e1, e2]; first | decide | rfl) | decide | rfl) ?_
    refine mB 1 (s2 := (d, 167, 17, [some (.int 4), some (.int (Int32.ofNat (ro 13).1)), some (.ref 1007)], [.int 4], 0, 0, (mSH, I, L))) rfl ?_
    refine mRt (r := (some (.int 4))) (h := (mSH, I, L)) rfl (mRet_int rfl) ?_
    show mWP mTb_ mFT ro (d + 1, 164, 8, [some (.int 4), some (.int (Int32.ofNat (ro 13).1))], [.int 4], 0, 0, (mSH, I, L)) _
    refine mB 1 (s2 := (d + 1, 164, 9, [some (.int 4), some (.int (Int32.ofNat (ro 13).1))], [], 0, 0, (mSH, I, L))) rfl ?_
    refine mRt (r := none) (h := (mSH, I, L)) rfl rfl ?_
    show mWP mTb_ mFT ro (d + 2, 165, 6, [some (.ref 1013), some (.int 4)], [], 0, 0, (mSH, I, L)) _
    refine mB 2 (s2 := (d + 2, 165, 8, [some (.ref 1013), some (.int 4)], [.int 4, .ref 1013], 0, 0, (mSH, I, L))) rfl ?_
    refine mRq (s2 := (d + 2, 165, 9, [some (.ref 1013), some (.int 4)], [.int ((ro 13).2 4)], 0, 0, (mSH, I, L))) rfl (by first | (simp only [e1, e2]; first | decide | rfl) | decide | rfl) ?_
    refine mB 3 (s2 := (d + 2, 165, 14, [some (.ref 1013), some (.int 4)], [.int (((((ro 13).2 4) &&& 255).toUInt32 % 65536).toInt32)], 0, 0, (mSH, I, L))) rfl ?_
    refine mRt (r := (some (.int (((((ro 13).2 4) &&& 255).toUInt32 % 65536).toInt32)))) (h := (mSH, I, L)) rfl (by first | (simp only [e1, e2]; first | decide | rfl) | decide | rfl) ?_
    show mWP mTb_ mFT ro (d + 3, 161, 15, [some (.ref 1003), some (.int 4)], [.int (((((ro 13).2 4) &&& 255).toUInt32 % 65536).toInt32)], 0, 0, (mSH, I, L)) _
    refine mRt (r := (some (.int (((((ro 13).2 4) &&& 255).toUInt32 % 65536).toInt32)))) (h := (mSH, I, L)) rfl (by first | (simp only [e1, e2]; first | decide | rfl) | decide | rfl) ?_
    (rw [show ((((ro 13).2 4) &&& 255).toUInt32 % 65536).toInt32 = 115 by rw [e2]; decide]; exact hq)
theorem w_len_1 {ro : Nat → Nat × (Nat → Int32)} {Q : mPo} {d : Nat} {I : Nat → Nat → Int32} {L : Nat → Nat → Int64} (hB : mRB ro) (hq : Q (some (.int 4)) (mSH, I, L))  : mWP mTb_ mFT ro (d + 1, 160, 0, [some (.ref 1004)], [], 0, 0, (mSH, I, L)) Q := by
  have e1 : (ro 14).1 = 4 := (hB 1 (by omega)).1
  refine mB 4 (s2 := (d + 1, 160, 6, [some (.ref 1004)], [.ref 1004, .int (Int32.ofNat (ro 14).1)], 0, 0, (mSH, I, L))) rfl ?_
  refine mCall (s2 := (d, 162, 0, [some (.ref 1004)], [], 0, 0, (mSH, I, L))) rfl ?_
  refine mB 1 (s2 := (d, 162, 3, [some (.ref 1004)], [.int 1], 0, 0, (mSH, I, L))) rfl ?_
  refine mBF (s3 := (d, 162, 6, [some (.ref 1004)], [], 0, 0, (mSH, I, L))) rfl (by decide) ?_
  refine mB 3 (s2 := (d, 162, 14, [some (.ref 1004)], [.int 0], 0, 0, (mSH, I, L))) rfl ?_
  refine mRt (r := (some (.int 0))) (h := (mSH, I, L)) rfl rfl ?_
  show mWP mTb_ mFT ro (d + 1, 160, 9, [some (.ref 1004)], [.int 0, .int (Int32.ofNat (ro 14).1)], 0, 0, (mSH, I, L)) _
  refine mB 1 (s2 := (d + 1, 160, 10, [some (.ref 1004)], [.int ((Int32.ofNat (ro 14).1) >>> (0 &&& 31))], 0, 0, (mSH, I, L))) rfl ?_
  refine mRt (r := (some (.int ((Int32.ofNat (ro 14).1) >>> (0 &&& 31))))) (h := (mSH, I, L)) rfl (mRet_int rfl) ?_
  (rw [show (Int32.ofNat (ro 14).1) >>> (0 &&& 31) = 4 by rw [e1]; decide]; exact hq)
theorem w_char_1_0 {ro : Nat → Nat × (Nat → Int32)} {Q : mPo} {d : Nat} {I : Nat → Nat → Int32} {L : Nat → Nat → Int64} (hB : mRB ro) (hq : Q (some (.int 99)) (mSH, I, L))  : mWP mTb_ mFT ro (d + 3, 161, 0, [some (.ref 1004), some (.int 0)], [], 0, 0, (mSH, I, L)) Q := by
  have e1 : (ro 14).1 = 4 := (hB 1 (by omega)).1
  have e2 : (ro 14).2 0 = 99 := (hB 1 (by omega)).2 0
  refine mB 1 (s2 := (d + 3, 161, 1, [some (.ref 1004), some (.int 0)], [.ref 1004], 0, 0, (mSH, I, L))) rfl ?_
  refine mCall (s2 := (d + 2, 163, 0, [some (.ref 1004)], [], 0, 0, (mSH, I, L))) rfl ?_
  refine mB 1 (s2 := (d + 2, 163, 3, [some (.ref 1004)], [.int 1], 0, 0, (mSH, I, L))) rfl ?_
  refine mBF (s3 := (d + 2, 163, 6, [some (.ref 1004)], [], 0, 0, (mSH, I, L))) rfl (by decide) ?_
  refine mB 2 (s2 := (d + 2, 163, 10, [some (.ref 1004)], [.int 0], 0, 0, (mSH, I, L))) rfl ?_
  refine mBT (s2 := (d + 2, 163, 13, [some (.ref 1004)], [], 0, 0, (mSH, I, L))) rfl (by decide) ?_
  refine mB 2 (s2 := (d + 2, 163, 18, [some (.ref 1004)], [.int 1], 0, 0, (mSH, I, L))) rfl ?_
  refine mRt (r := (some (.int 1))) (h := (mSH, I, L)) rfl rfl ?_
  show mWP mTb_ mFT ro (d + 3, 161, 4, [some (.ref 1004), some (.int 0)], [.int 1], 0, 0, (mSH, I, L)) _
  refine mBF (s3 := (d + 3, 161, 7, [some (.ref 1004), some (.int 0)], [], 0, 0, (mSH, I, L))) rfl (by decide) ?_
  refine mB 3 (s2 := (d + 3, 161, 12, [some (.ref 1004), some (.int 0)], [.int 0, .ref 1014], 0, 0, (mSH, I, L))) rfl ?_
  refine mCall (s2 := (d + 2, 165, 0, [some (.ref 1014), some (.int 0)], [], 0, 0, (mSH, I, L))) rfl ?_
  refine mB 3 (s2 := (d + 2, 165, 3, [some (.ref 1014), some (.int 0)], [.int (Int32.ofNat (ro 14).1), .int 0], 0, 0, (mSH, I, L))) rfl ?_
  refine mCall (s2 := (d + 1, 164, 0, [some (.int 0), some (.int (Int32.ofNat (ro 14).1))], [], 0, 0, (mSH, I, L))) rfl ?_
  refine mB 2 (s2 := (d + 1, 164, 2, [some (.int 0), some (.int (Int32.ofNat (ro 14).1))], [.int (Int32.ofNat (ro 14).1), .int 0], 0, 0, (mSH, I, L))) rfl ?_
  refine mBr (s2 := (d + 1, 164, 5, [some (.int 0), some (.int (Int32.ofNat (ro 14).1))], [.null, .int (Int32.ofNat (ro 14).1), .int 0], 0, 0, (mSH, I, L))) (s3 := (d + 1, 164, 5, [some (.int 0), some (.int (Int32.ofNat (ro 14).1))], [.ref 1007, .int (Int32.ofNat (ro 14).1), .int 0], 0, 0, (mSH, I, L))) rfl (fun _ => ?_) (fun _ => ?_)
  · refine mCall (s2 := (d, 167, 0, [some (.int 0), some (.int (Int32.ofNat (ro 14).1)), some .null], [], 0, 0, (mSH, I, L))) rfl ?_
    refine mB 1 (s2 := (d, 167, 1, [some (.int 0), some (.int (Int32.ofNat (ro 14).1)), some .null], [.int 0], 0, 0, (mSH, I, L))) rfl ?_
    refine mBF (s3 := (d, 167, 4, [some (.int 0), some (.int (Int32.ofNat (ro 14).1)), some .null], [], 0, 0, (mSH, I, L))) rfl (by decide) ?_
    refine mB 2 (s2 := (d, 167, 6, [some (.int 0), some (.int (Int32.ofNat (ro 14).1)), some .null], [.int (Int32.ofNat (ro 14).1), .int 0], 0, 0, (mSH, I, L))) rfl ?_
    refine mBT (s2 := (d, 167, 16, [some (.int 0), some (.int (Int32.ofNat (ro 14).1)), some .null], [], 0, 0, (mSH, I, L))) rfl (by first | (simp only [e1, e2]; first | decide | rfl) | decide | rfl) ?_
    refine mB 1 (s2 := (d, 167, 17, [some (.int 0), some (.int (Int32.ofNat (ro 14).1)), some .null], [.int 0], 0, 0, (mSH, I, L))) rfl ?_
    refine mRt (r := (some (.int 0))) (h := (mSH, I, L)) rfl (mRet_int rfl) ?_
    show mWP mTb_ mFT ro (d + 1, 164, 8, [some (.int 0), some (.int (Int32.ofNat (ro 14).1))], [.int 0], 0, 0, (mSH, I, L)) _
    refine mB 1 (s2 := (d + 1, 164, 9, [some (.int 0), some (.int (Int32.ofNat (ro 14).1))], [], 0, 0, (mSH, I, L))) rfl ?_
    refine mRt (r := none) (h := (mSH, I, L)) rfl rfl ?_
    show mWP mTb_ mFT ro (d + 2, 165, 6, [some (.ref 1014), some (.int 0)], [], 0, 0, (mSH, I, L)) _
    refine mB 2 (s2 := (d + 2, 165, 8, [some (.ref 1014), some (.int 0)], [.int 0, .ref 1014], 0, 0, (mSH, I, L))) rfl ?_
    refine mRq (s2 := (d + 2, 165, 9, [some (.ref 1014), some (.int 0)], [.int ((ro 14).2 0)], 0, 0, (mSH, I, L))) rfl (by first | (simp only [e1, e2]; first | decide | rfl) | decide | rfl) ?_
    refine mB 3 (s2 := (d + 2, 165, 14, [some (.ref 1014), some (.int 0)], [.int (((((ro 14).2 0) &&& 255).toUInt32 % 65536).toInt32)], 0, 0, (mSH, I, L))) rfl ?_
    refine mRt (r := (some (.int (((((ro 14).2 0) &&& 255).toUInt32 % 65536).toInt32)))) (h := (mSH, I, L)) rfl (by first | (simp only [e1, e2]; first | decide | rfl) | decide | rfl) ?_
    show mWP mTb_ mFT ro (d + 3, 161, 15, [some (.ref 1004), some (.int 0)], [.int (((((ro 14).2 0) &&& 255).toUInt32 % 65536).toInt32)], 0, 0, (mSH, I, L)) _
    refine mRt (r := (some (.int (((((ro 14).2 0) &&& 255).toUInt32 % 65536).toInt32)))) (h := (mSH, I, L)) rfl (by first | (simp only [e1, e2]; first | decide | rfl) | decide | rfl) ?_
    (rw [show ((((ro 14).2 0) &&& 255).toUInt32 % 65536).toInt32 = 99 by rw [e2]; decide]; exact hq)
  · refine mCall (s2 := (d, 167, 0, [some (.int 0), some (.int (Int32.ofNat (ro 14).1)), some (.ref 1007)], [], 0, 0, (mSH, I, L))) rfl ?_
    refine mB 1 (s2 := (d, 167, 1, [some (.int 0), some (.int (Int32.ofNat (ro 14).1)), some (.ref 1007)], [.int 0], 0, 0, (mSH, I, L))) rfl ?_
    refine mBF (s3 := (d, 167, 4, [some (.int 0), some (.int (Int32.ofNat (ro 14).1)), some (.ref 1007)], [], 0, 0, (mSH, I, L))) rfl (by decide) ?_
    refine mB 2 (s2 := (d, 167, 6, [some (.int 0), some (.int (Int32.ofNat (ro 14).1)), some (.ref 1007)], [.int (Int32.ofNat (ro 14).1), .int 0], 0, 0, (mSH, I, L))) rfl ?_
    refine mBT (s2 := (d, 167, 16, [some (.int 0), some (.int (Int32.ofNat (ro 14).1)), some (.ref 1007)], [], 0, 0, (mSH, I, L))) rfl (by first | (simp only [e1, e2]; first | decide | rfl) | decide | rfl) ?_
    refine mB 1 (s2 := (d, 167, 17, [some (.int 0), some (.int (Int32.ofNat (ro 14).1)), some (.ref 1007)], [.int 0], 0, 0, (mSH, I, L))) rfl ?_
    refine mRt (r := (some (.int 0))) (h := (mSH, I, L)) rfl (mRet_int rfl) ?_
    show mWP mTb_ mFT ro (d + 1, 164, 8, [some (.int 0), some (.int (Int32.ofNat (ro 14).1))], [.int 0], 0, 0, (mSH, I, L)) _
    refine mB 1 (s2 := (d + 1, 164, 9, [some (.int 0), some (.int (Int32.ofNat (ro 14).1))], [], 0, 0, (mSH, I, L))) rfl ?_
    refine mRt (r := none) (h := (mSH, I, L)) rfl rfl ?_
    show mWP mTb_ mFT ro (d + 2, 165, 6, [some (.ref 1014), some (.int 0)], [], 0, 0, (mSH, I, L)) _
    refine mB 2 (s2 := (d + 2, 165, 8, [some (.ref 1014), some (.int 0)], [.int 0, .ref 1014], 0, 0, (mSH, I, L))) rfl ?_
    refine mRq (s2 := (d + 2, 165, 9, [some (.ref 1014), some (.int 0)], [.int ((ro 14).2 0)], 0, 0, (mSH, I, L))) rfl (by first | (simp only [e1, e2]; first | decide | rfl) | decide | rfl) ?_
    refine mB 3 (s2 := (d + 2, 165, 14, [some (.ref 1014), some (.int 0)], [.int (((((ro 14).2 0) &&& 255).toUInt32 % 65536).toInt32)], 0, 0, (mSH, I, L))) rfl ?_
    refine mRt (r := (some (.int (((((ro 14).2 0) &&& 255).toUInt32 % 65536).toInt32)))) (h := (mSH, I, L)) rfl (by first | (simp only [e1, e2]; first | decide | rfl) | decide | rfl) ?_
    show mWP mTb_ mFT ro (d + 3, 161, 15, [some (.ref 1004), some (.int 0)], [.int (((((ro 14).2 0) &&& 255).toUInt32 % 65536).toInt32)], 0, 0, (mSH, I, L)) _
    refine mRt (r := (some (.int (((((ro 14).2 0) &&& 255).toUInt32 % 65536).toInt32)))) (h := (mSH, I, L)) rfl (by first | (simp only [e1, e2]; first | decide | rfl) | decide | rfl) ?_
    (rw [show ((((ro 14).2 0) &&& 255).toUInt32 % 65536).toInt32 = 99 by rw [e2]; decide]; exact hq)
theorem w_char_1_1 {ro : Nat → Nat × (Nat → Int32)} {Q : mPo} {d : Nat} {I : Nat → Nat → Int32} {L : Nat → Nat → Int64} (hB : mRB ro) (hq : Q (some (.int 111)) (mSH, I, L))  : mWP mTb_ mFT ro (d + 3, 161, 0, [some (.ref 1004), some (.int 1)], [], 0, 0, (mSH, I, L)) Q := by
  have e1 : (ro 14).1 = 4 := (hB 1 (by omega)).1
  have e2 : (ro 14).2 1 = 111 := (hB 1 (by omega)).2 1
  refine mB 1 (s2 := (d + 3, 161, 1, [some (.ref 1004), some (.int 1)], [.ref 1004], 0, 0, (mSH, I, L))) rfl ?_
  refine mCall (s2 := (d + 2, 163, 0, [some (.ref 1004)], [], 0, 0, (mSH, I, L))) rfl ?_
  refine mB 1 (s2 := (d + 2, 163, 3, [some (.ref 1004)], [.int 1], 0, 0, (mSH, I, L))) rfl ?_
  refine mBF (s3 := (d + 2, 163, 6, [some (.ref 1004)], [], 0, 0, (mSH, I, L))) rfl (by decide) ?_
  refine mB 2 (s2 := (d + 2, 163, 10, [some (.ref 1004)], [.int 0], 0, 0, (mSH, I, L))) rfl ?_
  refine mBT (s2 := (d + 2, 163, 13, [some (.ref 1004)], [], 0, 0, (mSH, I, L))) rfl (by decide) ?_
  refine mB 2 (s2 := (d + 2, 163, 18, [some (.ref 1004)], [.int 1], 0, 0, (mSH, I, L))) rfl ?_
  refine mRt (r := (some (.int 1))) (h := (mSH, I, L)) rfl rfl ?_
  show mWP mTb_ mFT ro (d + 3, 161, 4, [some (.ref 1004), some (.int 1)], [.int 1], 0, 0, (mSH, I, L)) _
  refine mBF (s3 := (d + 3, 161, 7, [some (.ref 1004), some (.int 1)], [], 0, 0, (mSH, I, L))) rfl (by decide) ?_
  refine mB 3 (s2 := (d + 3, 161, 12, [some (.ref 1004), some (.int 1)], [.int 1, .ref 1014], 0, 0, (mSH, I, L))) rfl ?_
  refine mCall (s2 := (d + 2, 165, 0, [some (.ref 1014), some (.int 1)], [], 0, 0, (mSH, I, L))) rfl ?_
  refine mB 3 (s2 := (d + 2, 165, 3, [some (.ref 1014), some (.int 1)], [.int (Int32.ofNat (ro 14).1), .int 1], 0, 0, (mSH, I, L))) rfl ?_
  refine mCall (s2 := (d + 1, 164, 0, [some (.int 1), some (.int (Int32.ofNat (ro 14).1))], [], 0, 0, (mSH, I, L))) rfl ?_
  refine mB 2 (s2 := (d + 1, 164, 2, [some (.int 1), some (.int (Int32.ofNat (ro 14).1))], [.int (Int32.ofNat (ro 14).1), .int 1], 0, 0, (mSH, I, L))) rfl ?_
  refine mBr (s2 := (d + 1, 164, 5, [some (.int 1), some (.int (Int32.ofNat (ro 14).1))], [.null, .int (Int32.ofNat (ro 14).1), .int 1], 0, 0, (mSH, I, L))) (s3 := (d + 1, 164, 5, [some (.int 1), some (.int (Int32.ofNat (ro 14).1))], [.ref 1007, .int (Int32.ofNat (ro 14).1), .int 1], 0, 0, (mSH, I, L))) rfl (fun _ => ?_) (fun _ => ?_)
  · refine mCall (s2 := (d, 167, 0, [some (.int 1), some (.int (Int32.ofNat (ro 14).1)), some .null], [], 0, 0, (mSH, I, L))) rfl ?_
    refine mB 1 (s2 := (d, 167, 1, [some (.int 1), some (.int (Int32.ofNat (ro 14).1)), some .null], [.int 1], 0, 0, (mSH, I, L))) rfl ?_
    refine mBF (s3 := (d, 167, 4, [some (.int 1), some (.int (Int32.ofNat (ro 14).1)), some .null], [], 0, 0, (mSH, I, L))) rfl (by decide) ?_
    refine mB 2 (s2 := (d, 167, 6, [some (.int 1), some (.int (Int32.ofNat (ro 14).1)), some .null], [.int (Int32.ofNat (ro 14).1), .int 1], 0, 0, (mSH, I, L))) rfl ?_
    refine mBT (s2 := (d, 167, 16, [some (.int 1), some (.int (Int32.ofNat (ro 14).1)), some .null], [], 0, 0, (mSH, I, L))) rfl (by first | (simp only [e1, e2]; first | decide | rfl) | decide | rfl) ?_
    refine mB 1 (s2 := (d, 167, 17, [some (.int 1), some (.int (Int32.ofNat (ro 14).1)), some .null], [.int 1], 0, 0, (mSH, I, L))) rfl ?_
    refine mRt (r := (some (.int 1))) (h := (mSH, I, L)) rfl (mRet_int rfl) ?_
    show mWP mTb_ mFT ro (d + 1, 164, 8, [some (.int 1), some (.int (Int32.ofNat (ro 14).1))], [.int 1], 0, 0, (mSH, I, L)) _
    refine mB 1 (s2 := (d + 1, 164, 9, [some (.int 1), some (.int (Int32.ofNat (ro 14).1))], [], 0, 0, (mSH, I, L))) rfl ?_
    refine mRt (r := none) (h := (mSH, I, L)) rfl rfl ?_
    show mWP mTb_ mFT ro (d + 2, 165, 6, [some (.ref 1014), some (.int 1)], [], 0, 0, (mSH, I, L)) _
    refine mB 2 (s2 := (d + 2, 165, 8, [some (.ref 1014), some (.int 1)], [.int 1, .ref 1014], 0, 0, (mSH, I, L))) rfl ?_
    refine mRq (s2 := (d + 2, 165, 9, [some (.ref 1014), some (.int 1)], [.int ((ro 14).2 1)], 0, 0, (mSH, I, L))) rfl (by first | (simp only [e1, e2]; first | decide | rfl) | decide | rfl) ?_
    refine mB 3 (s2 := (d + 2, 165, 14, [some (.ref 1014), some (.int 1)], [.int (((((ro 14).2 1) &&& 255).toUInt32 % 65536).toInt32)], 0, 0, (mSH, I, L))) rfl ?_
    refine mRt (r := (some (.int (((((ro 14).2 1) &&& 255).toUInt32 % 65536).toInt32)))) (h := (mSH, I, L)) rfl (by first | (simp only [e1, e2]; first | decide | rfl) | decide | rfl) ?_
    show mWP mTb_ mFT ro (d + 3, 161, 15, [some (.ref 1004), some (.int 1)], [.int (((((ro 14).2 1) &&& 255).toUInt32 % 65536).toInt32)], 0, 0, (mSH, I, L)) _
    refine mRt (r := (some (.int (((((ro 14).2 1) &&& 255).toUInt32 % 65536).toInt32)))) (h := (mSH, I, L)) rfl (by first | (simp only [e1, e2]; first | decide | rfl) | decide | rfl) ?_
    (rw [show ((((ro 14).2 1) &&& 255).toUInt32 % 65536).toInt32 = 111 by rw [e2]; decide]; exact hq)
  · refine mCall (s2 := (d, 167, 0, [some (.int 1), some (.int (Int32.ofNat (ro 14).1)), some (.ref 1007)], [], 0, 0, (mSH, I, L))) rfl ?_
    refine mB 1 (s2 := (d, 167, 1, [some (.int 1), some (.int (Int32.ofNat (ro 14).1)), some (.ref 1007)], [.int 1], 0, 0, (mSH, I, L))) rfl ?_
    refine mBF (s3 := (d, 167, 4, [some (.int 1), some (.int (Int32.ofNat (ro 14).1)), some (.ref 1007)], [], 0, 0, (mSH, I, L))) rfl (by decide) ?_
    refine mB 2 (s2 := (d, 167, 6, [some (.int 1), some (.int (Int32.ofNat (ro 14).1)), some (.ref 1007)], [.int (Int32.ofNat (ro 14).1), .int 1], 0, 0, (mSH, I, L))) rfl ?_
    refine mBT (s2 := (d, 167, 16, [some (.int 1), some (.int (Int32.ofNat (ro 14).1)), some (.ref 1007)], [], 0, 0, (mSH, I, L))) rfl (by first | (simp only [e1, e2]; first | decide | rfl) | decide | rfl) ?_
    refine mB 1 (s2 := (d, 167, 17, [some (.int 1), some (.int (Int32.ofNat (ro 14).1)), some (.ref 1007)], [.int 1], 0, 0, (mSH, I, L))) rfl ?_
    refine mRt (r := (some (.int 1))) (h := (mSH, I, L)) rfl (mRet_int rfl) ?_
    show mWP mTb_ mFT ro (d + 1, 164, 8, [some (.int 1), some (.int (Int32.ofNat (ro 14).1))], [.int 1], 0, 0, (mSH, I, L)) _
    refine mB 1 (s2 := (d + 1, 164, 9, [some (.int 1), some (.int (Int32.ofNat (ro 14).1))], [], 0, 0, (mSH, I, L))) rfl ?_
    refine mRt (r := none) (h := (mSH, I, L)) rfl rfl ?_
    show mWP mTb_ mFT ro (d + 2, 165, 6, [some (.ref 1014), some (.int 1)], [], 0, 0, (mSH, I, L)) _
    refine mB 2 (s2 := (d + 2, 165, 8, [some (.ref 1014), some (.int 1)], [.int 1, .ref 1014], 0, 0, (mSH, I, L))) rfl ?_
    refine mRq (s2 := (d + 2, 165, 9, [some (.ref 1014), some (.int 1)], [.int ((ro 14).2 1)], 0, 0, (mSH, I, L))) rfl (by first | (simp only [e1, e2]; first | decide | rfl) | decide | rfl) ?_
    refine mB 3 (s2 := (d + 2, 165, 14, [some (.ref 1014), some (.int 1)], [.int (((((ro 14).2 1) &&& 255).toUInt32 % 65536).toInt32)], 0, 0, (mSH, I, L))) rfl ?_
    refine mRt (r := (some (.int (((((ro 14).2 1) &&& 255).toUInt32 % 65536).toInt32)))) (h := (mSH, I, L)) rfl (by first | (simp only [e1, e2]; first | decide | rfl) | decide | rfl) ?_
    show mWP mTb_ mFT ro (d + 3, 161, 15, [some (.ref 1004), some (.int 1)], [.int (((((ro 14).2 1) &&& 255).toUInt32 % 65536).toInt32)], 0, 0, (mSH, I, L)) _
    refine mRt (r := (some (.int (((((ro 14).2 1) &&& 255).toUInt32 % 65536).toInt32)))) (h := (mSH, I, L)) rfl (by first | (simp only [e1, e2]; first | decide | rfl) | decide | rfl) ?_
    (rw [show ((((ro 14).2 1) &&& 255).toUInt32 % 65536).toInt32 = 111 by rw [e2]; decide]; exact hq)
theorem w_char_1_2 {ro : Nat → Nat × (Nat → Int32)} {Q : mPo} {d : Nat} {I : Nat → Nat → Int32} {L : Nat → Nat → Int64} (hB : mRB ro) (hq : Q (some (.int 114)) (mSH, I, L))  : mWP mTb_ mFT ro (d + 3, 161, 0, [some (.ref 1004), some (.int 2)], [], 0, 0, (mSH, I, L)) Q := by
  have e1 : (ro 14).1 = 4 := (hB 1 (by omega)).1
  have e2 : (ro 14).2 2 = 114 := (hB 1 (by omega)).2 2
  refine mB 1 (s2 := (d + 3, 161, 1, [some (.ref 1004), some (.int 2)], [.ref 1004], 0, 0, (mSH, I, L))) rfl ?_
  refine mCall (s2 := (d + 2, 163, 0, [some (.ref 1004)], [], 0, 0, (mSH, I, L))) rfl ?_
  refine mB 1 (s2 := (d + 2, 163, 3, [some (.ref 1004)], [.int 1], 0, 0, (mSH, I, L))) rfl ?_
  refine mBF (s3 := (d + 2, 163, 6, [some (.ref 1004)], [], 0, 0, (mSH, I, L))) rfl (by decide) ?_
  refine mB 2 (s2 := (d + 2, 163, 10, [some (.ref 1004)], [.int 0], 0, 0, (mSH, I, L))) rfl ?_
  refine mBT (s2 := (d + 2, 163, 13, [some (.ref 1004)], [], 0, 0, (mSH, I, L))) rfl (by decide) ?_
  refine mB 2 (s2 := (d + 2, 163, 18, [some (.ref 1004)], [.int 1], 0, 0, (mSH, I, L))) rfl ?_
  refine mRt (r := (some (.int 1))) (h := (mSH, I, L)) rfl rfl ?_
  show mWP mTb_ mFT ro (d + 3, 161, 4, [some (.ref 1004), some (.int 2)], [.int 1], 0, 0, (mSH, I, L)) _
  refine mBF (s3 := (d + 3, 161, 7, [some (.ref 1004), some (.int 2)], [], 0, 0, (mSH, I, L))) rfl (by decide) ?_
  refine mB 3 (s2 := (d + 3, 161, 12, [some (.ref 1004), some (.int 2)], [.int 2, .ref 1014], 0, 0, (mSH, I, L))) rfl ?_
  refine mCall (s2 := (d + 2, 165, 0, [some (.ref 1014), some (.int 2)], [], 0, 0, (mSH, I, L))) rfl ?_
  refine mB 3 (s2 := (d + 2, 165, 3, [some (.ref 1014), some (.int 2)], [.int (Int32.ofNat (ro 14).1), .int 2], 0, 0, (mSH, I, L))) rfl ?_
  refine mCall (s2 := (d + 1, 164, 0, [some (.int 2), some (.int (Int32.ofNat (ro 14).1))], [], 0, 0, (mSH, I, L))) rfl ?_
  refine mB 2 (s2 := (d + 1, 164, 2, [some (.int 2), some (.int (Int32.ofNat (ro 14).1))], [.int (Int32.ofNat (ro 14).1), .int 2], 0, 0, (mSH, I, L))) rfl ?_
  refine mBr (s2 := (d + 1, 164, 5, [some (.int 2), some (.int (Int32.ofNat (ro 14).1))], [.null, .int (Int32.ofNat (ro 14).1), .int 2], 0, 0, (mSH, I, L))) (s3 := (d + 1, 164, 5, [some (.int 2), some (.int (Int32.ofNat (ro 14).1))], [.ref 1007, .int (Int32.ofNat (ro 14).1), .int 2], 0, 0, (mSH, I, L))) rfl (fun _ => ?_) (fun _ => ?_)
  · refine mCall (s2 := (d, 167, 0, [some (.int 2), some (.int (Int32.ofNat (ro 14).1)), some .null], [], 0, 0, (mSH, I, L))) rfl ?_
    refine mB 1 (s2 := (d, 167, 1, [some (.int 2), some (.int (Int32.ofNat (ro 14).1)), some .null], [.int 2], 0, 0, (mSH, I, L))) rfl ?_
    refine mBF (s3 := (d, 167, 4, [some (.int 2), some (.int (Int32.ofNat (ro 14).1)), some .null], [], 0, 0, (mSH, I, L))) rfl (by decide) ?_
    refine mB 2 (s2 := (d, 167, 6, [some (.int 2), some (.int (Int32.ofNat (ro 14).1)), some .null], [.int (Int32.ofNat (ro 14).1), .int 2], 0, 0, (mSH, I, L))) rfl ?_
    refine mBT (s2 := (d, 167, 16, [some (.int 2), some (.int (Int32.ofNat (ro 14).1)), some .null], [], 0, 0, (mSH, I, L))) rfl (by first | (simp only [e1, e2]; first | decide | rfl) | decide | rfl) ?_
    refine mB 1 (s2 := (d, 167, 17, [some (.int 2), some (.int (Int32.ofNat (ro 14).1)), some .null], [.int 2], 0, 0, (mSH, I, L))) rfl ?_
    refine mRt (r := (some (.int 2))) (h := (mSH, I, L)) rfl (mRet_int rfl) ?_
    show mWP mTb_ mFT ro (d + 1, 164, 8, [some (.int 2), some (.int (Int32.ofNat (ro 14).1))], [.int 2], 0, 0, (mSH, I, L)) _
    refine mB 1 (s2 := (d + 1, 164, 9, [some (.int 2), some (.int (Int32.ofNat (ro 14).1))], [], 0, 0, (mSH, I, L))) rfl ?_
    refine mRt (r := none) (h := (mSH, I, L)) rfl rfl ?_
    show mWP mTb_ mFT ro (d + 2, 165, 6, [some (.ref 1014), some (.int 2)], [], 0, 0, (mSH, I, L)) _
    refine mB 2 (s2 := (d + 2, 165, 8, [some (.ref 1014), some (.int 2)], [.int 2, .ref 1014], 0, 0, (mSH, I, L))) rfl ?_
    refine mRq (s2 := (d + 2, 165, 9, [some (.ref 1014), some (.int 2)], [.int ((ro 14).2 2)], 0, 0, (mSH, I, L))) rfl (by first | (simp only [e1, e2]; first | decide | rfl) | decide | rfl) ?_
    refine mB 3 (s2 := (d + 2, 165, 14, [some (.ref 1014), some (.int 2)], [.int (((((ro 14).2 2) &&& 255).toUInt32 % 65536).toInt32)], 0, 0, (mSH, I, L))) rfl ?_
    refine mRt (r := (some (.int (((((ro 14).2 2) &&& 255).toUInt32 % 65536).toInt32)))) (h := (mSH, I, L)) rfl (by first | (simp only [e1, e2]; first | decide | rfl) | decide | rfl) ?_
    show mWP mTb_ mFT ro (d + 3, 161, 15, [some (.ref 1004), some (.int 2)], [.int (((((ro 14).2 2) &&& 255).toUInt32 % 65536).toInt32)], 0, 0, (mSH, I, L)) _
    refine mRt (r := (some (.int (((((ro 14).2 2) &&& 255).toUInt32 % 65536).toInt32)))) (h := (mSH, I, L)) rfl (by first | (simp only [e1, e2]; first | decide | rfl) | decide | rfl) ?_
    (rw [show ((((ro 14).2 2) &&& 255).toUInt32 % 65536).toInt32 = 114 by rw [e2]; decide]; exact hq)
  · refine mCall (s2 := (d, 167, 0, [some (.int 2), some (.int (Int32.ofNat (ro 14).1)), some (.ref 1007)], [], 0, 0, (mSH, I, L))) rfl ?_
    refine mB 1 (s2 := (d, 167, 1, [some (.int 2), some (.int (Int32.ofNat (ro 14).1)), some (.ref 1007)], [.int 2], 0, 0, (mSH, I, L))) rfl ?_
    refine mBF (s3 := (d, 167, 4, [some (.int 2), some (.int (Int32.ofNat (ro 14).1)), some (.ref 1007)], [], 0, 0, (mSH, I, L))) rfl (by decide) ?_
    refine mB 2 (s2 := (d, 167, 6, [some (.int 2), some (.int (Int32.ofNat (ro 14).1)), some (.ref 1007)], [.int (Int32.ofNat (ro 14).1), .int 2], 0, 0, (mSH, I, L))) rfl ?_
    refine mBT (s2 := (d, 167, 16, [some (.int 2), some (.int (Int32.ofNat (ro 14).1)), some (.ref 1007)], [], 0, 0, (mSH, I, L))) rfl (by first | (simp only [e1, e2]; first | decide | rfl) | decide | rfl) ?_
    refine mB 1 (s2 := (d, 167, 17, [some (.int 2), some (.int (Int32.ofNat (ro 14).1)), some (.ref 1007)], [.int 2], 0, 0, (mSH, I, L))) rfl ?_
    refine mRt (r := (some (.int 2))) (h := (mSH, I, L)) rfl (mRet_int rfl) ?_
    show mWP mTb_ mFT ro (d + 1, 164, 8, [some (.int 2), some (.int (Int32.ofNat (ro 14).1))], [.int 2], 0, 0, (mSH, I, L)) _
    refine mB 1 (s2 := (d + 1, 164, 9, [some (.int 2), some (.int (Int32.ofNat (ro 14).1))], [], 0, 0, (mSH, I, L))) rfl ?_
    refine mRt (r := none) (h := (mSH, I, L)) rfl rfl ?_
    show mWP mTb_ mFT ro (d + 2, 165, 6, [some (.ref 1014), some (.int 2)], [], 0, 0, (mSH, I, L)) _
    refine mB 2 (s2 := (d + 2, 165, 8, [some (.ref 1014), some (.int 2)], [.int 2, .ref 1014], 0, 0, (mSH, I, L))) rfl ?_
    refine mRq (s2 := (d + 2, 165, 9, [some (.ref 1014), some (.int 2)], [.int ((ro 14).2 2)], 0, 0, (mSH, I, L))) rfl (by first | (simp only [e1, e2]; first | decide | rfl) | decide | rfl) ?_
    refine mB 3 (s2 := (d + 2, 165, 14, [some (.ref 1014), some (.int 2)], [.int (((((ro 14).2 2) &&& 255).toUInt32 % 65536).toInt32)], 0, 0, (mSH, I, L))) rfl ?_
    refine mRt (r := (some (.int (((((ro 14).2 2) &&& 255).toUInt32 % 65536).toInt32)))) (h := (mSH, I, L)) rfl (by first | (simp only [e1, e2]; first | decide | rfl) | decide | rfl) ?_
    show mWP mTb_ mFT ro (d + 3, 161, 15, [some (.ref 1004), some (.int 2)], [.int (((((ro 14).2 2) &&& 255).toUInt32 % 65536).toInt32)], 0, 0, (mSH, I, L)) _
    refine mRt (r := (some (.int (((((ro 14).2 2) &&& 255).toUInt32 % 65536).toInt32)))) (h := (mSH, I, L)) rfl (by first | (simp only [e1, e2]; first | decide | rfl) | decide | rfl) ?_
    (rw [show ((((ro 14).2 2) &&& 255).toUInt32 % 65536).toInt32 = 114 by rw [e2]; decide]; exact hq)
theorem w_char_1_3 {ro : Nat → Nat × (Nat → Int32)} {Q : mPo} {d : Nat} {I : Nat → Nat → Int32} {L : Nat → Nat → Int64} (hB : mRB ro) (hq : Q (some (.int 101)) (mSH, I, L))  : mWP mTb_ mFT ro (d + 3, 161, 0, [some (.ref 1004), some (.int 3)], [], 0, 0, (mSH, I, L)) Q := by
  have e1 : (ro 14).1 = 4 := (hB 1 (by omega)).1
  have e2 : (ro 14).2 3 = 101 := (hB 1 (by omega)).2 3
  refine mB 1 (s2 := (d + 3, 161, 1, [some (.ref 1004), some (.int 3)], [.ref 1004], 0, 0, (mSH, I, L))) rfl ?_
  refine mCall (s2 := (d + 2, 163, 0, [some (.ref 1004)], [], 0, 0, (mSH, I, L))) rfl ?_
  refine mB 1 (s2 := (d + 2, 163, 3, [some (.ref 1004)], [.int 1], 0, 0, (mSH, I, L))) rfl ?_
  refine mBF (s3 := (d + 2, 163, 6, [some (.ref 1004)], [], 0, 0, (mSH, I, L))) rfl (by decide) ?_
  refine mB 2 (s2 := (d + 2, 163, 10, [some (.ref 1004)], [.int 0], 0, 0, (mSH, I, L))) rfl ?_
  refine mBT (s2 := (d + 2, 163, 13, [some (.ref 1004)], [], 0, 0, (mSH, I, L))) rfl (by decide) ?_
  refine mB 2 (s2 := (d + 2, 163, 18, [some (.ref 1004)], [.int 1], 0, 0, (mSH, I, L))) rfl ?_
  refine mRt (r := (some (.int 1))) (h := (mSH, I, L)) rfl rfl ?_
  show mWP mTb_ mFT ro (d + 3, 161, 4, [some (.ref 1004), some (.int 3)], [.int 1], 0, 0, (mSH, I, L)) _
  refine mBF (s3 := (d + 3, 161, 7, [some (.ref 1004), some (.int 3)], [], 0, 0, (mSH, I, L))) rfl (by decide) ?_
  refine mB 3 (s2 := (d + 3, 161, 12, [some (.ref 1004), some (.int 3)], [.int 3, .ref 1014], 0, 0, (mSH, I, L))) rfl ?_
  refine mCall (s2 := (d + 2, 165, 0, [some (.ref 1014), some (.int 3)], [], 0, 0, (mSH, I, L))) rfl ?_
  refine mB 3 (s2 := (d + 2, 165, 3, [some (.ref 1014), some (.int 3)], [.int (Int32.ofNat (ro 14).1), .int 3], 0, 0, (mSH, I, L))) rfl ?_
  refine mCall (s2 := (d + 1, 164, 0, [some (.int 3), some (.int (Int32.ofNat (ro 14).1))], [], 0, 0, (mSH, I, L))) rfl ?_
  refine mB 2 (s2 := (d + 1, 164, 2, [some (.int 3), some (.int (Int32.ofNat (ro 14).1))], [.int (Int32.ofNat (ro 14).1), .int 3], 0, 0, (mSH, I, L))) rfl ?_
  refine mBr (s2 := (d + 1, 164, 5, [some (.int 3), some (.int (Int32.ofNat (ro 14).1))], [.null, .int (Int32.ofNat (ro 14).1), .int 3], 0, 0, (mSH, I, L))) (s3 := (d + 1, 164, 5, [some (.int 3), some (.int (Int32.ofNat (ro 14).1))], [.ref 1007, .int (Int32.ofNat (ro 14).1), .int 3], 0, 0, (mSH, I, L))) rfl (fun _ => ?_) (fun _ => ?_)
  · refine mCall (s2 := (d, 167, 0, [some (.int 3), some (.int (Int32.ofNat (ro 14).1)), some .null], [], 0, 0, (mSH, I, L))) rfl ?_
    refine mB 1 (s2 := (d, 167, 1, [some (.int 3), some (.int (Int32.ofNat (ro 14).1)), some .null], [.int 3], 0, 0, (mSH, I, L))) rfl ?_
    refine mBF (s3 := (d, 167, 4, [some (.int 3), some (.int (Int32.ofNat (ro 14).1)), some .null], [], 0, 0, (mSH, I, L))) rfl (by decide) ?_
    refine mB 2 (s2 := (d, 167, 6, [some (.int 3), some (.int (Int32.ofNat (ro 14).1)), some .null], [.int (Int32.ofNat (ro 14).1), .int 3], 0, 0, (mSH, I, L))) rfl ?_
    refine mBT (s2 := (d, 167, 16, [some (.int 3), some (.int (Int32.ofNat (ro 14).1)), some .null], [], 0, 0, (mSH, I, L))) rfl (by first | (simp only [e1, e2]; first | decide | rfl) | decide | rfl) ?_
    refine mB 1 (s2 := (d, 167, 17, [some (.int 3), some (.int (Int32.ofNat (ro 14).1)), some .null], [.int 3], 0, 0, (mSH, I, L))) rfl ?_
    refine mRt (r := (some (.int 3))) (h := (mSH, I, L)) rfl (mRet_int rfl) ?_
    show mWP mTb_ mFT ro (d + 1, 164, 8, [some (.int 3), some (.int (Int32.ofNat (ro 14).1))], [.int 3], 0, 0, (mSH, I, L)) _
    refine mB 1 (s2 := (d + 1, 164, 9, [some (.int 3), some (.int (Int32.ofNat (ro 14).1))], [], 0, 0, (mSH, I, L))) rfl ?_
    refine mRt (r := none) (h := (mSH, I, L)) rfl rfl ?_
    show mWP mTb_ mFT ro (d + 2, 165, 6, [some (.ref 1014), some (.int 3)], [], 0, 0, (mSH, I, L)) _
    refine mB 2 (s2 := (d + 2, 165, 8, [some (.ref 1014), some (.int 3)], [.int 3, .ref 1014], 0, 0, (mSH, I, L))) rfl ?_
    refine mRq (s2 := (d + 2, 165, 9, [some (.ref 1014), some (.int 3)], [.int ((ro 14).2 3)], 0, 0, (mSH, I, L))) rfl (by first | (simp only [e1, e2]; first | decide | rfl) | decide | rfl) ?_
    refine mB 3 (s2 := (d + 2, 165, 14, [some (.ref 1014), some (.int 3)], [.int (((((ro 14).2 3) &&& 255).toUInt32 % 65536).toInt32)], 0, 0, (mSH, I, L))) rfl ?_
    refine mRt (r := (some (.int (((((ro 14).2 3) &&& 255).toUInt32 % 65536).toInt32)))) (h := (mSH, I, L)) rfl (by first | (simp only [e1, e2]; first | decide | rfl) | decide | rfl) ?_
    show mWP mTb_ mFT ro (d + 3, 161, 15, [some (.ref 1004), some (.int 3)], [.int (((((ro 14).2 3) &&& 255).toUInt32 % 65536).toInt32)], 0, 0, (mSH, I, L)) _
    refine mRt (r := (some (.int (((((ro 14).2 3) &&& 255).toUInt32 % 65536).toInt32)))) (h := (mSH, I, L)) rfl (by first | (simp only [e1, e2]; first | decide | rfl) | decide | rfl) ?_
    (rw [show ((((ro 14).2 3) &&& 255).toUInt32 % 65536).toInt32 = 101 by rw [e2]; decide]; exact hq)
  · refine mCall (s2 := (d, 167, 0, [some (.int 3), some (.int (Int32.ofNat (ro 14).1)), some (.ref 1007)], [], 0, 0, (mSH, I, L))) rfl ?_
    refine mB 1 (s2 := (d, 167, 1, [some (.int 3), some (.int (Int32.ofNat (ro 14).1)), some (.ref 1007)], [.int 3], 0, 0, (mSH, I, L))) rfl ?_
    refine mBF (s3 := (d, 167, 4, [some (.int 3), some (.int (Int32.ofNat (ro 14).1)), some (.ref 1007)], [], 0, 0, (mSH, I, L))) rfl (by decide) ?_
    refine mB 2 (s2 := (d, 167, 6, [some (.int 3), some (.int (Int32.ofNat (ro 14).1)), some (.ref 1007)], [.int (Int32.ofNat (ro 14).1), .int 3], 0, 0, (mSH, I, L))) rfl ?_
    refine mBT (s2 := (d, 167, 16, [some (.int 3), some (.int (Int32.ofNat (ro 14).1)), some (.ref 1007)], [], 0, 0, (mSH, I, L))) rfl (by first | (simp only [e1, e2]; first | decide | rfl) | decide | rfl) ?_
    refine mB 1 (s2 := (d, 167, 17, [some (.int 3), some (.int (Int32.ofNat (ro 14).1)), some (.ref 1007)], [.int 3], 0, 0, (mSH, I, L))) rfl ?_
    refine mRt (r := (some (.int 3))) (h := (mSH, I, L)) rfl (mRet_int rfl) ?_
    show mWP mTb_ mFT ro (d + 1, 164, 8, [some (.int 3), some (.int (Int32.ofNat (ro 14).1))], [.int 3], 0, 0, (mSH, I, L)) _
    refine mB 1 (s2 := (d + 1, 164, 9, [some (.int 3), some (.int (Int32.ofNat (ro 14).1))], [], 0, 0, (mSH, I, L))) rfl ?_
    refine mRt (r := none) (h := (mSH, I, L)) rfl rfl ?_
    show mWP mTb_ mFT ro (d + 2, 165, 6, [some (.ref 1014), some (.int 3)], [], 0, 0, (mSH, I, L)) _
    refine mB 2 (s2 := (d + 2, 165, 8, [some (.ref 1014), some (.int 3)], [.int 3, .ref 1014], 0, 0, (mSH, I, L))) rfl ?_
    refine mRq (s2 := (d + 2, 165, 9, [some (.ref 1014), some (.int 3)], [.int ((ro 14).2 3)], 0, 0, (mSH, I, L))) rfl (by first | (simp only [e1, e2]; first | decide | rfl) | decide | rfl) ?_
    refine mB 3 (s2 := (d + 2, 165, 14, [some (.ref 1014), some (.int 3)], [.int (((((ro 14).2 3) &&& 255).toUInt32 % 65536).toInt32)], 0, 0, (mSH, I, L))) rfl ?_
    refine mRt (r := (some (.int (((((ro 14).2 3) &&& 255).toUInt32 % 65536).toInt32)))) (h := (mSH, I, L)) rfl (by first | (simp only [e1, e2]; first | decide | rfl) | decide | rfl) ?_
    show mWP mTb_ mFT ro (d + 3, 161, 15, [some (.ref 1004), some (.int 3)], [.int (((((ro 14).2 3) &&& 255).toUInt32 % 65536).toInt32)], 0, 0, (mSH, I, L)) _
    refine mRt (r := (some (.int (((((ro 14).2 3) &&& 255).toUInt32 % 65536).toInt32)))) (h := (mSH, I, L)) rfl (by first | (simp only [e1, e2]; first | decide | rfl) | decide | rfl) ?_
    (rw [show ((((ro 14).2 3) &&& 255).toUInt32 % 65536).toInt32 = 101 by rw [e2]; decide]; exact hq)
theorem w_len_2 {ro : Nat → Nat × (Nat → Int32)} {Q : mPo} {d : Nat} {I : Nat → Nat → Int32} {L : Nat → Nat → Int64} (hB : mRB ro) (hq : Q (some (.int 5)) (mSH, I, L))  : mWP mTb_ mFT ro (d + 1, 160, 0, [some (.ref 1005)], [], 0, 0, (mSH, I, L)) Q := by
  have e1 : (ro 15).1 = 5 := (hB 2 (by omega)).1
  refine mB 4 (s2 := (d + 1, 160, 6, [some (.ref 1005)], [.ref 1005, .int (Int32.ofNat (ro 15).1)], 0, 0, (mSH, I, L))) rfl ?_
  refine mCall (s2 := (d, 162, 0, [some (.ref 1005)], [], 0, 0, (mSH, I, L))) rfl ?_
  refine mB 1 (s2 := (d, 162, 3, [some (.ref 1005)], [.int 1], 0, 0, (mSH, I, L))) rfl ?_
  refine mBF (s3 := (d, 162, 6, [some (.ref 1005)], [], 0, 0, (mSH, I, L))) rfl (by decide) ?_
  refine mB 3 (s2 := (d, 162, 14, [some (.ref 1005)], [.int 0], 0, 0, (mSH, I, L))) rfl ?_
  refine mRt (r := (some (.int 0))) (h := (mSH, I, L)) rfl rfl ?_
  show mWP mTb_ mFT ro (d + 1, 160, 9, [some (.ref 1005)], [.int 0, .int (Int32.ofNat (ro 15).1)], 0, 0, (mSH, I, L)) _
  refine mB 1 (s2 := (d + 1, 160, 10, [some (.ref 1005)], [.int ((Int32.ofNat (ro 15).1) >>> (0 &&& 31))], 0, 0, (mSH, I, L))) rfl ?_
  refine mRt (r := (some (.int ((Int32.ofNat (ro 15).1) >>> (0 &&& 31))))) (h := (mSH, I, L)) rfl (mRet_int rfl) ?_
  (rw [show (Int32.ofNat (ro 15).1) >>> (0 &&& 31) = 5 by rw [e1]; decide]; exact hq)
theorem w_char_2_0 {ro : Nat → Nat × (Nat → Int32)} {Q : mPo} {d : Nat} {I : Nat → Nat → Int32} {L : Nat → Nat → Int64} (hB : mRB ro) (hq : Q (some (.int 110)) (mSH, I, L))  : mWP mTb_ mFT ro (d + 3, 161, 0, [some (.ref 1005), some (.int 0)], [], 0, 0, (mSH, I, L)) Q := by
  have e1 : (ro 15).1 = 5 := (hB 2 (by omega)).1
  have e2 : (ro 15).2 0 = 110 := (hB 2 (by omega)).2 0
  refine mB 1 (s2 := (d + 3, 161, 1, [some (.ref 1005), some (.int 0)], [.ref 1005], 0, 0, (mSH, I, L))) rfl ?_
  refine mCall (s2 := (d + 2, 163, 0, [some (.ref 1005)], [], 0, 0, (mSH, I, L))) rfl ?_
  refine mB 1 (s2 := (d + 2, 163, 3, [some (.ref 1005)], [.int 1], 0, 0, (mSH, I, L))) rfl ?_
  refine mBF (s3 := (d + 2, 163, 6, [some (.ref 1005)], [], 0, 0, (mSH, I, L))) rfl (by decide) ?_
  refine mB 2 (s2 := (d + 2, 163, 10, [some (.ref 1005)], [.int 0], 0, 0, (mSH, I, L))) rfl ?_
  refine mBT (s2 := (d + 2, 163, 13, [some (.ref 1005)], [], 0, 0, (mSH, I, L))) rfl (by decide) ?_
  refine mB 2 (s2 := (d + 2, 163, 18, [some (.ref 1005)], [.int 1], 0, 0, (mSH, I, L))) rfl ?_
  refine mRt (r := (some (.int 1))) (h := (mSH, I, L)) rfl rfl ?_
  show mWP mTb_ mFT ro (d + 3, 161, 4, [some (.ref 1005), some (.int 0)], [.int 1], 0, 0, (mSH, I, L)) _
  refine mBF (s3 := (d + 3, 161, 7, [some (.ref 1005), some (.int 0)], [], 0, 0, (mSH, I, L))) rfl (by decide) ?_
  refine mB 3 (s2 := (d + 3, 161, 12, [some (.ref 1005), some (.int 0)], [.int 0, .ref 1015], 0, 0, (mSH, I, L))) rfl ?_
  refine mCall (s2 := (d + 2, 165, 0, [some (.ref 1015), some (.int 0)], [], 0, 0, (mSH, I, L))) rfl ?_
  refine mB 3 (s2 := (d + 2, 165, 3, [some (.ref 1015), some (.int 0)], [.int (Int32.ofNat (ro 15).1), .int 0], 0, 0, (mSH, I, L))) rfl ?_
  refine mCall (s2 := (d + 1, 164, 0, [some (.int 0), some (.int (Int32.ofNat (ro 15).1))], [], 0, 0, (mSH, I, L))) rfl ?_
  refine mB 2 (s2 := (d + 1, 164, 2, [some (.int 0), some (.int (Int32.ofNat (ro 15).1))], [.int (Int32.ofNat (ro 15).1), .int 0], 0, 0, (mSH, I, L))) rfl ?_
  refine mBr (s2 := (d + 1, 164, 5, [some (.int 0), some (.int (Int32.ofNat (ro 15).1))], [.null, .int (Int32.ofNat (ro 15).1), .int 0], 0, 0, (mSH, I, L))) (s3 := (d + 1, 164, 5, [some (.int 0), some (.int (Int32.ofNat (ro 15).1))], [.ref 1007, .int (Int32.ofNat (ro 15).1), .int 0], 0, 0, (mSH, I, L))) rfl (fun _ => ?_) (fun _ => ?_)
  · refine mCall (s2 := (d, 167, 0, [some (.int 0), some (.int (Int32.ofNat (ro 15).1)), some .null], [], 0, 0, (mSH, I, L))) rfl ?_
    refine mB 1 (s2 := (d, 167, 1, [some (.int 0), some (.int (Int32.ofNat (ro 15).1)), some .null], [.int 0], 0, 0, (mSH, I, L))) rfl ?_
    refine mBF (s3 := (d, 167, 4, [some (.int 0), some (.int (Int32.ofNat (ro 15).1)), some .null], [], 0, 0, (mSH, I, L))) rfl (by decide) ?_
    refine mB 2 (s2 := (d, 167, 6, [some (.int 0), some (.int (Int32.ofNat (ro 15).1)), some .null], [.int (Int32.ofNat (ro 15).1), .int 0], 0, 0, (mSH, I, L))) rfl ?_
    refine mBT (s2 := (d, 167, 16, [some (.int 0), some (.int (Int32.ofNat (ro 15).1)), some .null], [], 0, 0, (mSH, I, L))) rfl (by first | (simp only [e1, e2]; first | decide | rfl) | decide | rfl) ?_
    refine mB 1 (s2 := (d, 167, 17, [some (.int 0), some (.int (Int32.ofNat (ro 15).1)), some .null], [.int 0], 0, 0, (mSH, I, L))) rfl ?_
    refine mRt (r := (some (.int 0))) (h := (mSH, I, L)) rfl (mRet_int rfl) ?_
    show mWP mTb_ mFT ro (d + 1, 164, 8, [some (.int 0), some (.int (Int32.ofNat (ro 15).1))], [.int 0], 0, 0, (mSH, I, L)) _
    refine mB 1 (s2 := (d + 1, 164, 9, [some (.int 0), some (.int (Int32.ofNat (ro 15).1))], [], 0, 0, (mSH, I, L))) rfl ?_
    refine mRt (r := none) (h := (mSH, I, L)) rfl rfl ?_
    show mWP mTb_ mFT ro (d + 2, 165, 6, [some (.ref 1015), some (.int 0)], [], 0, 0, (mSH, I, L)) _
    refine mB 2 (s2 := (d + 2, 165, 8, [some (.ref 1015), some (.int 0)], [.int 0, .ref 1015], 0, 0, (mSH, I, L))) rfl ?_
    refine mRq (s2 := (d + 2, 165, 9, [some (.ref 1015), some (.int 0)], [.int ((ro 15).2 0)], 0, 0, (mSH, I, L))) rfl (by first | (simp only [e1, e2]; first | decide | rfl) | decide | rfl) ?_
    refine mB 3 (s2 := (d + 2, 165, 14, [some (.ref 1015), some (.int 0)], [.int (((((ro 15).2 0) &&& 255).toUInt32 % 65536).toInt32)], 0, 0, (mSH, I, L))) rfl ?_
    refine mRt (r := (some (.int (((((ro 15).2 0) &&& 255).toUInt32 % 65536).toInt32)))) (h := (mSH, I, L)) rfl (by first | (simp only [e1, e2]; first | decide | rfl) | decide | rfl) ?_
    show mWP mTb_ mFT ro (d + 3, 161, 15, [some (.ref 1005), some (.int 0)], [.int (((((ro 15).2 0) &&& 255).toUInt32 % 65536).toInt32)], 0, 0, (mSH, I, L)) _
    refine mRt (r := (some (.int (((((ro 15).2 0) &&& 255).toUInt32 % 65536).toInt32)))) (h := (mSH, I, L)) rfl (by first | (simp only [e1, e2]; first | decide | rfl) | decide | rfl) ?_
    (rw [show ((((ro 15).2 0) &&& 255).toUInt32 % 65536).toInt32 = 110 by rw [e2]; decide]; exact hq)
  · refine mCall (s2 := (d, 167, 0, [some (.int 0), some (.int (Int32.ofNat (ro 15).1)), some (.ref 1007)], [], 0, 0, (mSH, I, L))) rfl ?_
    refine mB 1 (s2 := (d, 167, 1, [some (.int 0), some (.int (Int32.ofNat (ro 15).1)), some (.ref 1007)], [.int 0], 0, 0, (mSH, I, L))) rfl ?_
    refine mBF (s3 := (d, 167, 4, [some (.int 0), some (.int (Int32.ofNat (ro 15).1)), some (.ref 1007)], [], 0, 0, (mSH, I, L))) rfl (by decide) ?_
    refine mB 2 (s2 := (d, 167, 6, [some (.int 0), some (.int (Int32.ofNat (ro 15).1)), some (.ref 1007)], [.int (Int32.ofNat (ro 15).1), .int 0], 0, 0, (mSH, I, L))) rfl ?_
    refine mBT (s2 := (d, 167, 16, [some (.int 0), some (.int (Int32.ofNat (ro 15).1)), some (.ref 1007)], [], 0, 0, (mSH, I, L))) rfl (by first | (simp only [e1, e2]; first | decide | rfl) | decide | rfl) ?_
    refine mB 1 (s2 := (d, 167, 17, [some (.int 0), some (.int (Int32.ofNat (ro 15).1)), some (.ref 1007)], [.int 0], 0, 0, (mSH, I, L))) rfl ?_
    refine mRt (r := (some (.int 0))) (h := (mSH, I, L)) rfl (mRet_int rfl) ?_
    show mWP mTb_ mFT ro (d + 1, 164, 8, [some (.int 0), some (.int (Int32.ofNat (ro 15).1))], [.int 0], 0, 0, (mSH, I, L)) _
    refine mB 1 (s2 := (d + 1, 164, 9, [some (.int 0), some (.int (Int32.ofNat (ro 15).1))], [], 0, 0, (mSH, I, L))) rfl ?_
    refine mRt (r := none) (h := (mSH, I, L)) rfl rfl ?_
    show mWP mTb_ mFT ro (d + 2, 165, 6, [some (.ref 1015), some (.int 0)], [], 0, 0, (mSH, I, L)) _
    refine mB 2 (s2 := (d + 2, 165, 8, [some (.ref 1015), some (.int 0)], [.int 0, .ref 1015], 0, 0, (mSH, I, L))) rfl ?_
    refine mRq (s2 := (d + 2, 165, 9, [some (.ref 1015), some (.int 0)], [.int ((ro 15).2 0)], 0, 0, (mSH, I, L))) rfl (by first | (simp only [e1, e2]; first | decide | rfl) | decide | rfl) ?_
    refine mB 3 (s2 := (d + 2, 165, 14, [some (.ref 1015), some (.int 0)], [.int (((((ro 15).2 0) &&& 255).toUInt32 % 65536).toInt32)], 0, 0, (mSH, I, L))) rfl ?_
    refine mRt (r := (some (.int (((((ro 15).2 0) &&& 255).toUInt32 % 65536).toInt32)))) (h := (mSH, I, L)) rfl (by first | (simp only [e1, e2]; first | decide | rfl) | decide | rfl) ?_
    show mWP mTb_ mFT ro (d + 3, 161, 15, [some (.ref 1005), some (.int 0)], [.int (((((ro 15).2 0) &&& 255).toUInt32 % 65536).toInt32)], 0, 0, (mSH, I, L)) _
    refine mRt (r := (some (.int (((((ro 15).2 0) &&& 255).toUInt32 % 65536).toInt32)))) (h := (mSH, I, L)) rfl (by first | (simp only [e1, e2]; first | decide | rfl) | decide | rfl) ?_
    (rw [show ((((ro 15).2 0) &&& 255).toUInt32 % 65536).toInt32 = 110 by rw [e2]; decide]; exact hq)
theorem w_char_2_1 {ro : Nat → Nat × (Nat → Int32)} {Q : mPo} {d : Nat} {I : Nat → Nat → Int32} {L : Nat → Nat → Int64} (hB : mRB ro) (hq : Q (some (.int 111)) (mSH, I, L))  : mWP mTb_ mFT ro (d + 3, 161, 0, [some (.ref 1005), some (.int 1)], [], 0, 0, (mSH, I, L)) Q := by
  have e1 : (ro 15).1 = 5 := (hB 2 (by omega)).1
  have e2 : (ro 15).2 1 = 111 := (hB 2 (by omega)).2 1
  refine mB 1 (s2 := (d + 3, 161, 1, [some (.ref 1005), some (.int 1)], [.ref 1005], 0, 0, (mSH, I, L))) rfl ?_
  refine mCall (s2 := (d + 2, 163, 0, [some (.ref 1005)], [], 0, 0, (mSH, I, L))) rfl ?_
  refine mB 1 (s2 := (d + 2, 163, 3, [some (.ref 1005)], [.int 1], 0, 0, (mSH, I, L))) rfl ?_
  refine mBF (s3 := (d + 2, 163, 6, [some (.ref 1005)], [], 0, 0, (mSH, I, L))) rfl (by decide) ?_
  refine mB 2 (s2 := (d + 2, 163, 10, [some (.ref 1005)], [.int 0], 0, 0, (mSH, I, L))) rfl ?_
  refine mBT (s2 := (d + 2, 163, 13, [some (.ref 1005)], [], 0, 0, (mSH, I, L))) rfl (by decide) ?_
  refine mB 2 (s2 := (d + 2, 163, 18, [some (.ref 1005)], [.int 1], 0, 0, (mSH, I, L))) rfl ?_
  refine mRt (r := (some (.int 1))) (h := (mSH, I, L)) rfl rfl ?_
  show mWP mTb_ mFT ro (d + 3, 161, 4, [some (.ref 1005), some (.int 1)], [.int 1], 0, 0, (mSH, I, L)) _
  refine mBF (s3 := (d + 3, 161, 7, [some (.ref 1005), some (.int 1)], [], 0, 0, (mSH, I, L))) rfl (by decide) ?_
  refine mB 3 (s2 := (d + 3, 161, 12, [some (.ref 1005), some (.int 1)], [.int 1, .ref 1015], 0, 0, (mSH, I, L))) rfl ?_
  refine mCall (s2 := (d + 2, 165, 0, [some (.ref 1015), some (.int 1)], [], 0, 0, (mSH, I, L))) rfl ?_
  refine mB 3 (s2 := (d + 2, 165, 3, [some (.ref 1015), some (.int 1)], [.int (Int32.ofNat (ro 15).1), .int 1], 0, 0, (mSH, I, L))) rfl ?_
  refine mCall (s2 := (d + 1, 164, 0, [some (.int 1), some (.int (Int32.ofNat (ro 15).1))], [], 0, 0, (mSH, I, L))) rfl ?_
  refine mB 2 (s2 := (d + 1, 164, 2, [some (.int 1), some (.int (Int32.ofNat (ro 15).1))], [.int (Int32.ofNat (ro 15).1), .int 1], 0, 0, (mSH, I, L))) rfl ?_
  refine mBr (s2 := (d + 1, 164, 5, [some (.int 1), some (.int (Int32.ofNat (ro 15).1))], [.null, .int (Int32.ofNat (ro 15).1), .int 1], 0, 0, (mSH, I, L))) (s3 := (d + 1, 164, 5, [some (.int 1), some (.int (Int32.ofNat (ro 15).1))], [.ref 1007, .int (Int32.ofNat (ro 15).1), .int 1], 0, 0, (mSH, I, L))) rfl (fun _ => ?_) (fun _ => ?_)
  · refine mCall (s2 := (d, 167, 0, [some (.int 1), some (.int (Int32.ofNat (ro 15).1)), some .null], [], 0, 0, (mSH, I, L))) rfl ?_
    refine mB 1 (s2 := (d, 167, 1, [some (.int 1), some (.int (Int32.ofNat (ro 15).1)), some .null], [.int 1], 0, 0, (mSH, I, L))) rfl ?_
    refine mBF (s3 := (d, 167, 4, [some (.int 1), some (.int (Int32.ofNat (ro 15).1)), some .null], [], 0, 0, (mSH, I, L))) rfl (by decide) ?_
    refine mB 2 (s2 := (d, 167, 6, [some (.int 1), some (.int (Int32.ofNat (ro 15).1)), some .null], [.int (Int32.ofNat (ro 15).1), .int 1], 0, 0, (mSH, I, L))) rfl ?_
    refine mBT (s2 := (d, 167, 16, [some (.int 1), some (.int (Int32.ofNat (ro 15).1)), some .null], [], 0, 0, (mSH, I, L))) rfl (by first | (simp only [e1, e2]; first | decide | rfl) | decide | rfl) ?_
    refine mB 1 (s2 := (d, 167, 17, [some (.int 1), some (.int (Int32.ofNat (ro 15).1)), some .null], [.int 1], 0, 0, (mSH, I, L))) rfl ?_
    refine mRt (r := (some (.int 1))) (h := (mSH, I, L)) rfl (mRet_int rfl) ?_
    show mWP mTb_ mFT ro (d + 1, 164, 8, [some (.int 1), some (.int (Int32.ofNat (ro 15).1))], [.int 1], 0, 0, (mSH, I, L)) _
    refine mB 1 (s2 := (d + 1, 164, 9, [some (.int 1), some (.int (Int32.ofNat (ro 15).1))], [], 0, 0, (mSH, I, L))) rfl ?_
    refine mRt (r := none) (h := (mSH, I, L)) rfl rfl ?_
    show mWP mTb_ mFT ro (d + 2, 165, 6, [some (.ref 1015), some (.int 1)], [], 0, 0, (mSH, I, L)) _
    refine mB 2 (s2 := (d + 2, 165, 8, [some (.ref 1015), some (.int 1)], [.int 1, .ref 1015], 0, 0, (mSH, I, L))) rfl ?_
    refine mRq (s2 := (d + 2, 165, 9, [some (.ref 1015), some (.int 1)], [.int ((ro 15).2 1)], 0, 0, (mSH, I, L))) rfl (by first | (simp only [e1, e2]; first | decide | rfl) | decide | rfl) ?_
    refine mB 3 (s2 := (d + 2, 165, 14, [some (.ref 1015), some (.int 1)], [.int (((((ro 15).2 1) &&& 255).toUInt32 % 65536).toInt32)], 0, 0, (mSH, I, L))) rfl ?_
    refine mRt (r := (some (.int (((((ro 15).2 1) &&& 255).toUInt32 % 65536).toInt32)))) (h := (mSH, I, L)) rfl (by first | (simp only [e1, e2]; first | decide | rfl) | decide | rfl) ?_
    show mWP mTb_ mFT ro (d + 3, 161, 15, [some (.ref 1005), some (.int 1)], [.int (((((ro 15).2 1) &&& 255).toUInt32 % 65536).toInt32)], 0, 0, (mSH, I, L)) _
    refine mRt (r := (some (.int (((((ro 15).2 1) &&& 255).toUInt32 % 65536).toInt32)))) (h := (mSH, I, L)) rfl (by first | (simp only [e1, e2]; first | decide | rfl) | decide | rfl) ?_
    (rw [show ((((ro 15).2 1) &&& 255).toUInt32 % 65536).toInt32 = 111 by rw [e2]; decide]; exact hq)
  · refine mCall (s2 := (d, 167, 0, [some (.int 1), some (.int (Int32.ofNat (ro 15).1)), some (.ref 1007)], [], 0, 0, (mSH, I, L))) rfl ?_
    refine mB 1 (s2 := (d, 167, 1, [some (.int 1), some (.int (Int32.ofNat (ro 15).1)), some (.ref 1007)], [.int 1], 0, 0, (mSH, I, L))) rfl ?_
    refine mBF (s3 := (d, 167, 4, [some (.int 1), some (.int (Int32.ofNat (ro 15).1)), some (.ref 1007)], [], 0, 0, (mSH, I, L))) rfl (by decide) ?_
    refine mB 2 (s2 := (d, 167, 6, [some (.int 1), some (.int (Int32.ofNat (ro 15).1)), some (.ref 1007)], [.int (Int32.ofNat (ro 15).1), .int 1], 0, 0, (mSH, I, L))) rfl ?_
    refine mBT (s2 := (d, 167, 16, [some (.int 1), some (.int (Int32.ofNat (ro 15).1)), some (.ref 1007)], [], 0, 0, (mSH, I, L))) rfl (by first | (simp only [e1, e2]; first | decide | rfl) | decide | rfl) ?_
    refine mB 1 (s2 := (d, 167, 17, [some (.int 1), some (.int (Int32.ofNat (ro 15).1)), some (.ref 1007)], [.int 1], 0, 0, (mSH, I, L))) rfl ?_
    refine mRt (r := (some (.int 1))) (h := (mSH, I, L)) rfl (mRet_int rfl) ?_
    show mWP mTb_ mFT ro (d + 1, 164, 8, [some (.int 1), some (.int (Int32.ofNat (ro 15).1))], [.int 1], 0, 0, (mSH, I, L)) _
    refine mB 1 (s2 := (d + 1, 164, 9, [some (.int 1), some (.int (Int32.ofNat (ro 15).1))], [], 0, 0, (mSH, I, L))) rfl ?_
    refine mRt (r := none) (h := (mSH, I, L)) rfl rfl ?_
    show mWP mTb_ mFT ro (d + 2, 165, 6, [some (.ref 1015), some (.int 1)], [], 0, 0, (mSH, I, L)) _
    refine mB 2 (s2 := (d + 2, 165, 8, [some (.ref 1015), some (.int 1)], [.int 1, .ref 1015], 0, 0, (mSH, I, L))) rfl ?_
    refine mRq (s2 := (d + 2, 165, 9, [some (.ref 1015), some (.int 1)], [.int ((ro 15).2 1)], 0, 0, (mSH, I, L))) rfl (by first | (simp only [e1, e2]; first | decide | rfl) | decide | rfl) ?_
    refine mB 3 (s2 := (d + 2, 165, 14, [some (.ref 1015), some (.int 1)], [.int (((((ro 15).2 1) &&& 255).toUInt32 % 65536).toInt32)], 0, 0, (mSH, I, L))) rfl ?_
    refine mRt (r := (some (.int (((((ro 15).2 1) &&& 255).toUInt32 % 65536).toInt32)))) (h := (mSH, I, L)) rfl (by first | (simp only [e1, e2]; first | decide | rfl) | decide | rfl) ?_
    show mWP mTb_ mFT ro (d + 3, 161, 15, [some (.ref 1005), some (.int 1)], [.int (((((ro 15).2 1) &&& 255).toUInt32 % 65536).toInt32)], 0, 0, (mSH, I, L)) _
    refine mRt (r := (some (.int (((((ro 15).2 1) &&& 255).toUInt32 % 65536).toInt32)))) (h := (mSH, I, L)) rfl (by first | (simp only [e1, e2]; first | decide | rfl) | decide | rfl) ?_
    (rw [show ((((ro 15).2 1) &&& 255).toUInt32 % 65536).toInt32 = 111 by rw [e2]; decide]; exact hq)
theorem w_char_2_2 {ro : Nat → Nat × (Nat → Int32)} {Q : mPo} {d : Nat} {I : Nat → Nat → Int32} {L : Nat → Nat → Int64} (hB : mRB ro) (hq : Q (some (.int 114)) (mSH, I, L))  : mWP mTb_ mFT ro (d + 3, 161, 0, [some (.ref 1005), some (.int 2)], [], 0, 0, (mSH, I, L)) Q := by
  have e1 : (ro 15).1 = 5 := (hB 2 (by omega)).1
  have e2 : (ro 15).2 2 = 114 := (hB 2 (by omega)).2 2
  refine mB 1 (s2 := (d + 3, 161, 1, [some (.ref 1005), some (.int 2)], [.ref 1005], 0, 0, (mSH, I, L))) rfl ?_
  refine mCall (s2 := (d + 2, 163, 0, [some (.ref 1005)], [], 0, 0, (mSH, I, L))) rfl ?_
  refine mB 1 (s2 := (d + 2, 163, 3, [some (.ref 1005)], [.int 1], 0, 0, (mSH, I, L))) rfl ?_
  refine mBF (s3 := (d + 2, 163, 6, [some (.ref 1005)], [], 0, 0, (mSH, I, L))) rfl (by decide) ?_
  refine mB 2 (s2 := (d + 2, 163, 10, [some (.ref 1005)], [.int 0], 0, 0, (mSH, I, L))) rfl ?_
  refine mBT (s2 := (d + 2, 163, 13, [some (.ref 1005)], [], 0, 0, (mSH, I, L))) rfl (by decide) ?_
  refine mB 2 (s2 := (d + 2, 163, 18, [some (.ref 1005)], [.int 1], 0, 0, (mSH, I, L))) rfl ?_
  refine mRt (r := (some (.int 1))) (h := (mSH, I, L)) rfl rfl ?_
  show mWP mTb_ mFT ro (d + 3, 161, 4, [some (.ref 1005), some (.int 2)], [.int 1], 0, 0, (mSH, I, L)) _
  refine mBF (s3 := (d + 3, 161, 7, [some (.ref 1005), some (.int 2)], [], 0, 0, (mSH, I, L))) rfl (by decide) ?_
  refine mB 3 (s2 := (d + 3, 161, 12, [some (.ref 1005), some (.int 2)], [.int 2, .ref 1015], 0, 0, (mSH, I, L))) rfl ?_
  refine mCall (s2 := (d + 2, 165, 0, [some (.ref 1015), some (.int 2)], [], 0, 0, (mSH, I, L))) rfl ?_
  refine mB 3 (s2 := (d + 2, 165, 3, [some (.ref 1015), some (.int 2)], [.int (Int32.ofNat (ro 15).1), .int 2], 0, 0, (mSH, I, L))) rfl ?_
  refine mCall (s2 := (d + 1, 164, 0, [some (.int 2), some (.int (Int32.ofNat (ro 15).1))], [], 0, 0, (mSH, I, L))) rfl ?_
  refine mB 2 (s2 := (d + 1, 164, 2, [some (.int 2), some (.int (Int32.ofNat (ro 15).1))], [.int (Int32.ofNat (ro 15).1), .int 2], 0, 0, (mSH, I, L))) rfl ?_
  refine mBr (s2 := (d + 1, 164, 5, [some (.int 2), some (.int (Int32.ofNat (ro 15).1))], [.null, .int (Int32.ofNat (ro 15).1), .int 2], 0, 0, (mSH, I, L))) (s3 := (d + 1, 164, 5, [some (.int 2), some (.int (Int32.ofNat (ro 15).1))], [.ref 1007, .int (Int32.ofNat (ro 15).1), .int 2], 0, 0, (mSH, I, L))) rfl (fun _ => ?_) (fun _ => ?_)
  · refine mCall (s2 := (d, 167, 0, [some (.int 2), some (.int (Int32.ofNat (ro 15).1)), some .null], [], 0, 0, (mSH, I, L))) rfl ?_
    refine mB 1 (s2 := (d, 167, 1, [some (.int 2), some (.int (Int32.ofNat (ro 15).1)), some .null], [.int 2], 0, 0, (mSH, I, L))) rfl ?_
    refine mBF (s3 := (d, 167, 4, [some (.int 2), some (.int (Int32.ofNat (ro 15).1)), some .null], [], 0, 0, (mSH, I, L))) rfl (by decide) ?_
    refine mB 2 (s2 := (d, 167, 6, [some (.int 2), some (.int (Int32.ofNat (ro 15).1)), some .null], [.int (Int32.ofNat (ro 15).1), .int 2], 0, 0, (mSH, I, L))) rfl ?_
    refine mBT (s2 := (d, 167, 16, [some (.int 2), some (.int (Int32.ofNat (ro 15).1)), some .null], [], 0, 0, (mSH, I, L))) rfl (by first | (simp only [e1, e2]; first | decide | rfl) | decide | rfl) ?_
    refine mB 1 (s2 := (d, 167, 17, [some (.int 2), some (.int (Int32.ofNat (ro 15).1)), some .null], [.int 2], 0, 0, (mSH, I, L))) rfl ?_
    refine mRt (r := (some (.int 2))) (h := (mSH, I, L)) rfl (mRet_int rfl) ?_
    show mWP mTb_ mFT ro (d + 1, 164, 8, [some (.int 2), some (.int (Int32.ofNat (ro 15).1))], [.int 2], 0, 0, (mSH, I, L)) _
    refine mB 1 (s2 := (d + 1, 164, 9, [some (.int 2), some (.int (Int32.ofNat (ro 15).1))], [], 0, 0, (mSH, I, L))) rfl ?_
    refine mRt (r := none) (h := (mSH, I, L)) rfl rfl ?_
    show mWP mTb_ mFT ro (d + 2, 165, 6, [some (.ref 1015), some (.int 2)], [], 0, 0, (mSH, I, L)) _
    refine mB 2 (s2 := (d + 2, 165, 8, [some (.ref 1015), some (.int 2)], [.int 2, .ref 1015], 0, 0, (mSH, I, L))) rfl ?_
    refine mRq (s2 := (d + 2, 165, 9, [some (.ref 1015), some (.int 2)], [.int ((ro 15).2 2)], 0, 0, (mSH, I, L))) rfl (by first | (simp only [e1, e2]; first | decide | rfl) | decide | rfl) ?_
    refine mB 3 (s2 := (d + 2, 165, 14, [some (.ref 1015), some (.int 2)], [.int (((((ro 15).2 2) &&& 255).toUInt32 % 65536).toInt32)], 0, 0, (mSH, I, L))) rfl ?_
    refine mRt (r := (some (.int (((((ro 15).2 2) &&& 255).toUInt32 % 65536).toInt32)))) (h := (mSH, I, L)) rfl (by first | (simp only [e1, e2]; first | decide | rfl) | decide | rfl) ?_
    show mWP mTb_ mFT ro (d + 3, 161, 15, [some (.ref 1005), some (.int 2)], [.int (((((ro 15).2 2) &&& 255).toUInt32 % 65536).toInt32)], 0, 0, (mSH, I, L)) _
    refine mRt (r := (some (.int (((((ro 15).2 2) &&& 255).toUInt32 % 65536).toInt32)))) (h := (mSH, I, L)) rfl (by first | (simp only [e1, e2]; first | decide | rfl) | decide | rfl) ?_
    (rw [show ((((ro 15).2 2) &&& 255).toUInt32 % 65536).toInt32 = 114 by rw [e2]; decide]; exact hq)
  · refine mCall (s2 := (d, 167, 0, [some (.int 2), some (.int (Int32.ofNat (ro 15).1)), some (.ref 1007)], [], 0, 0, (mSH, I, L))) rfl ?_
    refine mB 1 (s2 := (d, 167, 1, [some (.int 2), some (.int (Int32.ofNat (ro 15).1)), some (.ref 1007)], [.int 2], 0, 0, (mSH, I, L))) rfl ?_
    refine mBF (s3 := (d, 167, 4, [some (.int 2), some (.int (Int32.ofNat (ro 15).1)), some (.ref 1007)], [], 0, 0, (mSH, I, L))) rfl (by decide) ?_
    refine mB 2 (s2 := (d, 167, 6, [some (.int 2), some (.int (Int32.ofNat (ro 15).1)), some (.ref 1007)], [.int (Int32.ofNat (ro 15).1), .int 2], 0, 0, (mSH, I, L))) rfl ?_
    refine mBT (s2 := (d, 167, 16, [some (.int 2), some (.int (Int32.ofNat (ro 15).1)), some (.ref 1007)], [], 0, 0, (mSH, I, L))) rfl (by first | (simp only [e1, e2]; first | decide | rfl) | decide | rfl) ?_
    refine mB 1 (s2 := (d, 167, 17, [some (.int 2), some (.int (Int32.ofNat (ro 15).1)), some (.ref 1007)], [.int 2], 0, 0, (mSH, I, L))) rfl ?_
    refine mRt (r := (some (.int 2))) (h := (mSH, I, L)) rfl (mRet_int rfl) ?_
    show mWP mTb_ mFT ro (d + 1, 164, 8, [some (.int 2), some (.int (Int32.ofNat (ro 15).1))], [.int 2], 0, 0, (mSH, I, L)) _
    refine mB 1 (s2 := (d + 1, 164, 9, [some (.int 2), some (.int (Int32.ofNat (ro 15).1))], [], 0, 0, (mSH, I, L))) rfl ?_
    refine mRt (r := none) (h := (mSH, I, L)) rfl rfl ?_
    show mWP mTb_ mFT ro (d + 2, 165, 6, [some (.ref 1015), some (.int 2)], [], 0, 0, (mSH, I, L)) _
    refine mB 2 (s2 := (d + 2, 165, 8, [some (.ref 1015), some (.int 2)], [.int 2, .ref 1015], 0, 0, (mSH, I, L))) rfl ?_
    refine mRq (s2 := (d + 2, 165, 9, [some (.ref 1015), some (.int 2)], [.int ((ro 15).2 2)], 0, 0, (mSH, I, L))) rfl (by first | (simp only [e1, e2]; first | decide | rfl) | decide | rfl) ?_
    refine mB 3 (s2 := (d + 2, 165, 14, [some (.ref 1015), some (.int 2)], [.int (((((ro 15).2 2) &&& 255).toUInt32 % 65536).toInt32)], 0, 0, (mSH, I, L))) rfl ?_
    refine mRt (r := (some (.int (((((ro 15).2 2) &&& 255).toUInt32 % 65536).toInt32)))) (h := (mSH, I, L)) rfl (by first | (simp only [e1, e2]; first | decide | rfl) | decide | rfl) ?_
    show mWP mTb_ mFT ro (d + 3, 161, 15, [some (.ref 1005), some (.int 2)], [.int (((((ro 15).2 2) &&& 255).toUInt32 % 65536).toInt32)], 0, 0, (mSH, I, L)) _
    refine mRt (r := (some (.int (((((ro 15).2 2) &&& 255).toUInt32 % 65536).toInt32)))) (h := (mSH, I, L)) rfl (by first | (simp only [e1, e2]; first | decide | rfl) | decide | rfl) ?_
    (rw [show ((((ro 15).2 2) &&& 255).toUInt32 % 65536).toInt32 = 114 by rw [e2]; decide]; exact hq)
theorem w_char_2_3 {ro : Nat → Nat × (Nat → Int32)} {Q : mPo} {d : Nat} {I : Nat → Nat → Int32} {L : Nat → Nat → Int64} (hB : mRB ro) (hq : Q (some (.int 116)) (mSH, I, L))  : mWP mTb_ mFT ro (d + 3, 161, 0, [some (.ref 1005), some (.int 3)], [], 0, 0, (mSH, I, L)) Q := by
  have e1 : (ro 15).1 = 5 := (hB 2 (by omega)).1
  have e2 : (ro 15).2 3 = 116 := (hB 2 (by omega)).2 3
  refine mB 1 (s2 := (d + 3, 161, 1, [some (.ref 1005), some (.int 3)], [.ref 1005], 0, 0, (mSH, I, L))) rfl ?_
  refine mCall (s2 := (d + 2, 163, 0, [some (.ref 1005)], [], 0, 0, (mSH, I, L))) rfl ?_
  refine mB 1 (s2 := (d + 2, 163, 3, [some (.ref 1005)], [.int 1], 0, 0, (mSH, I, L))) rfl ?_
  refine mBF (s3 := (d + 2, 163, 6, [some (.ref 1005)], [], 0, 0, (mSH, I, L))) rfl (by decide) ?_
  refine mB 2 (s2 := (d + 2, 163, 10, [some (.ref 1005)], [.int 0], 0, 0, (mSH, I, L))) rfl ?_
  refine mBT (s2 := (d + 2, 163, 13, [some (.ref 1005)], [], 0, 0, (mSH, I, L))) rfl (by decide) ?_
  refine mB 2 (s2 := (d + 2, 163, 18, [some (.ref 1005)], [.int 1], 0, 0, (mSH, I, L))) rfl ?_
  refine mRt (r := (some (.int 1))) (h := (mSH, I, L)) rfl rfl ?_
  show mWP mTb_ mFT ro (d + 3, 161, 4, [some (.ref 1005), some (.int 3)], [.int 1], 0, 0, (mSH, I, L)) _
  refine mBF (s3 := (d + 3, 161, 7, [some (.ref 1005), some (.int 3)], [], 0, 0, (mSH, I, L))) rfl (by decide) ?_
  refine mB 3 (s2 := (d + 3, 161, 12, [some (.ref 1005), some (.int 3)], [.int 3, .ref 1015], 0, 0, (mSH, I, L))) rfl ?_
  refine mCall (s2 := (d + 2, 165, 0, [some (.ref 1015), some (.int 3)], [], 0, 0, (mSH, I, L))) rfl ?_
  refine mB 3 (s2 := (d + 2, 165, 3, [some (.ref 1015), some (.int 3)], [.int (Int32.ofNat (ro 15).1), .int 3], 0, 0, (mSH, I, L))) rfl ?_
  refine mCall (s2 := (d + 1, 164, 0, [some (.int 3), some (.int (Int32.ofNat (ro 15).1))], [], 0, 0, (mSH, I, L))) rfl ?_
  refine mB 2 (s2 := (d + 1, 164, 2, [some (.int 3), some (.int (Int32.ofNat (ro 15).1))], [.int (Int32.ofNat (ro 15).1), .int 3], 0, 0, (mSH, I, L))) rfl ?_
  refine mBr (s2 := (d + 1, 164, 5, [some (.int 3), some (.int (Int32.ofNat (ro 15).1))], [.null, .int (Int32.ofNat (ro 15).1), .int 3], 0, 0, (mSH, I, L))) (s3 := (d + 1, 164, 5, [some (.int 3), some (.int (Int32.ofNat (ro 15).1))], [.ref 1007, .int (Int32.ofNat (ro 15).1), .int 3], 0, 0, (mSH, I, L))) rfl (fun _ => ?_) (fun _ => ?_)
  · refine mCall (s2 := (d, 167, 0, [some (.int 3), some (.int (Int32.ofNat (ro 15).1)), some .null], [], 0, 0, (mSH, I, L))) rfl ?_
    refine mB 1 (s2 := (d, 167, 1, [some (.int 3), some (.int (Int32.ofNat (ro 15).1)), some .null], [.int 3], 0, 0, (mSH, I, L))) rfl ?_
    refine mBF (s3 := (d, 167, 4, [some (.int 3), some (.int (Int32.ofNat (ro 15).1)), some .null], [], 0, 0, (mSH, I, L))) rfl (by decide) ?_
    refine mB 2 (s2 := (d, 167, 6, [some (.int 3), some (.int (Int32.ofNat (ro 15).1)), some .null], [.int (Int32.ofNat (ro 15).1), .int 3], 0, 0, (mSH, I, L))) rfl ?_
    refine mBT (s2 := (d, 167, 16, [some (.int 3), some (.int (Int32.ofNat (ro 15).1)), some .null], [], 0, 0, (mSH, I, L))) rfl (by first | (simp only [e1, e2]; first | decide | rfl) | decide | rfl) ?_
    refine mB 1 (s2 := (d, 167, 17, [some (.int 3), some (.int (Int32.ofNat (ro 15).1)), some .null], [.int 3], 0, 0, (mSH, I, L))) rfl ?_
    refine mRt (r := (some (.int 3))) (h := (mSH, I, L)) rfl (mRet_int rfl) ?_
    show mWP mTb_ mFT ro (d + 1, 164, 8, [some (.int 3), some (.int (Int32.ofNat (ro 15).1))], [.int 3], 0, 0, (mSH, I, L)) _
    refine mB 1 (s2 := (d + 1, 164, 9, [some (.int 3), some (.int (Int32.ofNat (ro 15).1))], [], 0, 0, (mSH, I, L))) rfl ?_
    refine mRt (r := none) (h := (mSH, I, L)) rfl rfl ?_
    show mWP mTb_ mFT ro (d + 2, 165, 6, [some (.ref 1015), some (.int 3)], [], 0, 0, (mSH, I, L)) _
    refine mB 2 (s2 := (d + 2, 165, 8, [some (.ref 1015), some (.int 3)], [.int 3, .ref 1015], 0, 0, (mSH, I, L))) rfl ?_
    refine mRq (s2 := (d + 2, 165, 9, [some (.ref 1015), some (.int 3)], [.int ((ro 15).2 3)], 0, 0, (mSH, I, L))) rfl (by first | (simp only [e1, e2]; first | decide | rfl) | decide | rfl) ?_
    refine mB 3 (s2 := (d + 2, 165, 14, [some (.ref 1015), some (.int 3)], [.int (((((ro 15).2 3) &&& 255).toUInt32 % 65536).toInt32)], 0, 0, (mSH, I, L))) rfl ?_
    refine mRt (r := (some (.int (((((ro 15).2 3) &&& 255).toUInt32 % 65536).toInt32)))) (h := (mSH, I, L)) rfl (by first | (simp only [e1, e2]; first | decide | rfl) | decide | rfl) ?_
    show mWP mTb_ mFT ro (d + 3, 161, 15, [some (.ref 1005), some (.int 3)], [.int (((((ro 15).2 3) &&& 255).toUInt32 % 65536).toInt32)], 0, 0, (mSH, I, L)) _
    refine mRt (r := (some (.int (((((ro 15).2 3) &&& 255).toUInt32 % 65536).toInt32)))) (h := (mSH, I, L)) rfl (by first | (simp only [e1, e2]; first | decide | rfl) | decide | rfl) ?_
    (rw [show ((((ro 15).2 3) &&& 255).toUInt32 % 65536).toInt32 = 116 by rw [e2]; decide]; exact hq)
  · refine mCall (s2 := (d, 167, 0, [some (.int 3), some (.int (Int32.ofNat (ro 15).1)), some (.ref 1007)], [], 0, 0, (mSH, I, L))) rfl ?_
    refine mB 1 (s2 := (d, 167, 1, [some (.int 3), some (.int (Int32.ofNat (ro 15).1)), some (.ref 1007)], [.int 3], 0, 0, (mSH, I, L))) rfl ?_
    refine mBF (s3 := (d, 167, 4, [some (.int 3), some (.int (Int32.ofNat (ro 15).1)), some (.ref 1007)], [], 0, 0, (mSH, I, L))) rfl (by decide) ?_
    refine mB 2 (s2 := (d, 167, 6, [some (.int 3), some (.int (Int32.ofNat (ro 15).1)), some (.ref 1007)], [.int (Int32.ofNat (ro 15).1), .int 3], 0, 0, (mSH, I, L))) rfl ?_
    refine mBT (s2 := (d, 167, 16, [some (.int 3), some (.int (Int32.ofNat (ro 15).1)), some (.ref 1007)], [], 0, 0, (mSH, I, L))) rfl (by first | (simp only [e1, e2]; first | decide | rfl) | decide | rfl) ?_
    refine mB 1 (s2 := (d, 167, 17, [some (.int 3), some (.int (Int32.ofNat (ro 15).1)), some (.ref 1007)], [.int 3], 0, 0, (mSH, I, L))) rfl ?_
    refine mRt (r := (some (.int 3))) (h := (mSH, I, L)) rfl (mRet_int rfl) ?_
    show mWP mTb_ mFT ro (d + 1, 164, 8, [some (.int 3), some (.int (Int32.ofNat (ro 15).1))], [.int 3], 0, 0, (mSH, I, L)) _
    refine mB 1 (s2 := (d + 1, 164, 9, [some (.int 3), some (.int (Int32.ofNat (ro 15).1))], [], 0, 0, (mSH, I, L))) rfl ?_
    refine mRt (r := none) (h := (mSH, I, L)) rfl rfl ?_
    show mWP mTb_ mFT ro (d + 2, 165, 6, [some (.ref 1015), some (.int 3)], [], 0, 0, (mSH, I, L)) _
    refine mB 2 (s2 := (d + 2, 165, 8, [some (.ref 1015), some (.int 3)], [.int 3, .ref 1015], 0, 0, (mSH, I, L))) rfl ?_
    refine mRq (s2 := (d + 2, 165, 9, [some (.ref 1015), some (.int 3)], [.int ((ro 15).2 3)], 0, 0, (mSH, I, L))) rfl (by first | (simp only [e1, e2]; first | decide | rfl) | decide | rfl) ?_
    refine mB 3 (s2 := (d + 2, 165, 14, [some (.ref 1015), some (.int 3)], [.int (((((ro 15).2 3) &&& 255).toUInt32 % 65536).toInt32)], 0, 0, (mSH, I, L))) rfl ?_
    refine mRt (r := (some (.int (((((ro 15).2 3) &&& 255).toUInt32 % 65536).toInt32)))) (h := (mSH, I, L)) rfl (by first | (simp only [e1, e2]; first | decide | rfl) | decide | rfl) ?_
    show mWP mTb_ mFT ro (d + 3, 161, 15, [some (.ref 1005), some (.int 3)], [.int (((((ro 15).2 3) &&& 255).toUInt32 % 65536).toInt32)], 0, 0, (mSH, I, L)) _
    refine mRt (r := (some (.int (((((ro 15).2 3) &&& 255).toUInt32 % 65536).toInt32)))) (h := (mSH, I, L)) rfl (by first | (simp only [e1, e2]; first | decide | rfl) | decide | rfl) ?_
    (rw [show ((((ro 15).2 3) &&& 255).toUInt32 % 65536).toInt32 = 116 by rw [e2]; decide]; exact hq)
theorem w_char_2_4 {ro : Nat → Nat × (Nat → Int32)} {Q : mPo} {d : Nat} {I : Nat → Nat → Int32} {L : Nat → Nat → Int64} (hB : mRB ro) (hq : Q (some (.int 104)) (mSH, I, L))  : mWP mTb_ mFT ro (d + 3, 161, 0, [some (.ref 1005), some (.int 4)], [], 0, 0, (mSH, I, L)) Q := by
  have e1 : (ro 15).1 = 5 := (hB 2 (by omega)).1
  have e2 : (ro 15).2 4 = 104 := (hB 2 (by omega)).2 4
  refine mB 1 (s2 := (d + 3, 161, 1, [some (.ref 1005), some (.int 4)], [.ref 1005], 0, 0, (mSH, I, L))) rfl ?_
  refine mCall (s2 := (d + 2, 163, 0, [some (.ref 1005)], [], 0, 0, (mSH, I, L))) rfl ?_
  refine mB 1 (s2 := (d + 2, 163, 3, [some (.ref 1005)], [.int 1], 0, 0, (mSH, I, L))) rfl ?_
  refine mBF (s3 := (d + 2, 163, 6, [some (.ref 1005)], [], 0, 0, (mSH, I, L))) rfl (by decide) ?_
  refine mB 2 (s2 := (d + 2, 163, 10, [some (.ref 1005)], [.int 0], 0, 0, (mSH, I, L))) rfl ?_
  refine mBT (s2 := (d + 2, 163, 13, [some (.ref 1005)], [], 0, 0, (mSH, I, L))) rfl (by decide) ?_
  refine mB 2 (s2 := (d + 2, 163, 18, [some (.ref 1005)], [.int 1], 0, 0, (mSH, I, L))) rfl ?_
  refine mRt (r := (some (.int 1))) (h := (mSH, I, L)) rfl rfl ?_
  show mWP mTb_ mFT ro (d + 3, 161, 4, [some (.ref 1005), some (.int 4)], [.int 1], 0, 0, (mSH, I, L)) _
  refine mBF (s3 := (d + 3, 161, 7, [some (.ref 1005), some (.int 4)], [], 0, 0, (mSH, I, L))) rfl (by decide) ?_
  refine mB 3 (s2 := (d + 3, 161, 12, [some (.ref 1005), some (.int 4)], [.int 4, .ref 1015], 0, 0, (mSH, I, L))) rfl ?_
  refine mCall (s2 := (d + 2, 165, 0, [some (.ref 1015), some (.int 4)], [], 0, 0, (mSH, I, L))) rfl ?_
  refine mB 3 (s2 := (d + 2, 165, 3, [some (.ref 1015), some (.int 4)], [.int (Int32.ofNat (ro 15).1), .int 4], 0, 0, (mSH, I, L))) rfl ?_
  refine mCall (s2 := (d + 1, 164, 0, [some (.int 4), some (.int (Int32.ofNat (ro 15).1))], [], 0, 0, (mSH, I, L))) rfl ?_
  refine mB 2 (s2 := (d + 1, 164, 2, [some (.int 4), some (.int (Int32.ofNat (ro 15).1))], [.int (Int32.ofNat (ro 15).1), .int 4], 0, 0, (mSH, I, L))) rfl ?_
  refine mBr (s2 := (d + 1, 164, 5, [some (.int 4), some (.int (Int32.ofNat (ro 15).1))], [.null, .int (Int32.ofNat (ro 15).1), .int 4], 0, 0, (mSH, I, L))) (s3 := (d + 1, 164, 5, [some (.int 4), some (.int (Int32.ofNat (ro 15).1))], [.ref 1007, .int (Int32.ofNat (ro 15).1), .int 4], 0, 0, (mSH, I, L))) rfl (fun _ => ?_) (fun _ => ?_)
  · refine mCall (s2 := (d, 167, 0, [some (.int 4), some (.int (Int32.ofNat (ro 15).1)), some .null], [], 0, 0, (mSH, I, L))) rfl ?_
    refine mB 1 (s2 := (d, 167, 1, [some (.int 4), some (.int (Int32.ofNat (ro 15).1)), some .null], [.int 4], 0, 0, (mSH, I, L))) rfl ?_
    refine mBF (s3 := (d, 167, 4, [some (.int 4), some (.int (Int32.ofNat (ro 15).1)), some .null], [], 0, 0, (mSH, I, L))) rfl (by decide) ?_
    refine mB 2 (s2 := (d, 167, 6, [some (.int 4), some (.int (Int32.ofNat (ro 15).1)), some .null], [.int (Int32.ofNat (ro 15).1), .int 4], 0, 0, (mSH, I, L))) rfl ?_
    refine mBT (s2 := (d, 167, 16, [some (.int 4), some (.int (Int32.ofNat (ro 15).1)), some .null], [], 0, 0, (mSH, I, L))) rfl (by first | (simp only [e1, e2]; first | decide | rfl) | decide | rfl) ?_
    refine mB 1 (s2 := (d, 167, 17, [some (.int 4), some (.int (Int32.ofNat (ro 15).1)), some .null], [.int 4], 0, 0, (mSH, I, L))) rfl ?_
    refine mRt (r := (some (.int 4))) (h := (mSH, I, L)) rfl (mRet_int rfl) ?_
    show mWP mTb_ mFT ro (d + 1, 164, 8, [some (.int 4), some (.int (Int32.ofNat (ro 15).1))], [.int 4], 0, 0, (mSH, I, L)) _
    refine mB 1 (s2 := (d + 1, 164, 9, [some (.int 4), some (.int (Int32.ofNat (ro 15).1))], [], 0, 0, (mSH, I, L))) rfl ?_
    refine mRt (r := none) (h := (mSH, I, L)) rfl rfl ?_
    show mWP mTb_ mFT ro (d + 2, 165, 6, [some (.ref 1015), some (.int 4)], [], 0, 0, (mSH, I, L)) _
    refine mB 2 (s2 := (d + 2, 165, 8, [some (.ref 1015), some (.int 4)], [.int 4, .ref 1015], 0, 0, (mSH, I, L))) rfl ?_
    refine mRq (s2 := (d + 2, 165, 9, [some (.ref 1015), some (.int 4)], [.int ((ro 15).2 4)], 0, 0, (mSH, I, L))) rfl (by first | (simp only [e1, e2]; first | decide | rfl) | decide | rfl) ?_
    refine mB 3 (s2 := (d + 2, 165, 14, [some (.ref 1015), some (.int 4)], [.int (((((ro 15).2 4) &&& 255).toUInt32 % 65536).toInt32)], 0, 0, (mSH, I, L))) rfl ?_
    refine mRt (r := (some (.int (((((ro 15).2 4) &&& 255).toUInt32 % 65536).toInt32)))) (h := (mSH, I, L)) rfl (by first | (simp only [e1, e2]; first | decide | rfl) | decide | rfl) ?_
    show mWP mTb_ mFT ro (d + 3, 161, 15, [some (.ref 1005), some (.int 4)], [.int (((((ro 15).2 4) &&& 255).toUInt32 % 65536).toInt32)], 0, 0, (mSH, I, L)) _
    refine mRt (r := (some (.int (((((ro 15).2 4) &&& 255).toUInt32 % 65536).toInt32)))) (h := (mSH, I, L)) rfl (by first | (simp only [e1, e2]; first | decide | rfl) | decide | rfl) ?_
    (rw [show ((((ro 15).2 4) &&& 255).toUInt32 % 65536).toInt32 = 104 by rw [e2]; decide]; exact hq)
  · refine mCall (s2 := (d, 167, 0, [some (.int 4), some (.int (Int32.ofNat (ro 15).1)), some (.ref 1007)], [], 0, 0, (mSH, I, L))) rfl ?_
    refine mB 1 (s2 := (d, 167, 1, [some (.int 4), some (.int (Int32.ofNat (ro 15).1)), some (.ref 1007)], [.int 4], 0, 0, (mSH, I, L))) rfl ?_
    refine mBF (s3 := (d, 167, 4, [some (.int 4), some (.int (Int32.ofNat (ro 15).1)), some (.ref 1007)], [], 0, 0, (mSH, I, L))) rfl (by decide) ?_
    refine mB 2 (s2 := (d, 167, 6, [some (.int 4), some (.int (Int32.ofNat (ro 15).1)), some (.ref 1007)], [.int (Int32.ofNat (ro 15).1), .int 4], 0, 0, (mSH, I, L))) rfl ?_
    refine mBT (s2 := (d, 167, 16, [some (.int 4), some (.int (Int32.ofNat (ro 15).1)), some (.ref 1007)], [], 0, 0, (mSH, I, L))) rfl (by first | (simp only [e1, e2]; first | decide | rfl) | decide | rfl) ?_
    refine mB 1 (s2 := (d, 167, 17, [some (.int 4), some (.int (Int32.ofNat (ro 15).1)), some (.ref 1007)], [.int 4], 0, 0, (mSH, I, L))) rfl ?_
    refine mRt (r := (some (.int 4))) (h := (mSH, I, L)) rfl (mRet_int rfl) ?_
    show mWP mTb_ mFT ro (d + 1, 164, 8, [some (.int 4), some (.int (Int32.ofNat (ro 15).1))], [.int 4], 0, 0, (mSH, I, L)) _
    refine mB 1 (s2 := (d + 1, 164, 9, [some (.int 4), some (.int (Int32.ofNat (ro 15).1))], [], 0, 0, (mSH, I, L))) rfl ?_
    refine mRt (r := none) (h := (mSH, I, L)) rfl rfl ?_
    show mWP mTb_ mFT ro (d + 2, 165, 6, [some (.ref 1015), some (.int 4)], [], 0, 0, (mSH, I, L)) _
    refine mB 2 (s2 := (d + 2, 165, 8, [some (.ref 1015), some (.int 4)], [.int 4, .ref 1015], 0, 0, (mSH, I, L))) rfl ?_
    refine mRq (s2 := (d + 2, 165, 9, [some (.ref 1015), some (.int 4)], [.int ((ro 15).2 4)], 0, 0, (mSH, I, L))) rfl (by first | (simp only [e1, e2]; first | decide | rfl) | decide | rfl) ?_
    refine mB 3 (s2 := (d + 2, 165, 14, [some (.ref 1015), some (.int 4)], [.int (((((ro 15).2 4) &&& 255).toUInt32 % 65536).toInt32)], 0, 0, (mSH, I, L))) rfl ?_
    refine mRt (r := (some (.int (((((ro 15).2 4) &&& 255).toUInt32 % 65536).toInt32)))) (h := (mSH, I, L)) rfl (by first | (simp only [e1, e2]; first | decide | rfl) | decide | rfl) ?_
    show mWP mTb_ mFT ro (d + 3, 161, 15, [some (.ref 1005), some (.int 4)], [.int (((((ro 15).2 4) &&& 255).toUInt32 % 65536).toInt32)], 0, 0, (mSH, I, L)) _
    refine mRt (r := (some (.int (((((ro 15).2 4) &&& 255).toUInt32 % 65536).toInt32)))) (h := (mSH, I, L)) rfl (by first | (simp only [e1, e2]; first | decide | rfl) | decide | rfl) ?_
    (rw [show ((((ro 15).2 4) &&& 255).toUInt32 % 65536).toInt32 = 104 by rw [e2]; decide]; exact hq)
theorem w_len_3 {ro : Nat → Nat × (Nat → Int32)} {Q : mPo} {d : Nat} {I : Nat → Nat → Int32} {L : Nat → Nat → Int64} (hB : mRB ro) (hq : Q (some (.int 5)) (mSH, I, L))  : mWP mTb_ mFT ro (d + 1, 160, 0, [some (.ref 1006)], [], 0, 0, (mSH, I, L)) Q := by
  have e1 : (ro 16).1 = 5 := (hB 3 (by omega)).1
  refine mB 4 (s2 := (d + 1, 160, 6, [some (.ref 1006)], [.ref 1006, .int (Int32.ofNat (ro 16).1)], 0, 0, (mSH, I, L))) rfl ?_
  refine mCall (s2 := (d, 162, 0, [some (.ref 1006)], [], 0, 0, (mSH, I, L))) rfl ?_
  refine mB 1 (s2 := (d, 162, 3, [some (.ref 1006)], [.int 1], 0, 0, (mSH, I, L))) rfl ?_
  refine mBF (s3 := (d, 162, 6, [some (.ref 1006)], [], 0, 0, (mSH, I, L))) rfl (by decide) ?_
  refine mB 3 (s2 := (d, 162, 14, [some (.ref 1006)], [.int 0], 0, 0, (mSH, I, L))) rfl ?_
  refine mRt (r := (some (.int 0))) (h := (mSH, I, L)) rfl rfl ?_
  show mWP mTb_ mFT ro (d + 1, 160, 9, [some (.ref 1006)], [.int 0, .int (Int32.ofNat (ro 16).1)], 0, 0, (mSH, I, L)) _
  refine mB 1 (s2 := (d + 1, 160, 10, [some (.ref 1006)], [.int ((Int32.ofNat (ro 16).1) >>> (0 &&& 31))], 0, 0, (mSH, I, L))) rfl ?_
  refine mRt (r := (some (.int ((Int32.ofNat (ro 16).1) >>> (0 &&& 31))))) (h := (mSH, I, L)) rfl (mRet_int rfl) ?_
  (rw [show (Int32.ofNat (ro 16).1) >>> (0 &&& 31) = 5 by rw [e1]; decide]; exact hq)
theorem w_char_3_0 {ro : Nat → Nat × (Nat → Int32)} {Q : mPo} {d : Nat} {I : Nat → Nat → Int32} {L : Nat → Nat → Int64} (hB : mRB ro) (hq : Q (some (.int 115)) (mSH, I, L))  : mWP mTb_ mFT ro (d + 3, 161, 0, [some (.ref 1006), some (.int 0)], [], 0, 0, (mSH, I, L)) Q := by
  have e1 : (ro 16).1 = 5 := (hB 3 (by omega)).1
  have e2 : (ro 16).2 0 = 115 := (hB 3 (by omega)).2 0
  refine mB 1 (s2 := (d + 3, 161, 1, [some (.ref 1006), some (.int 0)], [.ref 1006], 0, 0, (mSH, I, L))) rfl ?_
  refine mCall (s2 := (d + 2, 163, 0, [some (.ref 1006)], [], 0, 0, (mSH, I, L))) rfl ?_
  refine mB 1 (s2 := (d + 2, 163, 3, [some (.ref 1006)], [.int 1], 0, 0, (mSH, I, L))) rfl ?_
  refine mBF (s3 := (d + 2, 163, 6, [some (.ref 1006)], [], 0, 0, (mSH, I, L))) rfl (by decide) ?_
  refine mB 2 (s2 := (d + 2, 163, 10, [some (.ref 1006)], [.int 0], 0, 0, (mSH, I, L))) rfl ?_
  refine mBT (s2 := (d + 2, 163, 13, [some (.ref 1006)], [], 0, 0, (mSH, I, L))) rfl (by decide) ?_
  refine mB 2 (s2 := (d + 2, 163, 18, [some (.ref 1006)], [.int 1], 0, 0, (mSH, I, L))) rfl ?_
  refine mRt (r := (some (.int 1))) (h := (mSH, I, L)) rfl rfl ?_
  show mWP mTb_ mFT ro (d + 3, 161, 4, [some (.ref 1006), some (.int 0)], [.int 1], 0, 0, (mSH, I, L)) _
  refine mBF (s3 := (d + 3, 161, 7, [some (.ref 1006), some (.int 0)], [], 0, 0, (mSH, I, L))) rfl (by decide) ?_
  refine mB 3 (s2 := (d + 3, 161, 12, [some (.ref 1006), some (.int 0)], [.int 0, .ref 1016], 0, 0, (mSH, I, L))) rfl ?_
  refine mCall (s2 := (d + 2, 165, 0, [some (.ref 1016), some (.int 0)], [], 0, 0, (mSH, I, L))) rfl ?_
  refine mB 3 (s2 := (d + 2, 165, 3, [some (.ref 1016), some (.int 0)], [.int (Int32.ofNat (ro 16).1), .int 0], 0, 0, (mSH, I, L))) rfl ?_
  refine mCall (s2 := (d + 1, 164, 0, [some (.int 0), some (.int (Int32.ofNat (ro 16).1))], [], 0, 0, (mSH, I, L))) rfl ?_
  refine mB 2 (s2 := (d + 1, 164, 2, [some (.int 0), some (.int (Int32.ofNat (ro 16).1))], [.int (Int32.ofNat (ro 16).1), .int 0], 0, 0, (mSH, I, L))) rfl ?_
  refine mBr (s2 := (d + 1, 164, 5, [some (.int 0), some (.int (Int32.ofNat (ro 16).1))], [.null, .int (Int32.ofNat (ro 16).1), .int 0], 0, 0, (mSH, I, L))) (s3 := (d + 1, 164, 5, [some (.int 0), some (.int (Int32.ofNat (ro 16).1))], [.ref 1007, .int (Int32.ofNat (ro 16).1), .int 0], 0, 0, (mSH, I, L))) rfl (fun _ => ?_) (fun _ => ?_)
  · refine mCall (s2 := (d, 167, 0, [some (.int 0), some (.int (Int32.ofNat (ro 16).1)), some .null], [], 0, 0, (mSH, I, L))) rfl ?_
    refine mB 1 (s2 := (d, 167, 1, [some (.int 0), some (.int (Int32.ofNat (ro 16).1)), some .null], [.int 0], 0, 0, (mSH, I, L))) rfl ?_
    refine mBF (s3 := (d, 167, 4, [some (.int 0), some (.int (Int32.ofNat (ro 16).1)), some .null], [], 0, 0, (mSH, I, L))) rfl (by decide) ?_
    refine mB 2 (s2 := (d, 167, 6, [some (.int 0), some (.int (Int32.ofNat (ro 16).1)), some .null], [.int (Int32.ofNat (ro 16).1), .int 0], 0, 0, (mSH, I, L))) rfl ?_
    refine mBT (s2 := (d, 167, 16, [some (.int 0), some (.int (Int32.ofNat (ro 16).1)), some .null], [], 0, 0, (mSH, I, L))) rfl (by first | (simp only [e1, e2]; first | decide | rfl) | decide | rfl) ?_
    refine mB 1 (s2 := (d, 167, 17, [some (.int 0), some (.int (Int32.ofNat (ro 16).1)), some .null], [.int 0], 0, 0, (mSH, I, L))) rfl ?_
    refine mRt (r := (some (.int 0))) (h := (mSH, I, L)) rfl (mRet_int rfl) ?_
    show mWP mTb_ mFT ro (d + 1, 164, 8, [some (.int 0), some (.int (Int32.ofNat (ro 16).1))], [.int 0], 0, 0, (mSH, I, L)) _
    refine mB 1 (s2 := (d + 1, 164, 9, [some (.int 0), some (.int (Int32.ofNat (ro 16).1))], [], 0, 0, (mSH, I, L))) rfl ?_
    refine mRt (r := none) (h := (mSH, I, L)) rfl rfl ?_
    show mWP mTb_ mFT ro (d + 2, 165, 6, [some (.ref 1016), some (.int 0)], [], 0, 0, (mSH, I, L)) _
    refine mB 2 (s2 := (d + 2, 165, 8, [some (.ref 1016), some (.int 0)], [.int 0, .ref 1016], 0, 0, (mSH, I, L))) rfl ?_
    refine mRq (s2 := (d + 2, 165, 9, [some (.ref 1016), some (.int 0)], [.int ((ro 16).2 0)], 0, 0, (mSH, I, L))) rfl (by first | (simp only [e1, e2]; first | decide | rfl) | decide | rfl) ?_
    refine mB 3 (s2 := (d + 2, 165, 14, [some (.ref 1016), some (.int 0)], [.int (((((ro 16).2 0) &&& 255).toUInt32 % 65536).toInt32)], 0, 0, (mSH, I, L))) rfl ?_
    refine mRt (r := (some (.int (((((ro 16).2 0) &&& 255).toUInt32 % 65536).toInt32)))) (h := (mSH, I, L)) rfl (by first | (simp only [e1, e2]; first | decide | rfl) | decide | rfl) ?_
    show mWP mTb_ mFT ro (d + 3, 161, 15, [some (.ref 1006), some (.int 0)], [.int (((((ro 16).2 0) &&& 255).toUInt32 % 65536).toInt32)], 0, 0, (mSH, I, L)) _
    refine mRt (r := (some (.int (((((ro 16).2 0) &&& 255).toUInt32 % 65536).toInt32)))) (h := (mSH, I, L)) rfl (by first | (simp only [e1, e2]; first | decide | rfl) | decide | rfl) ?_
    (rw [show ((((ro 16).2 0) &&& 255).toUInt32 % 65536).toInt32 = 115 by rw [e2]; decide]; exact hq)
  · refine mCall (s2 := (d, 167, 0, [some (.int 0), some (.int (Int32.ofNat (ro 16).1)), some (.ref 1007)], [], 0, 0, (mSH, I, L))) rfl ?_
    refine mB 1 (s2 := (d, 167, 1, [some (.int 0), some (.int (Int32.ofNat (ro 16).1)), some (.ref 1007)], [.int 0], 0, 0, (mSH, I, L))) rfl ?_
    refine mBF (s3 := (d, 167, 4, [some (.int 0), some (.int (Int32.ofNat (ro 16).1)), some (.ref 1007)], [], 0, 0, (mSH, I, L))) rfl (by decide) ?_
    refine mB 2 (s2 := (d, 167, 6, [some (.int 0), some (.int (Int32.ofNat (ro 16).1)), some (.ref 1007)], [.int (Int32.ofNat (ro 16).1), .int 0], 0, 0, (mSH, I, L))) rfl ?_
    refine mBT (s2 := (d, 167, 16, [some (.int 0), some (.int (Int32.ofNat (ro 16).1)), some (.ref 1007)], [], 0, 0, (mSH, I, L))) rfl (by first | (simp only [e1, e2]; first | decide | rfl) | decide | rfl) ?_
    refine mB 1 (s2 := (d, 167, 17, [some (.int 0), some (.int (Int32.ofNat (ro 16).1)), some (.ref 1007)], [.int 0], 0, 0, (mSH, I, L))) rfl ?_
    refine mRt (r := (some (.int 0))) (h := (mSH, I, L)) rfl (mRet_int rfl) ?_
    show mWP mTb_ mFT ro (d + 1, 164, 8, [some (.int 0), some (.int (Int32.ofNat (ro 16).1))], [.int 0], 0, 0, (mSH, I, L)) _
    refine mB 1 (s2 := (d + 1, 164, 9, [some (.int 0), some (.int (Int32.ofNat (ro 16).1))], [], 0, 0, (mSH, I, L))) rfl ?_
    refine mRt (r := none) (h := (mSH, I, L)) rfl rfl ?_
    show mWP mTb_ mFT ro (d + 2, 165, 6, [some (.ref 1016), some (.int 0)], [], 0, 0, (mSH, I, L)) _
    refine mB 2 (s2 := (d + 2, 165, 8, [some (.ref 1016), some (.int 0)], [.int 0, .ref 1016], 0, 0, (mSH, I, L))) rfl ?_
    refine mRq (s2 := (d + 2, 165, 9, [some (.ref 1016), some (.int 0)], [.int ((ro 16).2 0)], 0, 0, (mSH, I, L))) rfl (by first | (simp only [e1, e2]; first | decide | rfl) | decide | rfl) ?_
    refine mB 3 (s2 := (d + 2, 165, 14, [some (.ref 1016), some (.int 0)], [.int (((((ro 16).2 0) &&& 255).toUInt32 % 65536).toInt32)], 0, 0, (mSH, I, L))) rfl ?_
    refine mRt (r := (some (.int (((((ro 16).2 0) &&& 255).toUInt32 % 65536).toInt32)))) (h := (mSH, I, L)) rfl (by first | (simp only [e1, e2]; first | decide | rfl) | decide | rfl) ?_
    show mWP mTb_ mFT ro (d + 3, 161, 15, [some (.ref 1006), some (.int 0)], [.int (((((ro 16).2 0) &&& 255).toUInt32 % 65536).toInt32)], 0, 0, (mSH, I, L)) _
    refine mRt (r := (some (.int (((((ro 16).2 0) &&& 255).toUInt32 % 65536).toInt32)))) (h := (mSH, I, L)) rfl (by first | (simp only [e1, e2]; first | decide | rfl) | decide | rfl) ?_
    (rw [show ((((ro 16).2 0) &&& 255).toUInt32 % 65536).toInt32 = 115 by rw [e2]; decide]; exact hq)
theorem w_char_3_1 {ro : Nat → Nat × (Nat → Int32)} {Q : mPo} {d : Nat} {I : Nat → Nat → Int32} {L : Nat → Nat → Int64} (hB : mRB ro) (hq : Q (some (.int 111)) (mSH, I, L))  : mWP mTb_ mFT ro (d + 3, 161, 0, [some (.ref 1006), some (.int 1)], [], 0, 0, (mSH, I, L)) Q := by
  have e1 : (ro 16).1 = 5 := (hB 3 (by omega)).1
  have e2 : (ro 16).2 1 = 111 := (hB 3 (by omega)).2 1
  refine mB 1 (s2 := (d + 3, 161, 1, [some (.ref 1006), some (.int 1)], [.ref 1006], 0, 0, (mSH, I, L))) rfl ?_
  refine mCall (s2 := (d + 2, 163, 0, [some (.ref 1006)], [], 0, 0, (mSH, I, L))) rfl ?_
  refine mB 1 (s2 := (d + 2, 163, 3, [some (.ref 1006)], [.int 1], 0, 0, (mSH, I, L))) rfl ?_
  refine mBF (s3 := (d + 2, 163, 6, [some (.ref 1006)], [], 0, 0, (mSH, I, L))) rfl (by decide) ?_
  refine mB 2 (s2 := (d + 2, 163, 10, [some (.ref 1006)], [.int 0], 0, 0, (mSH, I, L))) rfl ?_
  refine mBT (s2 := (d + 2, 163, 13, [some (.ref 1006)], [], 0, 0, (mSH, I, L))) rfl (by decide) ?_
  refine mB 2 (s2 := (d + 2, 163, 18, [some (.ref 1006)], [.int 1], 0, 0, (mSH, I, L))) rfl ?_
  refine mRt (r := (some (.int 1))) (h := (mSH, I, L)) rfl rfl ?_
  show mWP mTb_ mFT ro (d + 3, 161, 4, [some (.ref 1006), some (.int 1)], [.int 1], 0, 0, (mSH, I, L)) _
  refine mBF (s3 := (d + 3, 161, 7, [some (.ref 1006), some (.int 1)], [], 0, 0, (mSH, I, L))) rfl (by decide) ?_
  refine mB 3 (s2 := (d + 3, 161, 12, [some (.ref 1006), some (.int 1)], [.int 1, .ref 1016], 0, 0, (mSH, I, L))) rfl ?_
  refine mCall (s2 := (d + 2, 165, 0, [some (.ref 1016), some (.int 1)], [], 0, 0, (mSH, I, L))) rfl ?_
  refine mB 3 (s2 := (d + 2, 165, 3, [some (.ref 1016), some (.int 1)], [.int (Int32.ofNat (ro 16).1), .int 1], 0, 0, (mSH, I, L))) rfl ?_
  refine mCall (s2 := (d + 1, 164, 0, [some (.int 1), some (.int (Int32.ofNat (ro 16).1))], [], 0, 0, (mSH, I, L))) rfl ?_
  refine mB 2 (s2 := (d + 1, 164, 2, [some (.int 1), some (.int (Int32.ofNat (ro 16).1))], [.int (Int32.ofNat (ro 16).1), .int 1], 0, 0, (mSH, I, L))) rfl ?_
  refine mBr (s2 := (d + 1, 164, 5, [some (.int 1), some (.int (Int32.ofNat (ro 16).1))], [.null, .int (Int32.ofNat (ro 16).1), .int 1], 0, 0, (mSH, I, L))) (s3 := (d + 1, 164, 5, [some (.int 1), some (.int (Int32.ofNat (ro 16).1))], [.ref 1007, .int (Int32.ofNat (ro 16).1), .int 1], 0, 0, (mSH, I, L))) rfl (fun _ => ?_) (fun _ => ?_)
  · refine mCall (s2 := (d, 167, 0, [some (.int 1), some (.int (Int32.ofNat (ro 16).1)), some .null], [], 0, 0, (mSH, I, L))) rfl ?_
    refine mB 1 (s2 := (d, 167, 1, [some (.int 1), some (.int (Int32.ofNat (ro 16).1)), some .null], [.int 1], 0, 0, (mSH, I, L))) rfl ?_
    refine mBF (s3 := (d, 167, 4, [some (.int 1), some (.int (Int32.ofNat (ro 16).1)), some .null], [], 0, 0, (mSH, I, L))) rfl (by decide) ?_
    refine mB 2 (s2 := (d, 167, 6, [some (.int 1), some (.int (Int32.ofNat (ro 16).1)), some .null], [.int (Int32.ofNat (ro 16).1), .int 1], 0, 0, (mSH, I, L))) rfl ?_
    refine mBT (s2 := (d, 167, 16, [some (.int 1), some (.int (Int32.ofNat (ro 16).1)), some .null], [], 0, 0, (mSH, I, L))) rfl (by first | (simp only [e1, e2]; first | decide | rfl) | decide | rfl) ?_
    refine mB 1 (s2 := (d, 167, 17, [some (.int 1), some (.int (Int32.ofNat (ro 16).1)), some .null], [.int 1], 0, 0, (mSH, I, L))) rfl ?_
    refine mRt (r := (some (.int 1))) (h := (mSH, I, L)) rfl (mRet_int rfl) ?_
    show mWP mTb_ mFT ro (d + 1, 164, 8, [some (.int 1), some (.int (Int32.ofNat (ro 16).1))], [.int 1], 0, 0, (mSH, I, L)) _
    refine mB 1 (s2 := (d + 1, 164, 9, [some (.int 1), some (.int (Int32.ofNat (ro 16).1))], [], 0, 0, (mSH, I, L))) rfl ?_
    refine mRt (r := none) (h := (mSH, I, L)) rfl rfl ?_
    show mWP mTb_ mFT ro (d + 2, 165, 6, [some (.ref 1016), some (.int 1)], [], 0, 0, (mSH, I, L)) _
    refine mB 2 (s2 := (d + 2, 165, 8, [some (.ref 1016), some (.int 1)], [.int 1, .ref 1016], 0, 0, (mSH, I, L))) rfl ?_
    refine mRq (s2 := (d + 2, 165, 9, [some (.ref 1016), some (.int 1)], [.int ((ro 16).2 1)], 0, 0, (mSH, I, L))) rfl (by first | (simp only [e1, e2]; first | decide | rfl) | decide | rfl) ?_
    refine mB 3 (s2 := (d + 2, 165, 14, [some (.ref 1016), some (.int 1)], [.int (((((ro 16).2 1) &&& 255).toUInt32 % 65536).toInt32)], 0, 0, (mSH, I, L))) rfl ?_
    refine mRt (r := (some (.int (((((ro 16).2 1) &&& 255).toUInt32 % 65536).toInt32)))) (h := (mSH, I, L)) rfl (by first | (simp only [e1, e2]; first | decide | rfl) | decide | rfl) ?_
    show mWP mTb_ mFT ro (d + 3, 161, 15, [some (.ref 1006), some (.int 1)], [.int (((((ro 16).2 1) &&& 255).toUInt32 % 65536).toInt32)], 0, 0, (mSH, I, L)) _
    refine mRt (r := (some (.int (((((ro 16).2 1) &&& 255).toUInt32 % 65536).toInt32)))) (h := (mSH, I, L)) rfl (by first | (simp only [e1, e2]; first | decide | rfl) | decide | rfl) ?_
    (rw [show ((((ro 16).2 1) &&& 255).toUInt32 % 65536).toInt32 = 111 by rw [e2]; decide]; exact hq)
  · refine mCall (s2 := (d, 167, 0, [some (.int 1), some (.int (Int32.ofNat (ro 16).1)), some (.ref 1007)], [], 0, 0, (mSH, I, L))) rfl ?_
    refine mB 1 (s2 := (d, 167, 1, [some (.int 1), some (.int (Int32.ofNat (ro 16).1)), some (.ref 1007)], [.int 1], 0, 0, (mSH, I, L))) rfl ?_
    refine mBF (s3 := (d, 167, 4, [some (.int 1), some (.int (Int32.ofNat (ro 16).1)), some (.ref 1007)], [], 0, 0, (mSH, I, L))) rfl (by decide) ?_
    refine mB 2 (s2 := (d, 167, 6, [some (.int 1), some (.int (Int32.ofNat (ro 16).1)), some (.ref 1007)], [.int (Int32.ofNat (ro 16).1), .int 1], 0, 0, (mSH, I, L))) rfl ?_
    refine mBT (s2 := (d, 167, 16, [some (.int 1), some (.int (Int32.ofNat (ro 16).1)), some (.ref 1007)], [], 0, 0, (mSH, I, L))) rfl (by first | (simp only [e1, e2]; first | decide | rfl) | decide | rfl) ?_
    refine mB 1 (s2 := (d, 167, 17, [some (.int 1), some (.int (Int32.ofNat (ro 16).1)), some (.ref 1007)], [.int 1], 0, 0, (mSH, I, L))) rfl ?_
    refine mRt (r := (some (.int 1))) (h := (mSH, I, L)) rfl (mRet_int rfl) ?_
    show mWP mTb_ mFT ro (d + 1, 164, 8, [some (.int 1), some (.int (Int32.ofNat (ro 16).1))], [.int 1], 0, 0, (mSH, I, L)) _
    refine mB 1 (s2 := (d + 1, 164, 9, [some (.int 1), some (.int (Int32.ofNat (ro 16).1))], [], 0, 0, (mSH, I, L))) rfl ?_
    refine mRt (r := none) (h := (mSH, I, L)) rfl rfl ?_
    show mWP mTb_ mFT ro (d + 2, 165, 6, [some (.ref 1016), some (.int 1)], [], 0, 0, (mSH, I, L)) _
    refine mB 2 (s2 := (d + 2, 165, 8, [some (.ref 1016), some (.int 1)], [.int 1, .ref 1016], 0, 0, (mSH, I, L))) rfl ?_
    refine mRq (s2 := (d + 2, 165, 9, [some (.ref 1016), some (.int 1)], [.int ((ro 16).2 1)], 0, 0, (mSH, I, L))) rfl (by first | (simp only [e1, e2]; first | decide | rfl) | decide | rfl) ?_
    refine mB 3 (s2 := (d + 2, 165, 14, [some (.ref 1016), some (.int 1)], [.int (((((ro 16).2 1) &&& 255).toUInt32 % 65536).toInt32)], 0, 0, (mSH, I, L))) rfl ?_
    refine mRt (r := (some (.int (((((ro 16).2 1) &&& 255).toUInt32 % 65536).toInt32)))) (h := (mSH, I, L)) rfl (by first | (simp only [e1, e2]; first | decide | rfl) | decide | rfl) ?_
    show mWP mTb_ mFT ro (d + 3, 161, 15, [some (.ref 1006), some (.int 1)], [.int (((((ro 16).2 1) &&& 255).toUInt32 % 65536).toInt32)], 0, 0, (mSH, I, L)) _
    refine mRt (r := (some (.int (((((ro 16).2 1) &&& 255).toUInt32 % 65536).toInt32)))) (h := (mSH, I, L)) rfl (by first | (simp only [e1, e2]; first | decide | rfl) | decide | rfl) ?_
    (rw [show ((((ro 16).2 1) &&& 255).toUInt32 % 65536).toInt32 = 111 by rw [e2]; decide]; exact hq)
theorem w_char_3_2 {ro : Nat → Nat × (Nat → Int32)} {Q : mPo} {d : Nat} {I : Nat → Nat → Int32} {L : Nat → Nat → Int64} (hB : mRB ro) (hq : Q (some (.int 117)) (mSH, I, L))  : mWP mTb_ mFT ro (d + 3, 161, 0, [some (.ref 1006), some (.int 2)], [], 0, 0, (mSH, I, L)) Q := by
  have e1 : (ro 16).1 = 5 := (hB 3 (by omega)).1
  have e2 : (ro 16).2 2 = 117 := (hB 3 (by omega)).2 2
  refine mB 1 (s2 := (d + 3, 161, 1, [some (.ref 1006), some (.int 2)], [.ref 1006], 0, 0, (mSH, I, L))) rfl ?_
  refine mCall (s2 := (d + 2, 163, 0, [some (.ref 1006)], [], 0, 0, (mSH, I, L))) rfl ?_
  refine mB 1 (s2 := (d + 2, 163, 3, [some (.ref 1006)], [.int 1], 0, 0, (mSH, I, L))) rfl ?_
  refine mBF (s3 := (d + 2, 163, 6, [some (.ref 1006)], [], 0, 0, (mSH, I, L))) rfl (by decide) ?_
  refine mB 2 (s2 := (d + 2, 163, 10, [some (.ref 1006)], [.int 0], 0, 0, (mSH, I, L))) rfl ?_
  refine mBT (s2 := (d + 2, 163, 13, [some (.ref 1006)], [], 0, 0, (mSH, I, L))) rfl (by decide) ?_
  refine mB 2 (s2 := (d + 2, 163, 18, [some (.ref 1006)], [.int 1], 0, 0, (mSH, I, L))) rfl ?_
  refine mRt (r := (some (.int 1))) (h := (mSH, I, L)) rfl rfl ?_
  show mWP mTb_ mFT ro (d + 3, 161, 4, [some (.ref 1006), some (.int 2)], [.int 1], 0, 0, (mSH, I, L)) _
  refine mBF (s3 := (d + 3, 161, 7, [some (.ref 1006), some (.int 2)], [], 0, 0, (mSH, I, L))) rfl (by decide) ?_
  refine mB 3 (s2 := (d + 3, 161, 12, [some (.ref 1006), some (.int 2)], [.int 2, .ref 1016], 0, 0, (mSH, I, L))) rfl ?_
  refine mCall (s2 := (d + 2, 165, 0, [some (.ref 1016), some (.int 2)], [], 0, 0, (mSH, I, L))) rfl ?_
  refine mB 3 (s2 := (d + 2, 165, 3, [some (.ref 1016), some (.int 2)], [.int (Int32.ofNat (ro 16).1), .int 2], 0, 0, (mSH, I, L))) rfl ?_
  refine mCall (s2 := (d + 1, 164, 0, [some (.int 2), some (.int (Int32.ofNat (ro 16).1))], [], 0, 0, (mSH, I, L))) rfl ?_
  refine mB 2 (s2 := (d + 1, 164, 2, [some (.int 2), some (.int (Int32.ofNat (ro 16).1))], [.int (Int32.ofNat (ro 16).1), .int 2], 0, 0, (mSH, I, L))) rfl ?_
  refine mBr (s2 := (d + 1, 164, 5, [some (.int 2), some (.int (Int32.ofNat (ro 16).1))], [.null, .int (Int32.ofNat (ro 16).1), .int 2], 0, 0, (mSH, I, L))) (s3 := (d + 1, 164, 5, [some (.int 2), some (.int (Int32.ofNat (ro 16).1))], [.ref 1007, .int (Int32.ofNat (ro 16).1), .int 2], 0, 0, (mSH, I, L))) rfl (fun _ => ?_) (fun _ => ?_)
  · refine mCall (s2 := (d, 167, 0, [some (.int 2), some (.int (Int32.ofNat (ro 16).1)), some .null], [], 0, 0, (mSH, I, L))) rfl ?_
    refine mB 1 (s2 := (d, 167, 1, [some (.int 2), some (.int (Int32.ofNat (ro 16).1)), some .null], [.int 2], 0, 0, (mSH, I, L))) rfl ?_
    refine mBF (s3 := (d, 167, 4, [some (.int 2), some (.int (Int32.ofNat (ro 16).1)), some .null], [], 0, 0, (mSH, I, L))) rfl (by decide) ?_
    refine mB 2 (s2 := (d, 167, 6, [some (.int 2), some (.int (Int32.ofNat (ro 16).1)), some .null], [.int (Int32.ofNat (ro 16).1), .int 2], 0, 0, (mSH, I, L))) rfl ?_
    refine mBT (s2 := (d, 167, 16, [some (.int 2), some (.int (Int32.ofNat (ro 16).1)), some .null], [], 0, 0, (mSH, I, L))) rfl (by first | (simp only [e1, e2]; first | decide | rfl) | decide | rfl) ?_
    refine mB 1 (s2 := (d, 167, 17, [some (.int 2), some (.int (Int32.ofNat (ro 16).1)), some .null], [.int 2], 0, 0, (mSH, I, L))) rfl ?_
    refine mRt (r := (some (.int 2))) (h := (mSH, I, L)) rfl (mRet_int rfl) ?_
    show mWP mTb_ mFT ro (d + 1, 164, 8, [some (.int 2), some (.int (Int32.ofNat (ro 16).1))], [.int 2], 0, 0, (mSH, I, L)) _
    refine mB 1 (s2 := (d + 1, 164, 9, [some (.int 2), some (.int (Int32.ofNat (ro 16).1))], [], 0, 0, (mSH, I, L))) rfl ?_
    refine mRt (r := none) (h := (mSH, I, L)) rfl rfl ?_
    show mWP mTb_ mFT ro (d + 2, 165, 6, [some (.ref 1016), some (.int 2)], [], 0, 0, (mSH, I, L)) _
    refine mB 2 (s2 := (d + 2, 165, 8, [some (.ref 1016), some (.int 2)], [.int 2, .ref 1016], 0, 0, (mSH, I, L))) rfl ?_
    refine mRq (s2 := (d + 2, 165, 9, [some (.ref 1016), some (.int 2)], [.int ((ro 16).2 2)], 0, 0, (mSH, I, L))) rfl (by first | (simp only [e1, e2]; first | decide | rfl) | decide | rfl) ?_
    refine mB 3 (s2 := (d + 2, 165, 14, [some (.ref 1016), some (.int 2)], [.int (((((ro 16).2 2) &&& 255).toUInt32 % 65536).toInt32)], 0, 0, (mSH, I, L))) rfl ?_
    refine mRt (r := (some (.int (((((ro 16).2 2) &&& 255).toUInt32 % 65536).toInt32)))) (h := (mSH, I, L)) rfl (by first | (simp only [e1, e2]; first | decide | rfl) | decide | rfl) ?_
    show mWP mTb_ mFT ro (d + 3, 161, 15, [some (.ref 1006), some (.int 2)], [.int (((((ro 16).2 2) &&& 255).toUInt32 % 65536).toInt32)], 0, 0, (mSH, I, L)) _
    refine mRt (r := (some (.int (((((ro 16).2 2) &&& 255).toUInt32 % 65536).toInt32)))) (h := (mSH, I, L)) rfl (by first | (simp only [e1, e2]; first | decide | rfl) | decide | rfl) ?_
    (rw [show ((((ro 16).2 2) &&& 255).toUInt32 % 65536).toInt32 = 117 by rw [e2]; decide]; exact hq)
  · refine mCall (s2 := (d, 167, 0, [some (.int 2), some (.int (Int32.ofNat (ro 16).1)), some (.ref 1007)], [], 0, 0, (mSH, I, L))) rfl ?_
    refine mB 1 (s2 := (d, 167, 1, [some (.int 2), some (.int (Int32.ofNat (ro 16).1)), some (.ref 1007)], [.int 2], 0, 0, (mSH, I, L))) rfl ?_
    refine mBF (s3 := (d, 167, 4, [some (.int 2), some (.int (Int32.ofNat (ro 16).1)), some (.ref 1007)], [], 0, 0, (mSH, I, L))) rfl (by decide) ?_
    refine mB 2 (s2 := (d, 167, 6, [some (.int 2), some (.int (Int32.ofNat (ro 16).1)), some (.ref 1007)], [.int (Int32.ofNat (ro 16).1), .int 2], 0, 0, (mSH, I, L))) rfl ?_
    refine mBT (s2 := (d, 167, 16, [some (.int 2), some (.int (Int32.ofNat (ro 16).1)), some (.ref 1007)], [], 0, 0, (mSH, I, L))) rfl (by first | (simp only [e1, e2]; first | decide | rfl) | decide | rfl) ?_
    refine mB 1 (s2 := (d, 167, 17, [some (.int 2), some (.int (Int32.ofNat (ro 16).1)), some (.ref 1007)], [.int 2], 0, 0, (mSH, I, L))) rfl ?_
    refine mRt (r := (some (.int 2))) (h := (mSH, I, L)) rfl (mRet_int rfl) ?_
    show mWP mTb_ mFT ro (d + 1, 164, 8, [some (.int 2), some (.int (Int32.ofNat (ro 16).1))], [.int 2], 0, 0, (mSH, I, L)) _
    refine mB 1 (s2 := (d + 1, 164, 9, [some (.int 2), some (.int (Int32.ofNat (ro 16).1))], [], 0, 0, (mSH, I, L))) rfl ?_
    refine mRt (r := none) (h := (mSH, I, L)) rfl rfl ?_
    show mWP mTb_ mFT ro (d + 2, 165, 6, [some (.ref 1016), some (.int 2)], [], 0, 0, (mSH, I, L)) _
    refine mB 2 (s2 := (d + 2, 165, 8, [some (.ref 1016), some (.int 2)], [.int 2, .ref 1016], 0, 0, (mSH, I, L))) rfl ?_
    refine mRq (s2 := (d + 2, 165, 9, [some (.ref 1016), some (.int 2)], [.int ((ro 16).2 2)], 0, 0, (mSH, I, L))) rfl (by first | (simp only [e1, e2]; first | decide | rfl) | decide | rfl) ?_
    refine mB 3 (s2 := (d + 2, 165, 14, [some (.ref 1016), some (.int 2)], [.int (((((ro 16).2 2) &&& 255).toUInt32 % 65536).toInt32)], 0, 0, (mSH, I, L))) rfl ?_
    refine mRt (r := (some (.int (((((ro 16).2 2) &&& 255).toUInt32 % 65536).toInt32)))) (h := (mSH, I, L)) rfl (by first | (simp only [e1, e2]; first | decide | rfl) | decide | rfl) ?_
    show mWP mTb_ mFT ro (d + 3, 161, 15, [some (.ref 1006), some (.int 2)], [.int (((((ro 16).2 2) &&& 255).toUInt32 % 65536).toInt32)], 0, 0, (mSH, I, L)) _
    refine mRt (r := (some (.int (((((ro 16).2 2) &&& 255).toUInt32 % 65536).toInt32)))) (h := (mSH, I, L)) rfl (by first | (simp only [e1, e2]; first | decide | rfl) | decide | rfl) ?_
    (rw [show ((((ro 16).2 2) &&& 255).toUInt32 % 65536).toInt32 = 117 by rw [e2]; decide]; exact hq)
theorem w_char_3_3 {ro : Nat → Nat × (Nat → Int32)} {Q : mPo} {d : Nat} {I : Nat → Nat → Int32} {L : Nat → Nat → Int64} (hB : mRB ro) (hq : Q (some (.int 116)) (mSH, I, L))  : mWP mTb_ mFT ro (d + 3, 161, 0, [some (.ref 1006), some (.int 3)], [], 0, 0, (mSH, I, L)) Q := by
  have e1 : (ro 16).1 = 5 := (hB 3 (by omega)).1
  have e2 : (ro 16).2 3 = 116 := (hB 3 (by omega)).2 3
  refine mB 1 (s2 := (d + 3, 161, 1, [some (.ref 1006), some (.int 3)], [.ref 1006], 0, 0, (mSH, I, L))) rfl ?_
  refine mCall (s2 := (d + 2, 163, 0, [some (.ref 1006)], [], 0, 0, (mSH, I, L))) rfl ?_
  refine mB 1 (s2 := (d + 2, 163, 3, [some (.ref 1006)], [.int 1], 0, 0, (mSH, I, L))) rfl ?_
  refine mBF (s3 := (d + 2, 163, 6, [some (.ref 1006)], [], 0, 0, (mSH, I, L))) rfl (by decide) ?_
  refine mB 2 (s2 := (d + 2, 163, 10, [some (.ref 1006)], [.int 0], 0, 0, (mSH, I, L))) rfl ?_
  refine mBT (s2 := (d + 2, 163, 13, [some (.ref 1006)], [], 0, 0, (mSH, I, L))) rfl (by decide) ?_
  refine mB 2 (s2 := (d + 2, 163, 18, [some (.ref 1006)], [.int 1], 0, 0, (mSH, I, L))) rfl ?_
  refine mRt (r := (some (.int 1))) (h := (mSH, I, L)) rfl rfl ?_
  show mWP mTb_ mFT ro (d + 3, 161, 4, [some (.ref 1006), some (.int 3)], [.int 1], 0, 0, (mSH, I, L)) _
  refine mBF (s3 := (d + 3, 161, 7, [some (.ref 1006), some (.int 3)], [], 0, 0, (mSH, I, L))) rfl (by decide) ?_
  refine mB 3 (s2 := (d + 3, 161, 12, [some (.ref 1006), some (.int 3)], [.int 3, .ref 1016], 0, 0, (mSH, I, L))) rfl ?_
  refine mCall (s2 := (d + 2, 165, 0, [some (.ref 1016), some (.int 3)], [], 0, 0, (mSH, I, L))) rfl ?_
  refine mB 3 (s2 := (d + 2, 165, 3, [some (.ref 1016), some (.int 3)], [.int (Int32.ofNat (ro 16).1), .int 3], 0, 0, (mSH, I, L))) rfl ?_
  refine mCall (s2 := (d + 1, 164, 0, [some (.int 3), some (.int (Int32.ofNat (ro 16).1))], [], 0, 0, (mSH, I, L))) rfl ?_
  refine mB 2 (s2 := (d + 1, 164, 2, [some (.int 3), some (.int (Int32.ofNat (ro 16).1))], [.int (Int32.ofNat (ro 16).1), .int 3], 0, 0, (mSH, I, L))) rfl ?_
  refine mBr (s2 := (d + 1, 164, 5, [some (.int 3), some (.int (Int32.ofNat (ro 16).1))], [.null, .int (Int32.ofNat (ro 16).1), .int 3], 0, 0, (mSH, I, L))) (s3 := (d + 1, 164, 5, [some (.int 3), some (.int (Int32.ofNat (ro 16).1))], [.ref 1007, .int (Int32.ofNat (ro 16).1), .int 3], 0, 0, (mSH, I, L))) rfl (fun _ => ?_) (fun _ => ?_)
  · refine mCall (s2 := (d, 167, 0, [some (.int 3), some (.int (Int32.ofNat (ro 16).1)), some .null], [], 0, 0, (mSH, I, L))) rfl ?_
    refine mB 1 (s2 := (d, 167, 1, [some (.int 3), some (.int (Int32.ofNat (ro 16).1)), some .null], [.int 3], 0, 0, (mSH, I, L))) rfl ?_
    refine mBF (s3 := (d, 167, 4, [some (.int 3), some (.int (Int32.ofNat (ro 16).1)), some .null], [], 0, 0, (mSH, I, L))) rfl (by decide) ?_
    refine mB 2 (s2 := (d, 167, 6, [some (.int 3), some (.int (Int32.ofNat (ro 16).1)), some .null], [.int (Int32.ofNat (ro 16).1), .int 3], 0, 0, (mSH, I, L))) rfl ?_
    refine mBT (s2 := (d, 167, 16, [some (.int 3), some (.int (Int32.ofNat (ro 16).1)), some .null], [], 0, 0, (mSH, I, L))) rfl (by first | (simp only [e1, e2]; first | decide | rfl) | decide | rfl) ?_
    refine mB 1 (s2 := (d, 167, 17, [some (.int 3), some (.int (Int32.ofNat (ro 16).1)), some .null], [.int 3], 0, 0, (mSH, I, L))) rfl ?_
    refine mRt (r := (some (.int 3))) (h := (mSH, I, L)) rfl (mRet_int rfl) ?_
    show mWP mTb_ mFT ro (d + 1, 164, 8, [some (.int 3), some (.int (Int32.ofNat (ro 16).1))], [.int 3], 0, 0, (mSH, I, L)) _
    refine mB 1 (s2 := (d + 1, 164, 9, [some (.int 3), some (.int (Int32.ofNat (ro 16).1))], [], 0, 0, (mSH, I, L))) rfl ?_
    refine mRt (r := none) (h := (mSH, I, L)) rfl rfl ?_
    show mWP mTb_ mFT ro (d + 2, 165, 6, [some (.ref 1016), some (.int 3)], [], 0, 0, (mSH, I, L)) _
    refine mB 2 (s2 := (d + 2, 165, 8, [some (.ref 1016), some (.int 3)], [.int 3, .ref 1016], 0, 0, (mSH, I, L))) rfl ?_
    refine mRq (s2 := (d + 2, 165, 9, [some (.ref 1016), some (.int 3)], [.int ((ro 16).2 3)], 0, 0, (mSH, I, L))) rfl (by first | (simp only [e1, e2]; first | decide | rfl) | decide | rfl) ?_
    refine mB 3 (s2 := (d + 2, 165, 14, [some (.ref 1016), some (.int 3)], [.int (((((ro 16).2 3) &&& 255).toUInt32 % 65536).toInt32)], 0, 0, (mSH, I, L))) rfl ?_
    refine mRt (r := (some (.int (((((ro 16).2 3) &&& 255).toUInt32 % 65536).toInt32)))) (h := (mSH, I, L)) rfl (by first | (simp only [e1, e2]; first | decide | rfl) | decide | rfl) ?_
    show mWP mTb_ mFT ro (d + 3, 161, 15, [some (.ref 1006), some (.int 3)], [.int (((((ro 16).2 3) &&& 255).toUInt32 % 65536).toInt32)], 0, 0, (mSH, I, L)) _
    refine mRt (r := (some (.int (((((ro 16).2 3) &&& 255).toUInt32 % 65536).toInt32)))) (h := (mSH, I, L)) rfl (by first | (simp only [e1, e2]; first | decide | rfl) | decide | rfl) ?_
    (rw [show ((((ro 16).2 3) &&& 255).toUInt32 % 65536).toInt32 = 116 by rw [e2]; decide]; exact hq)
  · refine mCall (s2 := (d, 167, 0, [some (.int 3), some (.int (Int32.ofNat (ro 16).1)), some (.ref 1007)], [], 0, 0, (mSH, I, L))) rfl ?_
    refine mB 1 (s2 := (d, 167, 1, [some (.int 3), some (.int (Int32.ofNat (ro 16).1)), some (.ref 1007)], [.int 3], 0, 0, (mSH, I, L))) rfl ?_
    refine mBF (s3 := (d, 167, 4, [some (.int 3), some (.int (Int32.ofNat (ro 16).1)), some (.ref 1007)], [], 0, 0, (mSH, I, L))) rfl (by decide) ?_
    refine mB 2 (s2 := (d, 167, 6, [some (.int 3), some (.int (Int32.ofNat (ro 16).1)), some (.ref 1007)], [.int (Int32.ofNat (ro 16).1), .int 3], 0, 0, (mSH, I, L))) rfl ?_
    refine mBT (s2 := (d, 167, 16, [some (.int 3), some (.int (Int32.ofNat (ro 16).1)), some (.ref 1007)], [], 0, 0, (mSH, I, L))) rfl (by first | (simp only [e1, e2]; first | decide | rfl) | decide | rfl) ?_
    refine mB 1 (s2 := (d, 167, 17, [some (.int 3), some (.int (Int32.ofNat (ro 16).1)), some (.ref 1007)], [.int 3], 0, 0, (mSH, I, L))) rfl ?_
    refine mRt (r := (some (.int 3))) (h := (mSH, I, L)) rfl (mRet_int rfl) ?_
    show mWP mTb_ mFT ro (d + 1, 164, 8, [some (.int 3), some (.int (Int32.ofNat (ro 16).1))], [.int 3], 0, 0, (mSH, I, L)) _
    refine mB 1 (s2 := (d + 1, 164, 9, [some (.int 3), some (.int (Int32.ofNat (ro 16).1))], [], 0, 0, (mSH, I, L))) rfl ?_
    refine mRt (r := none) (h := (mSH, I, L)) rfl rfl ?_
    show mWP mTb_ mFT ro (d + 2, 165, 6, [some (.ref 1016), some (.int 3)], [], 0, 0, (mSH, I, L)) _
    refine mB 2 (s2 := (d + 2, 165, 8, [some (.ref 1016), some (.int 3)], [.int 3, .ref 1016], 0, 0, (mSH, I, L))) rfl ?_
    refine mRq (s2 := (d + 2, 165, 9, [some (.ref 1016), some (.int 3)], [.int ((ro 16).2 3)], 0, 0, (mSH, I, L))) rfl (by first | (simp only [e1, e2]; first | decide | rfl) | decide | rfl) ?_
    refine mB 3 (s2 := (d + 2, 165, 14, [some (.ref 1016), some (.int 3)], [.int (((((ro 16).2 3) &&& 255).toUInt32 % 65536).toInt32)], 0, 0, (mSH, I, L))) rfl ?_
    refine mRt (r := (some (.int (((((ro 16).2 3) &&& 255).toUInt32 % 65536).toInt32)))) (h := (mSH, I, L)) rfl (by first | (simp only [e1, e2]; first | decide | rfl) | decide | rfl) ?_
    show mWP mTb_ mFT ro (d + 3, 161, 15, [some (.ref 1006), some (.int 3)], [.int (((((ro 16).2 3) &&& 255).toUInt32 % 65536).toInt32)], 0, 0, (mSH, I, L)) _
    refine mRt (r := (some (.int (((((ro 16).2 3) &&& 255).toUInt32 % 65536).toInt32)))) (h := (mSH, I, L)) rfl (by first | (simp only [e1, e2]; first | decide | rfl) | decide | rfl) ?_
    (rw [show ((((ro 16).2 3) &&& 255).toUInt32 % 65536).toInt32 = 116 by rw [e2]; decide]; exact hq)
theorem w_char_3_4 {ro : Nat → Nat × (Nat → Int32)} {Q : mPo} {d : Nat} {I : Nat → Nat → Int32} {L : Nat → Nat → Int64} (hB : mRB ro) (hq : Q (some (.int 104)) (mSH, I, L))  : mWP mTb_ mFT ro (d + 3, 161, 0, [some (.ref 1006), some (.int 4)], [], 0, 0, (mSH, I, L)) Q := by
  have e1 : (ro 16).1 = 5 := (hB 3 (by omega)).1
  have e2 : (ro 16).2 4 = 104 := (hB 3 (by omega)).2 4
  refine mB 1 (s2 := (d + 3, 161, 1, [some (.ref 1006), some (.int 4)], [.ref 1006], 0, 0, (mSH, I, L))) rfl ?_
  refine mCall (s2 := (d + 2, 163, 0, [some (.ref 1006)], [], 0, 0, (mSH, I, L))) rfl ?_
  refine mB 1 (s2 := (d + 2, 163, 3, [some (.ref 1006)], [.int 1], 0, 0, (mSH, I, L))) rfl ?_
  refine mBF (s3 := (d + 2, 163, 6, [some (.ref 1006)], [], 0, 0, (mSH, I, L))) rfl (by decide) ?_
  refine mB 2 (s2 := (d + 2, 163, 10, [some (.ref 1006)], [.int 0], 0, 0, (mSH, I, L))) rfl ?_
  refine mBT (s2 := (d + 2, 163, 13, [some (.ref 1006)], [], 0, 0, (mSH, I, L))) rfl (by decide) ?_
  refine mB 2 (s2 := (d + 2, 163, 18, [some (.ref 1006)], [.int 1], 0, 0, (mSH, I, L))) rfl ?_
  refine mRt (r := (some (.int 1))) (h := (mSH, I, L)) rfl rfl ?_
  show mWP mTb_ mFT ro (d + 3, 161, 4, [some (.ref 1006), some (.int 4)], [.int 1], 0, 0, (mSH, I, L)) _
  refine mBF (s3 := (d + 3, 161, 7, [some (.ref 1006), some (.int 4)], [], 0, 0, (mSH, I, L))) rfl (by decide) ?_
  refine mB 3 (s2 := (d + 3, 161, 12, [some (.ref 1006), some (.int 4)], [.int 4, .ref 1016], 0, 0, (mSH, I, L))) rfl ?_
  refine mCall (s2 := (d + 2, 165, 0, [some (.ref 1016), some (.int 4)], [], 0, 0, (mSH, I, L))) rfl ?_
  refine mB 3 (s2 := (d + 2, 165, 3, [some (.ref 1016), some (.int 4)], [.int (Int32.ofNat (ro 16).1), .int 4], 0, 0, (mSH, I, L))) rfl ?_
  refine mCall (s2 := (d + 1, 164, 0, [some (.int 4), some (.int (Int32.ofNat (ro 16).1))], [], 0, 0, (mSH, I, L))) rfl ?_
  refine mB 2 (s2 := (d + 1, 164, 2, [some (.int 4), some (.int (Int32.ofNat (ro 16).1))], [.int (Int32.ofNat (ro 16).1), .int 4], 0, 0, (mSH, I, L))) rfl ?_
  refine mBr (s2 := (d + 1, 164, 5, [some (.int 4), some (.int (Int32.ofNat (ro 16).1))], [.null, .int (Int32.ofNat (ro 16).1), .int 4], 0, 0, (mSH, I, L))) (s3 := (d + 1, 164, 5, [some (.int 4), some (.int (Int32.ofNat (ro 16).1))], [.ref 1007, .int (Int32.ofNat (ro 16).1), .int 4], 0, 0, (mSH, I, L))) rfl (fun _ => ?_) (fun _ => ?_)
  · refine mCall (s2 := (d, 167, 0, [some (.int 4), some (.int (Int32.ofNat (ro 16).1)), some .null], [], 0, 0, (mSH, I, L))) rfl ?_
    refine mB 1 (s2 := (d, 167, 1, [some (.int 4), some (.int (Int32.ofNat (ro 16).1)), some .null], [.int 4], 0, 0, (mSH, I, L))) rfl ?_
    refine mBF (s3 := (d, 167, 4, [some (.int 4), some (.int (Int32.ofNat (ro 16).1)), some .null], [], 0, 0, (mSH, I, L))) rfl (by decide) ?_
    refine mB 2 (s2 := (d, 167, 6, [some (.int 4), some (.int (Int32.ofNat (ro 16).1)), some .null], [.int (Int32.ofNat (ro 16).1), .int 4], 0, 0, (mSH, I, L))) rfl ?_
    refine mBT (s2 := (d, 167, 16, [some (.int 4), some (.int (Int32.ofNat (ro 16).1)), some .null], [], 0, 0, (mSH, I, L))) rfl (by first | (simp only [e1, e2]; first | decide | rfl) | decide | rfl) ?_
    refine mB 1 (s2 := (d, 167, 17, [some (.int 4), some (.int (Int32.ofNat (ro 16).1)), some .null], [.int 4], 0, 0, (mSH, I, L))) rfl ?_
    refine mRt (r := (some (.int 4))) (h := (mSH, I, L)) rfl (mRet_int rfl) ?_
    show mWP mTb_ mFT ro (d + 1, 164, 8, [some (.int 4), some (.int (Int32.ofNat (ro 16).1))], [.int 4], 0, 0, (mSH, I, L)) _
    refine mB 1 (s2 := (d + 1, 164, 9, [some (.int 4), some (.int (Int32.ofNat (ro 16).1))], [], 0, 0, (mSH, I, L))) rfl ?_
    refine mRt (r := none) (h := (mSH, I, L)) rfl rfl ?_
    show mWP mTb_ mFT ro (d + 2, 165, 6, [some (.ref 1016), some (.int 4)], [], 0, 0, (mSH, I, L)) _
    refine mB 2 (s2 := (d + 2, 165, 8, [some (.ref 1016), some (.int 4)], [.int 4, .ref 1016], 0, 0, (mSH, I, L))) rfl ?_
    refine mRq (s2 := (d + 2, 165, 9, [some (.ref 1016), some (.int 4)], [.int ((ro 16).2 4)], 0, 0, (mSH, I, L))) rfl (by first | (simp only [e1, e2]; first | decide | rfl) | decide | rfl) ?_
    refine mB 3 (s2 := (d + 2, 165, 14, [some (.ref 1016), some (.int 4)], [.int (((((ro 16).2 4) &&& 255).toUInt32 % 65536).toInt32)], 0, 0, (mSH, I, L))) rfl ?_
    refine mRt (r := (some (.int (((((ro 16).2 4) &&& 255).toUInt32 % 65536).toInt32)))) (h := (mSH, I, L)) rfl (by first | (simp only [e1, e2]; first | decide | rfl) | decide | rfl) ?_
    show mWP mTb_ mFT ro (d + 3, 161, 15, [some (.ref 1006), some (.int 4)], [.int (((((ro 16).2 4) &&& 255).toUInt32 % 65536).toInt32)], 0, 0, (mSH, I, L)) _
    refine mRt (r := (some (.int (((((ro 16).2 4) &&& 255).toUInt32 % 65536).toInt32)))) (h := (mSH, I, L)) rfl (by first | (simp only [e1, e2]; first | decide | rfl) | decide | rfl) ?_
    (rw [show ((((ro 16).2 4) &&& 255).toUInt32 % 65536).toInt32 = 104 by rw [e2]; decide]; exact hq)
  · refine mCall (s2 := (d, 167, 0, [some (.int 4), some (.int (Int32.ofNat (ro 16).1)), some (.ref 1007)], [], 0, 0, (mSH, I, L))) rfl ?_
    refine mB 1 (s2 := (d, 167, 1, [some (.int 4), some (.int (Int32.ofNat (ro 16).1)), some (.ref 1007)], [.int 4], 0, 0, (mSH, I, L))) rfl ?_
    refine mBF (s3 := (d, 167, 4, [some (.int 4), some (.int (Int32.ofNat (ro 16).1)), some (.ref 1007)], [], 0, 0, (mSH, I, L))) rfl (by decide) ?_
    refine mB 2 (s2 := (d, 167, 6, [some (.int 4), some (.int (Int32.ofNat (ro 16).1)), some (.ref 1007)], [.int (Int32.ofNat (ro 16).1), .int 4], 0, 0, (mSH, I, L))) rfl ?_
    refine mBT (s2 := (d, 167, 16, [some (.int 4), some (.int (Int32.ofNat (ro 16).1)), some (.ref 1007)], [], 0, 0, (mSH, I, L))) rfl (by first | (simp only [e1, e2]; first | decide | rfl) | decide | rfl) ?_
    refine mB 1 (s2 := (d, 167, 17, [some (.int 4), some (.int (Int32.ofNat (ro 16).1)), some (.ref 1007)], [.int 4], 0, 0, (mSH, I, L))) rfl ?_
    refine mRt (r := (some (.int 4))) (h := (mSH, I, L)) rfl (mRet_int rfl) ?_
    show mWP mTb_ mFT ro (d + 1, 164, 8, [some (.int 4), some (.int (Int32.ofNat (ro 16).1))], [.int 4], 0, 0, (mSH, I, L)) _
    refine mB 1 (s2 := (d + 1, 164, 9, [some (.int 4), some (.int (Int32.ofNat (ro 16).1))], [], 0, 0, (mSH, I, L))) rfl ?_
    refine mRt (r := none) (h := (mSH, I, L)) rfl rfl ?_
    show mWP mTb_ mFT ro (d + 2, 165, 6, [some (.ref 1016), some (.int 4)], [], 0, 0, (mSH, I, L)) _
    refine mB 2 (s2 := (d + 2, 165, 8, [some (.ref 1016), some (.int 4)], [.int 4, .ref 1016], 0, 0, (mSH, I, L))) rfl ?_
    refine mRq (s2 := (d + 2, 165, 9, [some (.ref 1016), some (.int 4)], [.int ((ro 16).2 4)], 0, 0, (mSH, I, L))) rfl (by first | (simp only [e1, e2]; first | decide | rfl) | decide | rfl) ?_
    refine mB 3 (s2 := (d + 2, 165, 14, [some (.ref 1016), some (.int 4)], [.int (((((ro 16).2 4) &&& 255).toUInt32 % 65536).toInt32)], 0, 0, (mSH, I, L))) rfl ?_
    refine mRt (r := (some (.int (((((ro 16).2 4) &&& 255).toUInt32 % 65536).toInt32)))) (h := (mSH, I, L)) rfl (by first | (simp only [e1, e2]; first | decide | rfl) | decide | rfl) ?_
    show mWP mTb_ mFT ro (d + 3, 161, 15, [some (.ref 1006), some (.int 4)], [.int (((((ro 16).2 4) &&& 255).toUInt32 % 65536).toInt32)], 0, 0, (mSH, I, L)) _
    refine mRt (r := (some (.int (((((ro 16).2 4) &&& 255).toUInt32 % 65536).toInt32)))) (h := (mSH, I, L)) rfl (by first | (simp only [e1, e2]; first | decide | rfl) | decide | rfl) ?_
    (rw [show ((((ro 16).2 4) &&& 255).toUInt32 % 65536).toInt32 = 104 by rw [e2]; decide]; exact hq)
theorem w_word_0 {ro : Nat → Nat × (Nat → Int32)} {Q : mPo} {d : Nat} {I : Nat → Nat → Int32} {L : Nat → Nat → Int64} (n26 : mCn I 26 120) (hB : mRB ro) (q0 : ∀ K, (fun _ => True) K → Q (some (.int 0)) (mSH, mMix [28] I K, L)) (q1 : ∀ K, (fun _ => True) K → Q (some (.int 1)) (mSH, mMix [28] I K, L))  : mWP mTb_ mFT ro (d + 4, 30, 0, [some (.ref 28), some (.ref 1003), none, none], [], 0, 0, (mSH, I, L)) Q := by
  refine mB 1 (s2 := (d + 4, 30, 1, [some (.ref 28), some (.ref 1003), none, none], [.ref 28], 0, 0, (mSH, I, L))) rfl ?_
  refine mCall (s2 := (d + 3, 34, 0, [some (.ref 28)], [], 0, 0, (mSH, I, L))) rfl ?_
  refine w_skip n26 (fun K1 hK1 => ?_)
  show mWP mTb_ mFT ro (d + 4, 30, 4, [some (.ref 28), some (.ref 1003), none, none], [], 0, 0, (mSH, (mMix [28] I K1), L)) _
  refine mB 1 (s2 := (d + 4, 30, 5, [some (.ref 28), some (.ref 1003), none, none], [.ref 28], 0, 0, (mSH, (mMix [28] I K1), L))) rfl ?_
  refine mCall (s2 := (d + 3, 35, 0, [some (.ref 28), none], [], 0, 0, (mSH, (mMix [28] I K1), L))) rfl ?_
  refine w_eol n26 (fun r2 => ?_)
  show mWP mTb_ mFT ro (d + 4, 30, 8, [some (.ref 28), some (.ref 1003), none, none], [.int r2], 0, 0, (mSH, (mMix [28] I K1), L)) _
  refine mB 6 (s2 := (d + 4, 30, 16, [some (.ref 28), some (.ref 1003), some (.int r2), none], [.ref 1003, .int (r2 - (K1 28 2))], 0, 0, (mSH, (mMix [28] I K1), L))) rfl ?_
  refine mCall (s2 := (d + 3, 160, 0, [some (.ref 1003)], [], 0, 0, (mSH, (mMix [28] I K1), L))) rfl ?_
  refine w_len_0 hB ?_
  show mWP mTb_ mFT ro (d + 4, 30, 19, [some (.ref 28), some (.ref 1003), some (.int r2), none], [.int 5, .int (r2 - (K1 28 2))], 0, 0, (mSH, (mMix [28] I K1), L)) _
  refine mBr (s2 := (d + 4, 30, 24, [some (.ref 28), some (.ref 1003), some (.int r2), none], [], 0, 0, (mSH, (mMix [28] I K1), L))) (s3 := (d + 4, 30, 22, [some (.ref 28), some (.ref 1003), some (.int r2), none], [], 0, 0, (mSH, (mMix [28] I K1), L))) rfl (fun c2 => ?_) (fun c2 => ?_)
  · refine mB 4 (s2 := (d + 4, 30, 28, [some (.ref 28), some (.ref 1003), some (.int r2), some (.int 0)], [.ref 1003, .int 0], 0, 0, (mSH, (mMix [28] I K1), L))) rfl ?_
    refine mCall (s2 := (d + 3, 160, 0, [some (.ref 1003)], [], 0, 0, (mSH, (mMix [28] I K1), L))) rfl ?_
    refine w_len_0 hB ?_
    show mWP mTb_ mFT ro (d + 4, 30, 31, [some (.ref 28), some (.ref 1003), some (.int r2), some (.int 0)], [.int 5, .int 0], 0, 0, (mSH, (mMix [28] I K1), L)) _
    refine mBF (s3 := (d + 4, 30, 34, [some (.ref 28), some (.ref 1003), some (.int r2), some (.int 0)], [], 0, 0, (mSH, (mMix [28] I K1), L))) rfl (by decide) ?_
    refine mB 6 (s2 := (d + 4, 30, 44, [some (.ref 28), some (.ref 1003), some (.int r2), some (.int 0)], [.int ((K1 28 2) + 0), .ref 26], 0, 0, (mSH, (mMix [28] I K1), L))) rfl ?_
    refine mCall (s2 := (d + 3, 42, 0, [some (.ref 26), some (.int ((K1 28 2) + 0))], [], 0, 0, (mSH, (mMix [28] I K1), L))) rfl ?_
    refine w_at_26 n26 ?_
    show mWP mTb_ mFT ro (d + 4, 30, 47, [some (.ref 28), some (.ref 1003), some (.int r2), some (.int 0)], [.int (mAt (mMix [28] I K1) 26 27 ((K1 28 2) + 0))], 0, 0, (mSH, (mMix [28] I K1), L)) _
    refine mB 2 (s2 := (d + 4, 30, 49, [some (.ref 28), some (.ref 1003), some (.int r2), some (.int 0)], [.int 0, .ref 1003, .int (mAt (mMix [28] I K1) 26 27 ((K1 28 2) + 0))], 0, 0, (mSH, (mMix [28] I K1), L))) rfl ?_
    refine mCall (s2 := (d + 3, 161, 0, [some (.ref 1003), some (.int 0)], [], 0, 0, (mSH, (mMix [28] I K1), L))) rfl ?_
    refine w_char_0_0 hB ?_
    show mWP mTb_ mFT ro (d + 4, 30, 52, [some (.ref 28), some (.ref 1003), some (.int r2), some (.int 0)], [.int 121, .int (mAt (mMix [28] I K1) 26 27 ((K1 28 2) + 0))], 0, 0, (mSH, (mMix [28] I K1), L)) _
    refine mBr (s2 := (d + 4, 30, 57, [some (.ref 28), some (.ref 1003), some (.int r2), some (.int 0)], [], 0, 0, (mSH, (mMix [28] I K1), L))) (s3 := (d + 4, 30, 55, [some (.ref 28), some (.ref 1003), some (.int r2), some (.int 0)], [], 0, 0, (mSH, (mMix [28] I K1), L))) rfl (fun c3 => ?_) (fun c3 => ?_)
    · refine mB 4 (s2 := (d + 4, 30, 28, [some (.ref 28), some (.ref 1003), some (.int r2), some (.int 1)], [.ref 1003, .int 1], 0, 0, (mSH, (mMix [28] I K1), L))) rfl ?_
      refine mCall (s2 := (d + 3, 160, 0, [some (.ref 1003)], [], 0, 0, (mSH, (mMix [28] I K1), L))) rfl ?_
      refine w_len_0 hB ?_
      show mWP mTb_ mFT ro (d + 4, 30, 31, [some (.ref 28), some (.ref 1003), some (.int r2), some (.int 1)], [.int 5, .int 1], 0, 0, (mSH, (mMix [28] I K1), L)) _
      refine mBF (s3 := (d + 4, 30, 34, [some (.ref 28), some (.ref 1003), some (.int r2), some (.int 1)], [], 0, 0, (mSH, (mMix [28] I K1), L))) rfl (by decide) ?_
      refine mB 6 (s2 := (d + 4, 30, 44, [some (.ref 28), some (.ref 1003), some (.int r2), some (.int 1)], [.int ((K1 28 2) + 1), .ref 26], 0, 0, (mSH, (mMix [28] I K1), L))) rfl ?_
      refine mCall (s2 := (d + 3, 42, 0, [some (.ref 26), some (.int ((K1 28 2) + 1))], [], 0, 0, (mSH, (mMix [28] I K1), L))) rfl ?_
      refine w_at_26 n26 ?_
      show mWP mTb_ mFT ro (d + 4, 30, 47, [some (.ref 28), some (.ref 1003), some (.int r2), some (.int 1)], [.int (mAt (mMix [28] I K1) 26 27 ((K1 28 2) + 1))], 0, 0, (mSH, (mMix [28] I K1), L)) _
      refine mB 2 (s2 := (d + 4, 30, 49, [some (.ref 28), some (.ref 1003), some (.int r2), some (.int 1)], [.int 1, .ref 1003, .int (mAt (mMix [28] I K1) 26 27 ((K1 28 2) + 1))], 0, 0, (mSH, (mMix [28] I K1), L))) rfl ?_
      refine mCall (s2 := (d + 3, 161, 0, [some (.ref 1003), some (.int 1)], [], 0, 0, (mSH, (mMix [28] I K1), L))) rfl ?_
      refine w_char_0_1 hB ?_
      show mWP mTb_ mFT ro (d + 4, 30, 52, [some (.ref 28), some (.ref 1003), some (.int r2), some (.int 1)], [.int 101, .int (mAt (mMix [28] I K1) 26 27 ((K1 28 2) + 1))], 0, 0, (mSH, (mMix [28] I K1), L)) _
      refine mBr (s2 := (d + 4, 30, 57, [some (.ref 28), some (.ref 1003), some (.int r2), some (.int 1)], [], 0, 0, (mSH, (mMix [28] I K1), L))) (s3 := (d + 4, 30, 55, [some (.ref 28), some (.ref 1003), some (.int r2), some (.int 1)], [], 0, 0, (mSH, (mMix [28] I K1), L))) rfl (fun c4 => ?_) (fun c4 => ?_)
      · refine mB 4 (s2 := (d + 4, 30, 28, [some (.ref 28), some (.ref 1003), some (.int r2), some (.int 2)], [.ref 1003, .int 2], 0, 0, (mSH, (mMix [28] I K1), L))) rfl ?_
        refine mCall (s2 := (d + 3, 160, 0, [some (.ref 1003)], [], 0, 0, (mSH, (mMix [28] I K1), L))) rfl ?_
        refine w_len_0 hB ?_
        show mWP mTb_ mFT ro (d + 4, 30, 31, [some (.ref 28), some (.ref 1003), some (.int r2), some (.int 2)], [.int 5, .int 2], 0, 0, (mSH, (mMix [28] I K1), L)) _
        refine mBF (s3 := (d + 4, 30, 34, [some (.ref 28), some (.ref 1003), some (.int r2), some (.int 2)], [], 0, 0, (mSH, (mMix [28] I K1), L))) rfl (by decide) ?_
        refine mB 6 (s2 := (d + 4, 30, 44, [some (.ref 28), some (.ref 1003), some (.int r2), some (.int 2)], [.int ((K1 28 2) + 2), .ref 26], 0, 0, (mSH, (mMix [28] I K1), L))) rfl ?_
        refine mCall (s2 := (d + 3, 42, 0, [some (.ref 26), some (.int ((K1 28 2) + 2))], [], 0, 0, (mSH, (mMix [28] I K1), L))) rfl ?_
        refine w_at_26 n26 ?_
        show mWP mTb_ mFT ro (d + 4, 30, 47, [some (.ref 28), some (.ref 1003), some (.int r2), some (.int 2)], [.int (mAt (mMix [28] I K1) 26 27 ((K1 28 2) + 2))], 0, 0, (mSH, (mMix [28] I K1), L)) _
        refine mB 2 (s2 := (d + 4, 30, 49, [some (.ref 28), some (.ref 1003), some (.int r2), some (.int 2)], [.int 2, .ref 1003, .int (mAt (mMix [28] I K1) 26 27 ((K1 28 2) + 2))], 0, 0, (mSH, (mMix [28] I K1), L))) rfl ?_
        refine mCall (s2 := (d + 3, 161, 0, [some (.ref 1003), some (.int 2)], [], 0, 0, (mSH, (mMix [28] I K1), L))) rfl ?_
        refine w_char_0_2 hB ?_
        show mWP mTb_ mFT ro (d + 4, 30, 52, [some (.ref 28), some (.ref 1003), some (.int r2), some (.int 2)], [.int 97, .int (mAt (mMix [28] I K1) 26 27 ((K1 28 2) + 2))], 0, 0, (mSH, (mMix [28] I K1), L)) _
        refine mBr (s2 := (d + 4, 30, 57, [some (.ref 28), some (.ref 1003), some (.int r2), some (.int 2)], [], 0, 0, (mSH, (mMix [28] I K1), L))) (s3 := (d + 4, 30, 55, [some (.ref 28), some (.ref 1003), some (.int r2), some (.int 2)], [], 0, 0, (mSH, (mMix [28] I K1), L))) rfl (fun c5 => ?_) (fun c5 => ?_)
        · refine mB 4 (s2 := (d + 4, 30, 28, [some (.ref 28), some (.ref 1003), some (.int r2), some (.int 3)], [.ref 1003, .int 3], 0, 0, (mSH, (mMix [28] I K1), L))) rfl ?_
          refine mCall (s2 := (d + 3, 160, 0, [some (.ref 1003)], [], 0, 0, (mSH, (mMix [28] I K1), L))) rfl ?_
          refine w_len_0 hB ?_
          show mWP mTb_ mFT ro (d + 4, 30, 31, [some (.ref 28), some (.ref 1003), some (.int r2), some (.int 3)], [.int 5, .int 3], 0, 0, (mSH, (mMix [28] I K1), L)) _
          refine mBF (s3 := (d + 4, 30, 34, [some (.ref 28), some (.ref 1003), some (.int r2), some (.int 3)], [], 0, 0, (mSH, (mMix [28] I K1), L))) rfl (by decide) ?_
          refine mB 6 (s2 := (d + 4, 30, 44, [some (.ref 28), some (.ref 1003), some (.int r2), some (.int 3)], [.int ((K1 28 2) + 3), .ref 26], 0, 0, (mSH, (mMix [28] I K1), L))) rfl ?_
          refine mCall (s2 := (d + 3, 42, 0, [some (.ref 26), some (.int ((K1 28 2) + 3))], [], 0, 0, (mSH, (mMix [28] I K1), L))) rfl ?_
          refine w_at_26 n26 ?_
          show mWP mTb_ mFT ro (d + 4, 30, 47, [some (.ref 28), some (.ref 1003), some (.int r2), some (.int 3)], [.int (mAt (mMix [28] I K1) 26 27 ((K1 28 2) + 3))], 0, 0, (mSH, (mMix [28] I K1), L)) _
          refine mB 2 (s2 := (d + 4, 30, 49, [some (.ref 28), some (.ref 1003), some (.int r2), some (.int 3)], [.int 3, .ref 1003, .int (mAt (mMix [28] I K1) 26 27 ((K1 28 2) + 3))], 0, 0, (mSH, (mMix [28] I K1), L))) rfl ?_
          refine mCall (s2 := (d + 3, 161, 0, [some (.ref 1003), some (.int 3)], [], 0, 0, (mSH, (mMix [28] I K1), L))) rfl ?_
          refine w_char_0_3 hB ?_
          show mWP mTb_ mFT ro (d + 4, 30, 52, [some (.ref 28), some (.ref 1003), some (.int r2), some (.int 3)], [.int 114, .int (mAt (mMix [28] I K1) 26 27 ((K1 28 2) + 3))], 0, 0, (mSH, (mMix [28] I K1), L)) _
          refine mBr (s2 := (d + 4, 30, 57, [some (.ref 28), some (.ref 1003), some (.int r2), some (.int 3)], [], 0, 0, (mSH, (mMix [28] I K1), L))) (s3 := (d + 4, 30, 55, [some (.ref 28), some (.ref 1003), some (.int r2), some (.int 3)], [], 0, 0, (mSH, (mMix [28] I K1), L))) rfl (fun c6 => ?_) (fun c6 => ?_)
          · refine mB 4 (s2 := (d + 4, 30, 28, [some (.ref 28), some (.ref 1003), some (.int r2), some (.int 4)], [.ref 1003, .int 4], 0, 0, (mSH, (mMix [28] I K1), L))) rfl ?_
            refine mCall (s2 := (d + 3, 160, 0, [some (.ref 1003)], [], 0, 0, (mSH, (mMix [28] I K1), L))) rfl ?_
            refine w_len_0 hB ?_
            show mWP mTb_ mFT ro (d + 4, 30, 31, [some (.ref 28), some (.ref 1003), some (.int r2), some (.int 4)], [.int 5, .int 4], 0, 0, (mSH, (mMix [28] I K1), L)) _
            refine mBF (s3 := (d + 4, 30, 34, [some (.ref 28), some (.ref 1003), some (.int r2), some (.int 4)], [], 0, 0, (mSH, (mMix [28] I K1), L))) rfl (by decide) ?_
            refine mB 6 (s2 := (d + 4, 30, 44, [some (.ref 28), some (.ref 1003), some (.int r2), some (.int 4)], [.int ((K1 28 2) + 4), .ref 26], 0, 0, (mSH, (mMix [28] I K1), L))) rfl ?_
            refine mCall (s2 := (d + 3, 42, 0, [some (.ref 26), some (.int ((K1 28 2) + 4))], [], 0, 0, (mSH, (mMix [28] I K1), L))) rfl ?_
            refine w_at_26 n26 ?_
            show mWP mTb_ mFT ro (d + 4, 30, 47, [some (.ref 28), some (.ref 1003), some (.int r2), some (.int 4)], [.int (mAt (mMix [28] I K1) 26 27 ((K1 28 2) + 4))], 0, 0, (mSH, (mMix [28] I K1), L)) _
            refine mB 2 (s2 := (d + 4, 30, 49, [some (.ref 28), some (.ref 1003), some (.int r2), some (.int 4)], [.int 4, .ref 1003, .int (mAt (mMix [28] I K1) 26 27 ((K1 28 2) + 4))], 0, 0, (mSH, (mMix [28] I K1), L))) rfl ?_
            refine mCall (s2 := (d + 3, 161, 0, [some (.ref 1003), some (.int 4)], [], 0, 0, (mSH, (mMix [28] I K1), L))) rfl ?_
            refine w_char_0_4 hB ?_
            show mWP mTb_ mFT ro (d + 4, 30, 52, [some (.ref 28), some (.ref 1003), some (.int r2), some (.int 4)], [.int 115, .int (mAt (mMix [28] I K1) 26 27 ((K1 28 2) + 4))], 0, 0, (mSH, (mMix [28] I K1), L)) _
            refine mBr (s2 := (d + 4, 30, 57, [some (.ref 28), some (.ref 1003), some (.int r2), some (.int 4)], [], 0, 0, (mSH, (mMix [28] I K1), L))) (s3 := (d + 4, 30, 55, [some (.ref 28), some (.ref 1003), some (.int r2), some (.int 4)], [], 0, 0, (mSH, (mMix [28] I K1), L))) rfl (fun c7 => ?_) (fun c7 => ?_)
            · refine mB 4 (s2 := (d + 4, 30, 28, [some (.ref 28), some (.ref 1003), some (.int r2), some (.int 5)], [.ref 1003, .int 5], 0, 0, (mSH, (mMix [28] I K1), L))) rfl ?_
              refine mCall (s2 := (d + 3, 160, 0, [some (.ref 1003)], [], 0, 0, (mSH, (mMix [28] I K1), L))) rfl ?_
              refine w_len_0 hB ?_
              show mWP mTb_ mFT ro (d + 4, 30, 31, [some (.ref 28), some (.ref 1003), some (.int r2), some (.int 5)], [.int 5, .int 5], 0, 0, (mSH, (mMix [28] I K1), L)) _
              refine mBT (s2 := (d + 4, 30, 63, [some (.ref 28), some (.ref 1003), some (.int r2), some (.int 5)], [], 0, 0, (mSH, (mMix [28] I K1), L))) rfl (by decide) ?_
              refine mB 4 (s2 := (d + 4, 30, 69, [some (.ref 28), some (.ref 1003), some (.int r2), some (.int 5)], [.int 1], 0, 0, (mSH, (mUp (mMix [28] I K1) 28 2 r2), L))) rfl ?_
              refine mRt (r := (some (.int 1))) (h := (mSH, (mUp (mMix [28] I K1) 28 2 r2), L)) rfl rfl ?_
              exact mFin (P := (fun _ => True)) q1 (mFr.up (by rfl) (mFr.mix (by decide) mFr.rf)) trivial
            · refine mB 1 (s2 := (d + 4, 30, 56, [some (.ref 28), some (.ref 1003), some (.int r2), some (.int 4)], [.int 0], 0, 0, (mSH, (mMix [28] I K1), L))) rfl ?_
              refine mRt (r := (some (.int 0))) (h := (mSH, (mMix [28] I K1), L)) rfl rfl ?_
              exact mFin (P := (fun _ => True)) q0 (mFr.mix (by decide) mFr.rf) trivial
          · refine mB 1 (s2 := (d + 4, 30, 56, [some (.ref 28), some (.ref 1003), some (.int r2), some (.int 3)], [.int 0], 0, 0, (mSH, (mMix [28] I K1), L))) rfl ?_
            refine mRt (r := (some (.int 0))) (h := (mSH, (mMix [28] I K1), L)) rfl rfl ?_
            exact mFin (P := (fun _ => True)) q0 (mFr.mix (by decide) mFr.rf) trivial
        · refine mB 1 (s2 := (d + 4, 30, 56, [some (.ref 28), some (.ref 1003), some (.int r2), some (.int 2)], [.int 0], 0, 0, (mSH, (mMix [28] I K1), L))) rfl ?_
          refine mRt (r := (some (.int 0))) (h := (mSH, (mMix [28] I K1), L)) rfl rfl ?_
          exact mFin (P := (fun _ => True)) q0 (mFr.mix (by decide) mFr.rf) trivial
      · refine mB 1 (s2 := (d + 4, 30, 56, [some (.ref 28), some (.ref 1003), some (.int r2), some (.int 1)], [.int 0], 0, 0, (mSH, (mMix [28] I K1), L))) rfl ?_
        refine mRt (r := (some (.int 0))) (h := (mSH, (mMix [28] I K1), L)) rfl rfl ?_
        exact mFin (P := (fun _ => True)) q0 (mFr.mix (by decide) mFr.rf) trivial
    · refine mB 1 (s2 := (d + 4, 30, 56, [some (.ref 28), some (.ref 1003), some (.int r2), some (.int 0)], [.int 0], 0, 0, (mSH, (mMix [28] I K1), L))) rfl ?_
      refine mRt (r := (some (.int 0))) (h := (mSH, (mMix [28] I K1), L)) rfl rfl ?_
      exact mFin (P := (fun _ => True)) q0 (mFr.mix (by decide) mFr.rf) trivial
  · refine mB 1 (s2 := (d + 4, 30, 23, [some (.ref 28), some (.ref 1003), some (.int r2), none], [.int 0], 0, 0, (mSH, (mMix [28] I K1), L))) rfl ?_
    refine mRt (r := (some (.int 0))) (h := (mSH, (mMix [28] I K1), L)) rfl rfl ?_
    exact mFin (P := (fun _ => True)) q0 (mFr.mix (by decide) mFr.rf) trivial
theorem w_word_1 {ro : Nat → Nat × (Nat → Int32)} {Q : mPo} {d : Nat} {I : Nat → Nat → Int32} {L : Nat → Nat → Int64} (n26 : mCn I 26 120) (hB : mRB ro) (q0 : ∀ K, (fun _ => True) K → Q (some (.int 0)) (mSH, mMix [28] I K, L)) (q1 : ∀ K, (fun _ => True) K → Q (some (.int 1)) (mSH, mMix [28] I K, L))  : mWP mTb_ mFT ro (d + 4, 30, 0, [some (.ref 28), some (.ref 1004), none, none], [], 0, 0, (mSH, I, L)) Q := by
  refine mB 1 (s2 := (d + 4, 30, 1, [some (.ref 28), some (.ref 1004), none, none], [.ref 28], 0, 0, (mSH, I, L))) rfl ?_
  refine mCall (s2 := (d + 3, 34, 0, [some (.ref 28)], [], 0, 0, (mSH, I, L))) rfl ?_
  refine w_skip n26 (fun K1 hK1 => ?_)
  show mWP mTb_ mFT ro (d + 4, 30, 4, [some (.ref 28), some (.ref 1004), none, none], [], 0, 0, (mSH, (mMix [28] I K1), L)) _
  refine mB 1 (s2 := (d + 4, 30, 5, [some (.ref 28), some (.ref 1004), none, none], [.ref 28], 0, 0, (mSH, (mMix [28] I K1), L))) rfl ?_
  refine mCall (s2 := (d + 3, 35, 0, [some (.ref 28), none], [], 0, 0, (mSH, (mMix [28] I K1), L))) rfl ?_
  refine w_eol n26 (fun r2 => ?_)
  show mWP mTb_ mFT ro (d + 4, 30, 8, [some (.ref 28), some (.ref 1004), none, none], [.int r2], 0, 0, (mSH, (mMix [28] I K1), L)) _
  refine mB 6 (s2 := (d + 4, 30, 16, [some (.ref 28), some (.ref 1004), some (.int r2), none], [.ref 1004, .int (r2 - (K1 28 2))], 0, 0, (mSH, (mMix [28] I K1), L))) rfl ?_
  refine mCall (s2 := (d + 3, 160, 0, [some (.ref 1004)], [], 0, 0, (mSH, (mMix [28] I K1), L))) rfl ?_
  refine w_len_1 hB ?_
  show mWP mTb_ mFT ro (d + 4, 30, 19, [some (.ref 28), some (.ref 1004), some (.int r2), none], [.int 4, .int (r2 - (K1 28 2))], 0, 0, (mSH, (mMix [28] I K1), L)) _
  refine mBr (s2 := (d + 4, 30, 24, [some (.ref 28), some (.ref 1004), some (.int r2), none], [], 0, 0, (mSH, (mMix [28] I K1), L))) (s3 := (d + 4, 30, 22, [some (.ref 28), some (.ref 1004), some (.int r2), none], [], 0, 0, (mSH, (mMix [28] I K1), L))) rfl (fun c2 => ?_) (fun c2 => ?_)
  · refine mB 4 (s2 := (d + 4, 30, 28, [some (.ref 28), some (.ref 1004), some (.int r2), some (.int 0)], [.ref 1004, .int 0], 0, 0, (mSH, (mMix [28] I K1), L))) rfl ?_
    refine mCall (s2 := (d + 3, 160, 0, [some (.ref 1004)], [], 0, 0, (mSH, (mMix [28] I K1), L))) rfl ?_
    refine w_len_1 hB ?_
    show mWP mTb_ mFT ro (d + 4, 30, 31, [some (.ref 28), some (.ref 1004), some (.int r2), some (.int 0)], [.int 4, .int 0], 0, 0, (mSH, (mMix [28] I K1), L)) _
    refine mBF (s3 := (d + 4, 30, 34, [some (.ref 28), some (.ref 1004), some (.int r2), some (.int 0)], [], 0, 0, (mSH, (mMix [28] I K1), L))) rfl (by decide) ?_
    refine mB 6 (s2 := (d + 4, 30, 44, [some (.ref 28), some (.ref 1004), some (.int r2), some (.int 0)], [.int ((K1 28 2) + 0), .ref 26], 0, 0, (mSH, (mMix [28] I K1), L))) rfl ?_
    refine mCall (s2 := (d + 3, 42, 0, [some (.ref 26), some (.int ((K1 28 2) + 0))], [], 0, 0, (mSH, (mMix [28] I K1), L))) rfl ?_
    refine w_at_26 n26 ?_
    show mWP mTb_ mFT ro (d + 4, 30, 47, [some (.ref 28), some (.ref 1004), some (.int r2), some (.int 0)], [.int (mAt (mMix [28] I K1) 26 27 ((K1 28 2) + 0))], 0, 0, (mSH, (mMix [28] I K1), L)) _
    refine mB 2 (s2 := (d + 4, 30, 49, [some (.ref 28), some (.ref 1004), some (.int r2), some (.int 0)], [.int 0, .ref 1004, .int (mAt (mMix [28] I K1) 26 27 ((K1 28 2) + 0))], 0, 0, (mSH, (mMix [28] I K1), L))) rfl ?_
    refine mCall (s2 := (d + 3, 161, 0, [some (.ref 1004), some (.int 0)], [], 0, 0, (mSH, (mMix [28] I K1), L))) rfl ?_
    refine w_char_1_0 hB ?_
    show mWP mTb_ mFT ro (d + 4, 30, 52, [some (.ref 28), some (.ref 1004), some (.int r2), some (.int 0)], [.int 99, .int (mAt (mMix [28] I K1) 26 27 ((K1 28 2) + 0))], 0, 0, (mSH, (mMix [28] I K1), L)) _
    refine mBr (s2 := (d + 4, 30, 57, [some (.ref 28), some (.ref 1004), some (.int r2), some (.int 0)], [], 0, 0, (mSH, (mMix [28] I K1), L))) (s3 := (d + 4, 30, 55, [some (.ref 28), some (.ref 1004), some (.int r2), some (.int 0)], [], 0, 0, (mSH, (mMix [28] I K1), L))) rfl (fun c3 => ?_) (fun c3 => ?_)
    · refine mB 4 (s2 := (d + 4, 30, 28, [some (.ref 28), some (.ref 1004), some (.int r2), some (.int 1)], [.ref 1004, .int 1], 0, 0, (mSH, (mMix [28] I K1), L))) rfl ?_
      refine mCall (s2 := (d + 3, 160, 0, [some (.ref 1004)], [], 0, 0, (mSH, (mMix [28] I K1), L))) rfl ?_
      refine w_len_1 hB ?_
      show mWP mTb_ mFT ro (d + 4, 30, 31, [some (.ref 28), some (.ref 1004), some (.int r2), some (.int 1)], [.int 4, .int 1], 0, 0, (mSH, (mMix [28] I K1), L)) _
      refine mBF (s3 := (d + 4, 30, 34, [some (.ref 28), some (.ref 1004), some (.int r2), some (.int 1)], [], 0, 0, (mSH, (mMix [28] I K1), L))) rfl (by decide) ?_
      refine mB 6 (s2 := (d + 4, 30, 44, [some (.ref 28), some (.ref 1004), some (.int r2), some (.int 1)], [.int ((K1 28 2) + 1), .ref 26], 0, 0, (mSH, (mMix [28] I K1), L))) rfl ?_
      refine mCall (s2 := (d + 3, 42, 0, [some (.ref 26), some (.int ((K1 28 2) + 1))], [], 0, 0, (mSH, (mMix [28] I K1), L))) rfl ?_
      refine w_at_26 n26 ?_
      show mWP mTb_ mFT ro (d + 4, 30, 47, [some (.ref 28), some (.ref 1004), some (.int r2), some (.int 1)], [.int (mAt (mMix [28] I K1) 26 27 ((K1 28 2) + 1))], 0, 0, (mSH, (mMix [28] I K1), L)) _
      refine mB 2 (s2 := (d + 4, 30, 49, [some (.ref 28), some (.ref 1004), some (.int r2), some (.int 1)], [.int 1, .ref 1004, .int (mAt (mMix [28] I K1) 26 27 ((K1 28 2) + 1))], 0, 0, (mSH, (mMix [28] I K1), L))) rfl ?_
      refine mCall (s2 := (d + 3, 161, 0, [some (.ref 1004), some (.int 1)], [], 0, 0, (mSH, (mMix [28] I K1), L))) rfl ?_
      refine w_char_1_1 hB ?_
      show mWP mTb_ mFT ro (d + 4, 30, 52, [some (.ref 28), some (.ref 1004), some (.int r2), some (.int 1)], [.int 111, .int (mAt (mMix [28] I K1) 26 27 ((K1 28 2) + 1))], 0, 0, (mSH, (mMix [28] I K1), L)) _
      refine mBr (s2 := (d + 4, 30, 57, [some (.ref 28), some (.ref 1004), some (.int r2), some (.int 1)], [], 0, 0, (mSH, (mMix [28] I K1), L))) (s3 := (d + 4, 30, 55, [some (.ref 28), some (.ref 1004), some (.int r2), some (.int 1)], [], 0, 0, (mSH, (mMix [28] I K1), L))) rfl (fun c4 => ?_) (fun c4 => ?_)
      · refine mB 4 (s2 := (d + 4, 30, 28, [some (.ref 28), some (.ref 1004), some (.int r2), some (.int 2)], [.ref 1004, .int 2], 0, 0, (mSH, (mMix [28] I K1), L))) rfl ?_
        refine mCall (s2 := (d + 3, 160, 0, [some (.ref 1004)], [], 0, 0, (mSH, (mMix [28] I K1), L))) rfl ?_
        refine w_len_1 hB ?_
        show mWP mTb_ mFT ro (d + 4, 30, 31, [some (.ref 28), some (.ref 1004), some (.int r2), some (.int 2)], [.int 4, .int 2], 0, 0, (mSH, (mMix [28] I K1), L)) _
        refine mBF (s3 := (d + 4, 30, 34, [some (.ref 28), some (.ref 1004), some (.int r2), some (.int 2)], [], 0, 0, (mSH, (mMix [28] I K1), L))) rfl (by decide) ?_
        refine mB 6 (s2 := (d + 4, 30, 44, [some (.ref 28), some (.ref 1004), some (.int r2), some (.int 2)], [.int ((K1 28 2) + 2), .ref 26], 0, 0, (mSH, (mMix [28] I K1), L))) rfl ?_
        refine mCall (s2 := (d + 3, 42, 0, [some (.ref 26), some (.int ((K1 28 2) + 2))], [], 0, 0, (mSH, (mMix [28] I K1), L))) rfl ?_
        refine w_at_26 n26 ?_
        show mWP mTb_ mFT ro (d + 4, 30, 47, [some (.ref 28), some (.ref 1004), some (.int r2), some (.int 2)], [.int (mAt (mMix [28] I K1) 26 27 ((K1 28 2) + 2))], 0, 0, (mSH, (mMix [28] I K1), L)) _
        refine mB 2 (s2 := (d + 4, 30, 49, [some (.ref 28), some (.ref 1004), some (.int r2), some (.int 2)], [.int 2, .ref 1004, .int (mAt (mMix [28] I K1) 26 27 ((K1 28 2) + 2))], 0, 0, (mSH, (mMix [28] I K1), L))) rfl ?_
        refine mCall (s2 := (d + 3, 161, 0, [some (.ref 1004), some (.int 2)], [], 0, 0, (mSH, (mMix [28] I K1), L))) rfl ?_
        refine w_char_1_2 hB ?_
        show mWP mTb_ mFT ro (d + 4, 30, 52, [some (.ref 28), some (.ref 1004), some (.int r2), some (.int 2)], [.int 114, .int (mAt (mMix [28] I K1) 26 27 ((K1 28 2) + 2))], 0, 0, (mSH, (mMix [28] I K1), L)) _
        refine mBr (s2 := (d + 4, 30, 57, [some (.ref 28), some (.ref 1004), some (.int r2), some (.int 2)], [], 0, 0, (mSH, (mMix [28] I K1), L))) (s3 := (d + 4, 30, 55, [some (.ref 28), some (.ref 1004), some (.int r2), some (.int 2)], [], 0, 0, (mSH, (mMix [28] I K1), L))) rfl (fun c5 => ?_) (fun c5 => ?_)
        · refine mB 4 (s2 := (d + 4, 30, 28, [some (.ref 28), some (.ref 1004), some (.int r2), some (.int 3)], [.ref 1004, .int 3], 0, 0, (mSH, (mMix [28] I K1), L))) rfl ?_
          refine mCall (s2 := (d + 3, 160, 0, [some (.ref 1004)], [], 0, 0, (mSH, (mMix [28] I K1), L))) rfl ?_
          refine w_len_1 hB ?_
          show mWP mTb_ mFT ro (d + 4, 30, 31, [some (.ref 28), some (.ref 1004), some (.int r2), some (.int 3)], [.int 4, .int 3], 0, 0, (mSH, (mMix [28] I K1), L)) _
          refine mBF (s3 := (d + 4, 30, 34, [some (.ref 28), some (.ref 1004), some (.int r2), some (.int 3)], [], 0, 0, (mSH, (mMix [28] I K1), L))) rfl (by decide) ?_
          refine mB 6 (s2 := (d + 4, 30, 44, [some (.ref 28), some (.ref 1004), some (.int r2), some (.int 3)], [.int ((K1 28 2) + 3), .ref 26], 0, 0, (mSH, (mMix [28] I K1), L))) rfl ?_
          refine mCall (s2 := (d + 3, 42, 0, [some (.ref 26), some (.int ((K1 28 2) + 3))], [], 0, 0, (mSH, (mMix [28] I K1), L))) rfl ?_
          refine w_at_26 n26 ?_
          show mWP mTb_ mFT ro (d + 4, 30, 47, [some (.ref 28), some (.ref 1004), some (.int r2), some (.int 3)], [.int (mAt (mMix [28] I K1) 26 27 ((K1 28 2) + 3))], 0, 0, (mSH, (mMix [28] I K1), L)) _
          refine mB 2 (s2 := (d + 4, 30, 49, [some (.ref 28), some (.ref 1004), some (.int r2), some (.int 3)], [.int 3, .ref 1004, .int (mAt (mMix [28] I K1) 26 27 ((K1 28 2) + 3))], 0, 0, (mSH, (mMix [28] I K1), L))) rfl ?_
          refine mCall (s2 := (d + 3, 161, 0, [some (.ref 1004), some (.int 3)], [], 0, 0, (mSH, (mMix [28] I K1), L))) rfl ?_
          refine w_char_1_3 hB ?_
          show mWP mTb_ mFT ro (d + 4, 30, 52, [some (.ref 28), some (.ref 1004), some (.int r2), some (.int 3)], [.int 101, .int (mAt (mMix [28] I K1) 26 27 ((K1 28 2) + 3))], 0, 0, (mSH, (mMix [28] I K1), L)) _
          refine mBr (s2 := (d + 4, 30, 57, [some (.ref 28), some (.ref 1004), some (.int r2), some (.int 3)], [], 0, 0, (mSH, (mMix [28] I K1), L))) (s3 := (d + 4, 30, 55, [some (.ref 28), some (.ref 1004), some (.int r2), some (.int 3)], [], 0, 0, (mSH, (mMix [28] I K1), L))) rfl (fun c6 => ?_) (fun c6 => ?_)
          · refine mB 4 (s2 := (d + 4, 30, 28, [some (.ref 28), some (.ref 1004), some (.int r2), some (.int 4)], [.ref 1004, .int 4], 0, 0, (mSH, (mMix [28] I K1), L))) rfl ?_
            refine mCall (s2 := (d + 3, 160, 0, [some (.ref 1004)], [], 0, 0, (mSH, (mMix [28] I K1), L))) rfl ?_
            refine w_len_1 hB ?_
            show mWP mTb_ mFT ro (d + 4, 30, 31, [some (.ref 28), some (.ref 1004), some (.int r2), some (.int 4)], [.int 4, .int 4], 0, 0, (mSH, (mMix [28] I K1), L)) _
            refine mBT (s2 := (d + 4, 30, 63, [some (.ref 28), some (.ref 1004), some (.int r2), some (.int 4)], [], 0, 0, (mSH, (mMix [28] I K1), L))) rfl (by decide) ?_
            refine mB 4 (s2 := (d + 4, 30, 69, [some (.ref 28), some (.ref 1004), some (.int r2), some (.int 4)], [.int 1], 0, 0, (mSH, (mUp (mMix [28] I K1) 28 2 r2), L))) rfl ?_
            refine mRt (r := (some (.int 1))) (h := (mSH, (mUp (mMix [28] I K1) 28 2 r2), L)) rfl rfl ?_
            exact mFin (P := (fun _ => True)) q1 (mFr.up (by rfl) (mFr.mix (by decide) mFr.rf)) trivial
          · refine mB 1 (s2 := (d + 4, 30, 56, [some (.ref 28), some (.ref 1004), some (.int r2), some (.int 3)], [.int 0], 0, 0, (mSH, (mMix [28] I K1), L))) rfl ?_
            refine mRt (r := (some (.int 0))) (h := (mSH, (mMix [28] I K1), L)) rfl rfl ?_
            exact mFin (P := (fun _ => True)) q0 (mFr.mix (by decide) mFr.rf) trivial
        · refine mB 1 (s2 := (d + 4, 30, 56, [some (.ref 28), some (.ref 1004), some (.int r2), some (.int 2)], [.int 0], 0, 0, (mSH, (mMix [28] I K1), L))) rfl ?_
          refine mRt (r := (some (.int 0))) (h := (mSH, (mMix [28] I K1), L)) rfl rfl ?_
          exact mFin (P := (fun _ => True)) q0 (mFr.mix (by decide) mFr.rf) trivial
      · refine mB 1 (s2 := (d + 4, 30, 56, [some (.ref 28), some (.ref 1004), some (.int r2), some (.int 1)], [.int 0], 0, 0, (mSH, (mMix [28] I K1), L))) rfl ?_
        refine mRt (r := (some (.int 0))) (h := (mSH, (mMix [28] I K1), L)) rfl rfl ?_
        exact mFin (P := (fun _ => True)) q0 (mFr.mix (by decide) mFr.rf) trivial
    · refine mB 1 (s2 := (d + 4, 30, 56, [some (.ref 28), some (.ref 1004), some (.int r2), some (.int 0)], [.int 0], 0, 0, (mSH, (mMix [28] I K1), L))) rfl ?_
      refine mRt (r := (some (.int 0))) (h := (mSH, (mMix [28] I K1), L)) rfl rfl ?_
      exact mFin (P := (fun _ => True)) q0 (mFr.mix (by decide) mFr.rf) trivial
  · refine mB 1 (s2 := (d + 4, 30, 23, [some (.ref 28), some (.ref 1004), some (.int r2), none], [.int 0], 0, 0, (mSH, (mMix [28] I K1), L))) rfl ?_
    refine mRt (r := (some (.int 0))) (h := (mSH, (mMix [28] I K1), L)) rfl rfl ?_
    exact mFin (P := (fun _ => True)) q0 (mFr.mix (by decide) mFr.rf) trivial
theorem w_word_2 {ro : Nat → Nat × (Nat → Int32)} {Q : mPo} {d : Nat} {I : Nat → Nat → Int32} {L : Nat → Nat → Int64} (n26 : mCn I 26 120) (hB : mRB ro) (q0 : ∀ K, (fun _ => True) K → Q (some (.int 0)) (mSH, mMix [28] I K, L)) (q1 : ∀ K, (fun _ => True) K → Q (some (.int 1)) (mSH, mMix [28] I K, L))  : mWP mTb_ mFT ro (d + 4, 30, 0, [some (.ref 28), some (.ref 1005), none, none], [], 0, 0, (mSH, I, L)) Q := by
  refine mB 1 (s2 := (d + 4, 30, 1, [some (.ref 28), some (.ref 1005), none, none], [.ref 28], 0, 0, (mSH, I, L))) rfl ?_
  refine mCall (s2 := (d + 3, 34, 0, [some (.ref 28)], [], 0, 0, (mSH, I, L))) rfl ?_
  refine w_skip n26 (fun K1 hK1 => ?_)
  show mWP mTb_ mFT ro (d + 4, 30, 4, [some (.ref 28), some (.ref 1005), none, none], [], 0, 0, (mSH, (mMix [28] I K1), L)) _
  refine mB 1 (s2 := (d + 4, 30, 5, [some (.ref 28), some (.ref 1005), none, none], [.ref 28], 0, 0, (mSH, (mMix [28] I K1), L))) rfl ?_
  refine mCall (s2 := (d + 3, 35, 0, [some (.ref 28), none], [], 0, 0, (mSH, (mMix [28] I K1), L))) rfl ?_
  refine w_eol n26 (fun r2 => ?_)
  show mWP mTb_ mFT ro (d + 4, 30, 8, [some (.ref 28), some (.ref 1005), none, none], [.int r2], 0, 0, (mSH, (mMix [28] I K1), L)) _
  refine mB 6 (s2 := (d + 4, 30, 16, [some (.ref 28), some (.ref 1005), some (.int r2), none], [.ref 1005, .int (r2 - (K1 28 2))], 0, 0, (mSH, (mMix [28] I K1), L))) rfl ?_
  refine mCall (s2 := (d + 3, 160, 0, [some (.ref 1005)], [], 0, 0, (mSH, (mMix [28] I K1), L))) rfl ?_
  refine w_len_2 hB ?_
  show mWP mTb_ mFT ro (d + 4, 30, 19, [some (.ref 28), some (.ref 1005), some (.int r2), none], [.int 5, .int (r2 - (K1 28 2))], 0, 0, (mSH, (mMix [28] I K1), L)) _
  refine mBr (s2 := (d + 4, 30, 24, [some (.ref 28), some (.ref 1005), some (.int r2), none], [], 0, 0, (mSH, (mMix [28] I K1), L))) (s3 := (d + 4, 30, 22, [some (.ref 28), some (.ref 1005), some (.int r2), none], [], 0, 0, (mSH, (mMix [28] I K1), L))) rfl (fun c2 => ?_) (fun c2 => ?_)
  · refine mB 4 (s2 := (d + 4, 30, 28, [some (.ref 28), some (.ref 1005), some (.int r2), some (.int 0)], [.ref 1005, .int 0], 0, 0, (mSH, (mMix [28] I K1), L))) rfl ?_
    refine mCall (s2 := (d + 3, 160, 0, [some (.ref 1005)], [], 0, 0, (mSH, (mMix [28] I K1), L))) rfl ?_
    refine w_len_2 hB ?_
    show mWP mTb_ mFT ro (d + 4, 30, 31, [some (.ref 28), some (.ref 1005), some (.int r2), some (.int 0)], [.int 5, .int 0], 0, 0, (mSH, (mMix [28] I K1), L)) _
    refine mBF (s3 := (d + 4, 30, 34, [some (.ref 28), some (.ref 1005), some (.int r2), some (.int 0)], [], 0, 0, (mSH, (mMix [28] I K1), L))) rfl (by decide) ?_
    refine mB 6 (s2 := (d + 4, 30, 44, [some (.ref 28), some (.ref 1005), some (.int r2), some (.int 0)], [.int ((K1 28 2) + 0), .ref 26], 0, 0, (mSH, (mMix [28] I K1), L))) rfl ?_
    refine mCall (s2 := (d + 3, 42, 0, [some (.ref 26), some (.int ((K1 28 2) + 0))], [], 0, 0, (mSH, (mMix [28] I K1), L))) rfl ?_
    refine w_at_26 n26 ?_
    show mWP mTb_ mFT ro (d + 4, 30, 47, [some (.ref 28), some (.ref 1005), some (.int r2), some (.int 0)], [.int (mAt (mMix [28] I K1) 26 27 ((K1 28 2) + 0))], 0, 0, (mSH, (mMix [28] I K1), L)) _
    refine mB 2 (s2 := (d + 4, 30, 49, [some (.ref 28), some (.ref 1005), some (.int r2), some (.int 0)], [.int 0, .ref 1005, .int (mAt (mMix [28] I K1) 26 27 ((K1 28 2) + 0))], 0, 0, (mSH, (mMix [28] I K1), L))) rfl ?_
    refine mCall (s2 := (d + 3, 161, 0, [some (.ref 1005), some (.int 0)], [], 0, 0, (mSH, (mMix [28] I K1), L))) rfl ?_
    refine w_char_2_0 hB ?_
    show mWP mTb_ mFT ro (d + 4, 30, 52, [some (.ref 28), some (.ref 1005), some (.int r2), some (.int 0)], [.int 110, .int (mAt (mMix [28] I K1) 26 27 ((K1 28 2) + 0))], 0, 0, (mSH, (mMix [28] I K1), L)) _
    refine mBr (s2 := (d + 4, 30, 57, [some (.ref 28), some (.ref 1005), some (.int r2), some (.int 0)], [], 0, 0, (mSH, (mMix [28] I K1), L))) (s3 := (d + 4, 30, 55, [some (.ref 28), some (.ref 1005), some (.int r2), some (.int 0)], [], 0, 0, (mSH, (mMix [28] I K1), L))) rfl (fun c3 => ?_) (fun c3 => ?_)
    · refine mB 4 (s2 := (d + 4, 30, 28, [some (.ref 28), some (.ref 1005), some (.int r2), some (.int 1)], [.ref 1005, .int 1], 0, 0, (mSH, (mMix [28] I K1), L))) rfl ?_
      refine mCall (s2 := (d + 3, 160, 0, [some (.ref 1005)], [], 0, 0, (mSH, (mMix [28] I K1), L))) rfl ?_
      refine w_len_2 hB ?_
      show mWP mTb_ mFT ro (d + 4, 30, 31, [some (.ref 28), some (.ref 1005), some (.int r2), some (.int 1)], [.int 5, .int 1], 0, 0, (mSH, (mMix [28] I K1), L)) _
      refine mBF (s3 := (d + 4, 30, 34, [some (.ref 28), some (.ref 1005), some (.int r2), some (.int 1)], [], 0, 0, (mSH, (mMix [28] I K1), L))) rfl (by decide) ?_
      refine mB 6 (s2 := (d + 4, 30, 44, [some (.ref 28), some (.ref 1005), some (.int r2), some (.int 1)], [.int ((K1 28 2) + 1), .ref 26], 0, 0, (mSH, (mMix [28] I K1), L))) rfl ?_
      refine mCall (s2 := (d + 3, 42, 0, [some (.ref 26), some (.int ((K1 28 2) + 1))], [], 0, 0, (mSH, (mMix [28] I K1), L))) rfl ?_
      refine w_at_26 n26 ?_
      show mWP mTb_ mFT ro (d + 4, 30, 47, [some (.ref 28), some (.ref 1005), some (.int r2), some (.int 1)], [.int (mAt (mMix [28] I K1) 26 27 ((K1 28 2) + 1))], 0, 0, (mSH, (mMix [28] I K1), L)) _
      refine mB 2 (s2 := (d + 4, 30, 49, [some (.ref 28), some (.ref 1005), some (.int r2), some (.int 1)], [.int 1, .ref 1005, .int (mAt (mMix [28] I K1) 26 27 ((K1 28 2) + 1))], 0, 0, (mSH, (mMix [28] I K1), L))) rfl ?_
      refine mCall (s2 := (d + 3, 161, 0, [some (.ref 1005), some (.int 1)], [], 0, 0, (mSH, (mMix [28] I K1), L))) rfl ?_
      refine w_char_2_1 hB ?_
      show mWP mTb_ mFT ro (d + 4, 30, 52, [some (.ref 28), some (.ref 1005), some (.int r2), some (.int 1)], [.int 111, .int (mAt (mMix [28] I K1) 26 27 ((K1 28 2) + 1))], 0, 0, (mSH, (mMix [28] I K1), L)) _
      refine mBr (s2 := (d + 4, 30, 57, [some (.ref 28), some (.ref 1005), some (.int r2), some (.int 1)], [], 0, 0, (mSH, (mMix [28] I K1), L))) (s3 := (d + 4, 30, 55, [some (.ref 28), some (.ref 1005), some (.int r2), some (.int 1)], [], 0, 0, (mSH, (mMix [28] I K1), L))) rfl (fun c4 => ?_) (fun c4 => ?_)
      · refine mB 4 (s2 := (d + 4, 30, 28, [some (.ref 28), some (.ref 1005), some (.int r2), some (.int 2)], [.ref 1005, .int 2], 0, 0, (mSH, (mMix [28] I K1), L))) rfl ?_
        refine mCall (s2 := (d + 3, 160, 0, [some (.ref 1005)], [], 0, 0, (mSH, (mMix [28] I K1), L))) rfl ?_
        refine w_len_2 hB ?_
        show mWP mTb_ mFT ro (d + 4, 30, 31, [some (.ref 28), some (.ref 1005), some (.int r2), some (.int 2)], [.int 5, .int 2], 0, 0, (mSH, (mMix [28] I K1), L)) _
        refine mBF (s3 := (d + 4, 30, 34, [some (.ref 28), some (.ref 1005), some (.int r2), some (.int 2)], [], 0, 0, (mSH, (mMix [28] I K1), L))) rfl (by decide) ?_
        refine mB 6 (s2 := (d + 4, 30, 44, [some (.ref 28), some (.ref 1005), some (.int r2), some (.int 2)], [.int ((K1 28 2) + 2), .ref 26], 0, 0, (mSH, (mMix [28] I K1), L))) rfl ?_
        refine mCall (s2 := (d + 3, 42, 0, [some (.ref 26), some (.int ((K1 28 2) + 2))], [], 0, 0, (mSH, (mMix [28] I K1), L))) rfl ?_
        refine w_at_26 n26 ?_
        show mWP mTb_ mFT ro (d + 4, 30, 47, [some (.ref 28), some (.ref 1005), some (.int r2), some (.int 2)], [.int (mAt (mMix [28] I K1) 26 27 ((K1 28 2) + 2))], 0, 0, (mSH, (mMix [28] I K1), L)) _
        refine mB 2 (s2 := (d + 4, 30, 49, [some (.ref 28), some (.ref 1005), some (.int r2), some (.int 2)], [.int 2, .ref 1005, .int (mAt (mMix [28] I K1) 26 27 ((K1 28 2) + 2))], 0, 0, (mSH, (mMix [28] I K1), L))) rfl ?_
        refine mCall (s2 := (d + 3, 161, 0, [some (.ref 1005), some (.int 2)], [], 0, 0, (mSH, (mMix [28] I K1), L))) rfl ?_
        refine w_char_2_2 hB ?_
        show mWP mTb_ mFT ro (d + 4, 30, 52, [some (.ref 28), some (.ref 1005), some (.int r2), some (.int 2)], [.int 114, .int (mAt (mMix [28] I K1) 26 27 ((K1 28 2) + 2))], 0, 0, (mSH, (mMix [28] I K1), L)) _
        refine mBr (s2 := (d + 4, 30, 57, [some (.ref 28), some (.ref 1005), some (.int r2), some (.int 2)], [], 0, 0, (mSH, (mMix [28] I K1), L))) (s3 := (d + 4, 30, 55, [some (.ref 28), some (.ref 1005), some (.int r2), some (.int 2)], [], 0, 0, (mSH, (mMix [28] I K1), L))) rfl (fun c5 => ?_) (fun c5 => ?_)
        · refine mB 4 (s2 := (d + 4, 30, 28, [some (.ref 28), some (.ref 1005), some (.int r2), some (.int 3)], [.ref 1005, .int 3], 0, 0, (mSH, (mMix [28] I K1), L))) rfl ?_
          refine mCall (s2 := (d + 3, 160, 0, [some (.ref 1005)], [], 0, 0, (mSH, (mMix [28] I K1), L))) rfl ?_
          refine w_len_2 hB ?_
          show mWP mTb_ mFT ro (d + 4, 30, 31, [some (.ref 28), some (.ref 1005), some (.int r2), some (.int 3)], [.int 5, .int 3], 0, 0, (mSH, (mMix [28] I K1), L)) _
          refine mBF (s3 := (d + 4, 30, 34, [some (.ref 28), some (.ref 1005), some (.int r2), some (.int 3)], [], 0, 0, (mSH, (mMix [28] I K1), L))) rfl (by decide) ?_
          refine mB 6 (s2 := (d + 4, 30, 44, [some (.ref 28), some (.ref 1005), some (.int r2), some (.int 3)], [.int ((K1 28 2) + 3), .ref 26], 0, 0, (mSH, (mMix [28] I K1), L))) rfl ?_
          refine mCall (s2 := (d + 3, 42, 0, [some (.ref 26), some (.int ((K1 28 2) + 3))], [], 0, 0, (mSH, (mMix [28] I K1), L))) rfl ?_
          refine w_at_26 n26 ?_
          show mWP mTb_ mFT ro (d + 4, 30, 47, [some (.ref 28), some (.ref 1005), some (.int r2), some (.int 3)], [.int (mAt (mMix [28] I K1) 26 27 ((K1 28 2) + 3))], 0, 0, (mSH, (mMix [28] I K1), L)) _
          refine mB 2 (s2 := (d + 4, 30, 49, [some (.ref 28), some (.ref 1005), some (.int r2), some (.int 3)], [.int 3, .ref 1005, .int (mAt (mMix [28] I K1) 26 27 ((K1 28 2) + 3))], 0, 0, (mSH, (mMix [28] I K1), L))) rfl ?_
          refine mCall (s2 := (d + 3, 161, 0, [some (.ref 1005), some (.int 3)], [], 0, 0, (mSH, (mMix [28] I K1), L))) rfl ?_
          refine w_char_2_3 hB ?_
          show mWP mTb_ mFT ro (d + 4, 30, 52, [some (.ref 28), some (.ref 1005), some (.int r2), some (.int 3)], [.int 116, .int (mAt (mMix [28] I K1) 26 27 ((K1 28 2) + 3))], 0, 0, (mSH, (mMix [28] I K1), L)) _
          refine mBr (s2 := (d + 4, 30, 57, [some (.ref 28), some (.ref 1005), some (.int r2), some (.int 3)], [], 0, 0, (mSH, (mMix [28] I K1), L))) (s3 := (d + 4, 30, 55, [some (.ref 28), some (.ref 1005), some (.int r2), some (.int 3)], [], 0, 0, (mSH, (mMix [28] I K1), L))) rfl (fun c6 => ?_) (fun c6 => ?_)
          · refine mB 4 (s2 := (d + 4, 30, 28, [some (.ref 28), some (.ref 1005), some (.int r2), some (.int 4)], [.ref 1005, .int 4], 0, 0, (mSH, (mMix [28] I K1), L))) rfl ?_
            refine mCall (s2 := (d + 3, 160, 0, [some (.ref 1005)], [], 0, 0, (mSH, (mMix [28] I K1), L))) rfl ?_
            refine w_len_2 hB ?_
            show mWP mTb_ mFT ro (d + 4, 30, 31, [some (.ref 28), some (.ref 1005), some (.int r2), some (.int 4)], [.int 5, .int 4], 0, 0, (mSH, (mMix [28] I K1), L)) _
            refine mBF (s3 := (d + 4, 30, 34, [some (.ref 28), some (.ref 1005), some (.int r2), some (.int 4)], [], 0, 0, (mSH, (mMix [28] I K1), L))) rfl (by decide) ?_
            refine mB 6 (s2 := (d + 4, 30, 44, [some (.ref 28), some (.ref 1005), some (.int r2), some (.int 4)], [.int ((K1 28 2) + 4), .ref 26], 0, 0, (mSH, (mMix [28] I K1), L))) rfl ?_
            refine mCall (s2 := (d + 3, 42, 0, [some (.ref 26), some (.int ((K1 28 2) + 4))], [], 0, 0, (mSH, (mMix [28] I K1), L))) rfl ?_
            refine w_at_26 n26 ?_
            show mWP mTb_ mFT ro (d + 4, 30, 47, [some (.ref 28), some (.ref 1005), some (.int r2), some (.int 4)], [.int (mAt (mMix [28] I K1) 26 27 ((K1 28 2) + 4))], 0, 0, (mSH, (mMix [28] I K1), L)) _
            refine mB 2 (s2 := (d + 4, 30, 49, [some (.ref 28), some (.ref 1005), some (.int r2), some (.int 4)], [.int 4, .ref 1005, .int (mAt (mMix [28] I K1) 26 27 ((K1 28 2) + 4))], 0, 0, (mSH, (mMix [28] I K1), L))) rfl ?_
            refine mCall (s2 := (d + 3, 161, 0, [some (.ref 1005), some (.int 4)], [], 0, 0, (mSH, (mMix [28] I K1), L))) rfl ?_
            refine w_char_2_4 hB ?_
            show mWP mTb_ mFT ro (d + 4, 30, 52, [some (.ref 28), some (.ref 1005), some (.int r2), some (.int 4)], [.int 104, .int (mAt (mMix [28] I K1) 26 27 ((K1 28 2) + 4))], 0, 0, (mSH, (mMix [28] I K1), L)) _
            refine mBr (s2 := (d + 4, 30, 57, [some (.ref 28), some (.ref 1005), some (.int r2), some (.int 4)], [], 0, 0, (mSH, (mMix [28] I K1), L))) (s3 := (d + 4, 30, 55, [some (.ref 28), some (.ref 1005), some (.int r2), some (.int 4)], [], 0, 0, (mSH, (mMix [28] I K1), L))) rfl (fun c7 => ?_) (fun c7 => ?_)
            · refine mB 4 (s2 := (d + 4, 30, 28, [some (.ref 28), some (.ref 1005), some (.int r2), some (.int 5)], [.ref 1005, .int 5], 0, 0, (mSH, (mMix [28] I K1), L))) rfl ?_
              refine mCall (s2 := (d + 3, 160, 0, [some (.ref 1005)], [], 0, 0, (mSH, (mMix [28] I K1), L))) rfl ?_
              refine w_len_2 hB ?_
              show mWP mTb_ mFT ro (d + 4, 30, 31, [some (.ref 28), some (.ref 1005), some (.int r2), some (.int 5)], [.int 5, .int 5], 0, 0, (mSH, (mMix [28] I K1), L)) _
              refine mBT (s2 := (d + 4, 30, 63, [some (.ref 28), some (.ref 1005), some (.int r2), some (.int 5)], [], 0, 0, (mSH, (mMix [28] I K1), L))) rfl (by decide) ?_
              refine mB 4 (s2 := (d + 4, 30, 69, [some (.ref 28), some (.ref 1005), some (.int r2), some (.int 5)], [.int 1], 0, 0, (mSH, (mUp (mMix [28] I K1) 28 2 r2), L))) rfl ?_
              refine mRt (r := (some (.int 1))) (h := (mSH, (mUp (mMix [28] I K1) 28 2 r2), L)) rfl rfl ?_
              exact mFin (P := (fun _ => True)) q1 (mFr.up (by rfl) (mFr.mix (by decide) mFr.rf)) trivial
            · refine mB 1 (s2 := (d + 4, 30, 56, [some (.ref 28), some (.ref 1005), some (.int r2), some (.int 4)], [.int 0], 0, 0, (mSH, (mMix [28] I K1), L))) rfl ?_
              refine mRt (r := (some (.int 0))) (h := (mSH, (mMix [28] I K1), L)) rfl rfl ?_
              exact mFin (P := (fun _ => True)) q0 (mFr.mix (by decide) mFr.rf) trivial
          · refine mB 1 (s2 := (d + 4, 30, 56, [some (.ref 28), some (.ref 1005), some (.int r2), some (.int 3)], [.int 0], 0, 0, (mSH, (mMix [28] I K1), L))) rfl ?_
            refine mRt (r := (some (.int 0))) (h := (mSH, (mMix [28] I K1), L)) rfl rfl ?_
            exact mFin (P := (fun _ => True)) q0 (mFr.mix (by decide) mFr.rf) trivial
        · refine mB 1 (s2 := (d + 4, 30, 56, [some (.ref 28), some (.ref 1005), some (.int r2), some (.int 2)], [.int 0], 0, 0, (mSH, (mMix [28] I K1), L))) rfl ?_
          refine mRt (r := (some (.int 0))) (h := (mSH, (mMix [28] I K1), L)) rfl rfl ?_
          exact mFin (P := (fun _ => True)) q0 (mFr.mix (by decide) mFr.rf) trivial
      · refine mB 1 (s2 := (d + 4, 30, 56, [some (.ref 28), some (.ref 1005), some (.int r2), some (.int 1)], [.int 0], 0, 0, (mSH, (mMix [28] I K1), L))) rfl ?_
        refine mRt (r := (some (.int 0))) (h := (mSH, (mMix [28] I K1), L)) rfl rfl ?_
        exact mFin (P := (fun _ => True)) q0 (mFr.mix (by decide) mFr.rf) trivial
    · refine mB 1 (s2 := (d + 4, 30, 56, [some (.ref 28), some (.ref 1005), some (.int r2), some (.int 0)], [.int 0], 0, 0, (mSH, (mMix [28] I K1), L))) rfl ?_
      refine mRt (r := (some (.int 0))) (h := (mSH, (mMix [28] I K1), L)) rfl rfl ?_
      exact mFin (P := (fun _ => True)) q0 (mFr.mix (by decide) mFr.rf) trivial
  · refine mB 1 (s2 := (d + 4, 30, 23, [some (.ref 28), some (.ref 1005), some (.int r2), none], [.int 0], 0, 0, (mSH, (mMix [28] I K1), L))) rfl ?_
    refine mRt (r := (some (.int 0))) (h := (mSH, (mMix [28] I K1), L)) rfl rfl ?_
    exact mFin (P := (fun _ => True)) q0 (mFr.mix (by decide) mFr.rf) trivial
theorem w_word_3 {ro : Nat → Nat × (Nat → Int32)} {Q : mPo} {d : Nat} {I : Nat → Nat → Int32} {L : Nat → Nat → Int64} (n26 : mCn I 26 120) (hB : mRB ro) (q0 : ∀ K, (fun _ => True) K → Q (some (.int 0)) (mSH, mMix [28] I K, L)) (q1 : ∀ K, (fun _ => True) K → Q (some (.int 1)) (mSH, mMix [28] I K, L))  : mWP mTb_ mFT ro (d + 4, 30, 0, [some (.ref 28), some (.ref 1006), none, none], [], 0, 0, (mSH, I, L)) Q := by
  refine mB 1 (s2 := (d + 4, 30, 1, [some (.ref 28), some (.ref 1006), none, none], [.ref 28], 0, 0, (mSH, I, L))) rfl ?_
  refine mCall (s2 := (d + 3, 34, 0, [some (.ref 28)], [], 0, 0, (mSH, I, L))) rfl ?_
  refine w_skip n26 (fun K1 hK1 => ?_)
  show mWP mTb_ mFT ro (d + 4, 30, 4, [some (.ref 28), some (.ref 1006), none, none], [], 0, 0, (mSH, (mMix [28] I K1), L)) _
  refine mB 1 (s2 := (d + 4, 30, 5, [some (.ref 28), some (.ref 1006), none, none], [.ref 28], 0, 0, (mSH, (mMix [28] I K1), L))) rfl ?_
  refine mCall (s2 := (d + 3, 35, 0, [some (.ref 28), none], [], 0, 0, (mSH, (mMix [28] I K1), L))) rfl ?_
  refine w_eol n26 (fun r2 => ?_)
  show mWP mTb_ mFT ro (d + 4, 30, 8, [some (.ref 28), some (.ref 1006), none, none], [.int r2], 0, 0, (mSH, (mMix [28] I K1), L)) _
  refine mB 6 (s2 := (d + 4, 30, 16, [some (.ref 28), some (.ref 1006), some (.int r2), none], [.ref 1006, .int (r2 - (K1 28 2))], 0, 0, (mSH, (mMix [28] I K1), L))) rfl ?_
  refine mCall (s2 := (d + 3, 160, 0, [some (.ref 1006)], [], 0, 0, (mSH, (mMix [28] I K1), L))) rfl ?_
  refine w_len_3 hB ?_
  show mWP mTb_ mFT ro (d + 4, 30, 19, [some (.ref 28), some (.ref 1006), some (.int r2), none], [.int 5, .int (r2 - (K1 28 2))], 0, 0, (mSH, (mMix [28] I K1), L)) _
  refine mBr (s2 := (d + 4, 30, 24, [some (.ref 28), some (.ref 1006), some (.int r2), none], [], 0, 0, (mSH, (mMix [28] I K1), L))) (s3 := (d + 4, 30, 22, [some (.ref 28), some (.ref 1006), some (.int r2), none], [], 0, 0, (mSH, (mMix [28] I K1), L))) rfl (fun c2 => ?_) (fun c2 => ?_)
  · refine mB 4 (s2 := (d + 4, 30, 28, [some (.ref 28), some (.ref 1006), some (.int r2), some (.int 0)], [.ref 1006, .int 0], 0, 0, (mSH, (mMix [28] I K1), L))) rfl ?_
    refine mCall (s2 := (d + 3, 160, 0, [some (.ref 1006)], [], 0, 0, (mSH, (mMix [28] I K1), L))) rfl ?_
    refine w_len_3 hB ?_
    show mWP mTb_ mFT ro (d + 4, 30, 31, [some (.ref 28), some (.ref 1006), some (.int r2), some (.int 0)], [.int 5, .int 0], 0, 0, (mSH, (mMix [28] I K1), L)) _
    refine mBF (s3 := (d + 4, 30, 34, [some (.ref 28), some (.ref 1006), some (.int r2), some (.int 0)], [], 0, 0, (mSH, (mMix [28] I K1), L))) rfl (by decide) ?_
    refine mB 6 (s2 := (d + 4, 30, 44, [some (.ref 28), some (.ref 1006), some (.int r2), some (.int 0)], [.int ((K1 28 2) + 0), .ref 26], 0, 0, (mSH, (mMix [28] I K1), L))) rfl ?_
    refine mCall (s2 := (d + 3, 42, 0, [some (.ref 26), some (.int ((K1 28 2) + 0))], [], 0, 0, (mSH, (mMix [28] I K1), L))) rfl ?_
    refine w_at_26 n26 ?_
    show mWP mTb_ mFT ro (d + 4, 30, 47, [some (.ref 28), some (.ref 1006), some (.int r2), some (.int 0)], [.int (mAt (mMix [28] I K1) 26 27 ((K1 28 2) + 0))], 0, 0, (mSH, (mMix [28] I K1), L)) _
    refine mB 2 (s2 := (d + 4, 30, 49, [some (.ref 28), some (.ref 1006), some (.int r2), some (.int 0)], [.int 0, .ref 1006, .int (mAt (mMix [28] I K1) 26 27 ((K1 28 2) + 0))], 0, 0, (mSH, (mMix [28] I K1), L))) rfl ?_
    refine mCall (s2 := (d + 3, 161, 0, [some (.ref 1006), some (.int 0)], [], 0, 0, (mSH, (mMix [28] I K1), L))) rfl ?_
    refine w_char_3_0 hB ?_
    show mWP mTb_ mFT ro (d + 4, 30, 52, [some (.ref 28), some (.ref 1006), some (.int r2), some (.int 0)], [.int 115, .int (mAt (mMix [28] I K1) 26 27 ((K1 28 2) + 0))], 0, 0, (mSH, (mMix [28] I K1), L)) _
    refine mBr (s2 := (d + 4, 30, 57, [some (.ref 28), some (.ref 1006), some (.int r2), some (.int 0)], [], 0, 0, (mSH, (mMix [28] I K1), L))) (s3 := (d + 4, 30, 55, [some (.ref 28), some (.ref 1006), some (.int r2), some (.int 0)], [], 0, 0, (mSH, (mMix [28] I K1), L))) rfl (fun c3 => ?_) (fun c3 => ?_)
    · refine mB 4 (s2 := (d + 4, 30, 28, [some (.ref 28), some (.ref 1006), some (.int r2), some (.int 1)], [.ref 1006, .int 1], 0, 0, (mSH, (mMix [28] I K1), L))) rfl ?_
      refine mCall (s2 := (d + 3, 160, 0, [some (.ref 1006)], [], 0, 0, (mSH, (mMix [28] I K1), L))) rfl ?_
      refine w_len_3 hB ?_
      show mWP mTb_ mFT ro (d + 4, 30, 31, [some (.ref 28), some (.ref 1006), some (.int r2), some (.int 1)], [.int 5, .int 1], 0, 0, (mSH, (mMix [28] I K1), L)) _
      refine mBF (s3 := (d + 4, 30, 34, [some (.ref 28), some (.ref 1006), some (.int r2), some (.int 1)], [], 0, 0, (mSH, (mMix [28] I K1), L))) rfl (by decide) ?_
      refine mB 6 (s2 := (d + 4, 30, 44, [some (.ref 28), some (.ref 1006), some (.int r2), some (.int 1)], [.int ((K1 28 2) + 1), .ref 26], 0, 0, (mSH, (mMix [28] I K1), L))) rfl ?_
      refine mCall (s2 := (d + 3, 42, 0, [some (.ref 26), some (.int ((K1 28 2) + 1))], [], 0, 0, (mSH, (mMix [28] I K1), L))) rfl ?_
      refine w_at_26 n26 ?_
      show mWP mTb_ mFT ro (d + 4, 30, 47, [some (.ref 28), some (.ref 1006), some (.int r2), some (.int 1)], [.int (mAt (mMix [28] I K1) 26 27 ((K1 28 2) + 1))], 0, 0, (mSH, (mMix [28] I K1), L)) _
      refine mB 2 (s2 := (d + 4, 30, 49, [some (.ref 28), some (.ref 1006), some (.int r2), some (.int 1)], [.int 1, .ref 1006, .int (mAt (mMix [28] I K1) 26 27 ((K1 28 2) + 1))], 0, 0, (mSH, (mMix [28] I K1), L))) rfl ?_
      refine mCall (s2 := (d + 3, 161, 0, [some (.ref 1006), some (.int 1)], [], 0, 0, (mSH, (mMix [28] I K1), L))) rfl ?_
      refine w_char_3_1 hB ?_
      show mWP mTb_ mFT ro (d + 4, 30, 52, [some (.ref 28), some (.ref 1006), some (.int r2), some (.int 1)], [.int 111, .int (mAt (mMix [28] I K1) 26 27 ((K1 28 2) + 1))], 0, 0, (mSH, (mMix [28] I K1), L)) _
      refine mBr (s2 := (d + 4, 30, 57, [some (.ref 28), some (.ref 1006), some (.int r2), some (.int 1)], [], 0, 0, (mSH, (mMix [28] I K1), L))) (s3 := (d + 4, 30, 55, [some (.ref 28), some (.ref 1006), some (.int r2), some (.int 1)], [], 0, 0, (mSH, (mMix [28] I K1), L))) rfl (fun c4 => ?_) (fun c4 => ?_)
      · refine mB 4 (s2 := (d + 4, 30, 28, [some (.ref 28), some (.ref 1006), some (.int r2), some (.int 2)], [.ref 1006, .int 2], 0, 0, (mSH, (mMix [28] I K1), L))) rfl ?_
        refine mCall (s2 := (d + 3, 160, 0, [some (.ref 1006)], [], 0, 0, (mSH, (mMix [28] I K1), L))) rfl ?_
        refine w_len_3 hB ?_
        show mWP mTb_ mFT ro (d + 4, 30, 31, [some (.ref 28), some (.ref 1006), some (.int r2), some (.int 2)], [.int 5, .int 2], 0, 0, (mSH, (mMix [28] I K1), L)) _
        refine mBF (s3 := (d + 4, 30, 34, [some (.ref 28), some (.ref 1006), some (.int r2), some (.int 2)], [], 0, 0, (mSH, (mMix [28] I K1), L))) rfl (by decide) ?_
        refine mB 6 (s2 := (d + 4, 30, 44, [some (.ref 28), some (.ref 1006), some (.int r2), some (.int 2)], [.int ((K1 28 2) + 2), .ref 26], 0, 0, (mSH, (mMix [28] I K1), L))) rfl ?_
        refine mCall (s2 := (d + 3, 42, 0, [some (.ref 26), some (.int ((K1 28 2) + 2))], [], 0, 0, (mSH, (mMix [28] I K1), L))) rfl ?_
        refine w_at_26 n26 ?_
        show mWP mTb_ mFT ro (d + 4, 30, 47, [some (.ref 28), some (.ref 1006), some (.int r2), some (.int 2)], [.int (mAt (mMix [28] I K1) 26 27 ((K1 28 2) + 2))], 0, 0, (mSH, (mMix [28] I K1), L)) _
        refine mB 2 (s2 := (d + 4, 30, 49, [some (.ref 28), some (.ref 1006), some (.int r2), some (.int 2)], [.int 2, .ref 1006, .int (mAt (mMix [28] I K1) 26 27 ((K1 28 2) + 2))], 0, 0, (mSH, (mMix [28] I K1), L))) rfl ?_
        refine mCall (s2 := (d + 3, 161, 0, [some (.ref 1006), some (.int 2)], [], 0, 0, (mSH, (mMix [28] I K1), L))) rfl ?_
        refine w_char_3_2 hB ?_
        show mWP mTb_ mFT ro (d + 4, 30, 52, [some (.ref 28), some (.ref 1006), some (.int r2), some (.int 2)], [.int 117, .int (mAt (mMix [28] I K1) 26 27 ((K1 28 2) + 2))], 0, 0, (mSH, (mMix [28] I K1), L)) _
        refine mBr (s2 := (d + 4, 30, 57, [some (.ref 28), some (.ref 1006), some (.int r2), some (.int 2)], [], 0, 0, (mSH, (mMix [28] I K1), L))) (s3 := (d + 4, 30, 55, [some (.ref 28), some (.ref 1006), some (.int r2), some (.int 2)], [], 0, 0, (mSH, (mMix [28] I K1), L))) rfl (fun c5 => ?_) (fun c5 => ?_)
        · refine mB 4 (s2 := (d + 4, 30, 28, [some (.ref 28), some (.ref 1006), some (.int r2), some (.int 3)], [.ref 1006, .int 3], 0, 0, (mSH, (mMix [28] I K1), L))) rfl ?_
          refine mCall (s2 := (d + 3, 160, 0, [some (.ref 1006)], [], 0, 0, (mSH, (mMix [28] I K1), L))) rfl ?_
          refine w_len_3 hB ?_
          show mWP mTb_ mFT ro (d + 4, 30, 31, [some (.ref 28), some (.ref 1006), some (.int r2), some (.int 3)], [.int 5, .int 3], 0, 0, (mSH, (mMix [28] I K1), L)) _
          refine mBF (s3 := (d + 4, 30, 34, [some (.ref 28), some (.ref 1006), some (.int r2), some (.int 3)], [], 0, 0, (mSH, (mMix [28] I K1), L))) rfl (by decide) ?_
          refine mB 6 (s2 := (d + 4, 30, 44, [some (.ref 28), some (.ref 1006), some (.int r2), some (.int 3)], [.int ((K1 28 2) + 3), .ref 26], 0, 0, (mSH, (mMix [28] I K1), L))) rfl ?_
          refine mCall (s2 := (d + 3, 42, 0, [some (.ref 26), some (.int ((K1 28 2) + 3))], [], 0, 0, (mSH, (mMix [28] I K1), L))) rfl ?_
          refine w_at_26 n26 ?_
          show mWP mTb_ mFT ro (d + 4, 30, 47, [some (.ref 28), some (.ref 1006), some (.int r2), some (.int 3)], [.int (mAt (mMix [28] I K1) 26 27 ((K1 28 2) + 3))], 0, 0, (mSH, (mMix [28] I K1), L)) _
          refine mB 2 (s2 := (d + 4, 30, 49, [some (.ref 28), some (.ref 1006), some (.int r2), some (.int 3)], [.int 3, .ref 1006, .int (mAt (mMix [28] I K1) 26 27 ((K1 28 2) + 3))], 0, 0, (mSH, (mMix [28] I K1), L))) rfl ?_
          refine mCall (s2 := (d + 3, 161, 0, [some (.ref 1006), some (.int 3)], [], 0, 0, (mSH, (mMix [28] I K1), L))) rfl ?_
          refine w_char_3_3 hB ?_
          show mWP mTb_ mFT ro (d + 4, 30, 52, [some (.ref 28), some (.ref 1006), some (.int r2), some (.int 3)], [.int 116, .int (mAt (mMix [28] I K1) 26 27 ((K1 28 2) + 3))], 0, 0, (mSH, (mMix [28] I K1), L)) _
          refine mBr (s2 := (d + 4, 30, 57, [some (.ref 28), some (.ref 1006), some (.int r2), some (.int 3)], [], 0, 0, (mSH, (mMix [28] I K1), L))) (s3 := (d + 4, 30, 55, [some (.ref 28), some (.ref 1006), some (.int r2), some (.int 3)], [], 0, 0, (mSH, (mMix [28] I K1), L))) rfl (fun c6 => ?_) (fun c6 => ?_)
          · refine mB 4 (s2 := (d + 4, 30, 28, [some (.ref 28), some (.ref 1006), some (.int r2), some (.int 4)], [.ref 1006, .int 4], 0, 0, (mSH, (mMix [28] I K1), L))) rfl ?_
            refine mCall (s2 := (d + 3, 160, 0, [some (.ref 1006)], [], 0, 0, (mSH, (mMix [28] I K1), L))) rfl ?_
            refine w_len_3 hB ?_
            show mWP mTb_ mFT ro (d + 4, 30, 31, [some (.ref 28), some (.ref 1006), some (.int r2), some (.int 4)], [.int 5, .int 4], 0, 0, (mSH, (mMix [28] I K1), L)) _
            refine mBF (s3 := (d + 4, 30, 34, [some (.ref 28), some (.ref 1006), some (.int r2), some (.int 4)], [], 0, 0, (mSH, (mMix [28] I K1), L))) rfl (by decide) ?_
            refine mB 6 (s2 := (d + 4, 30, 44, [some (.ref 28), some (.ref 1006), some (.int r2), some (.int 4)], [.int ((K1 28 2) + 4), .ref 26], 0, 0, (mSH, (mMix [28] I K1), L))) rfl ?_
            refine mCall (s2 := (d + 3, 42, 0, [some (.ref 26), some (.int ((K1 28 2) + 4))], [], 0, 0, (mSH, (mMix [28] I K1), L))) rfl ?_
            refine w_at_26 n26 ?_
            show mWP mTb_ mFT ro (d + 4, 30, 47, [some (.ref 28), some (.ref 1006), some (.int r2), some (.int 4)], [.int (mAt (mMix [28] I K1) 26 27 ((K1 28 2) + 4))], 0, 0, (mSH, (mMix [28] I K1), L)) _
            refine mB 2 (s2 := (d + 4, 30, 49, [some (.ref 28), some (.ref 1006), some (.int r2), some (.int 4)], [.int 4, .ref 1006, .int (mAt (mMix [28] I K1) 26 27 ((K1 28 2) + 4))], 0, 0, (mSH, (mMix [28] I K1), L))) rfl ?_
            refine mCall (s2 := (d + 3, 161, 0, [some (.ref 1006), some (.int 4)], [], 0, 0, (mSH, (mMix [28] I K1), L))) rfl ?_
            refine w_char_3_4 hB ?_
            show mWP mTb_ mFT ro (d + 4, 30, 52, [some (.ref 28), some (.ref 1006), some (.int r2), some (.int 4)], [.int 104, .int (mAt (mMix [28] I K1) 26 27 ((K1 28 2) + 4))], 0, 0, (mSH, (mMix [28] I K1), L)) _
            refine mBr (s2 := (d + 4, 30, 57, [some (.ref 28), some (.ref 1006), some (.int r2), some (.int 4)], [], 0, 0, (mSH, (mMix [28] I K1), L))) (s3 := (d + 4, 30, 55, [some (.ref 28), some (.ref 1006), some (.int r2), some (.int 4)], [], 0, 0, (mSH, (mMix [28] I K1), L))) rfl (fun c7 => ?_) (fun c7 => ?_)
            · refine mB 4 (s2 := (d + 4, 30, 28, [some (.ref 28), some (.ref 1006), some (.int r2), some (.int 5)], [.ref 1006, .int 5], 0, 0, (mSH, (mMix [28] I K1), L))) rfl ?_
              refine mCall (s2 := (d + 3, 160, 0, [some (.ref 1006)], [], 0, 0, (mSH, (mMix [28] I K1), L))) rfl ?_
              refine w_len_3 hB ?_
              show mWP mTb_ mFT ro (d + 4, 30, 31, [some (.ref 28), some (.ref 1006), some (.int r2), some (.int 5)], [.int 5, .int 5], 0, 0, (mSH, (mMix [28] I K1), L)) _
              refine mBT (s2 := (d + 4, 30, 63, [some (.ref 28), some (.ref 1006), some (.int r2), some (.int 5)], [], 0, 0, (mSH, (mMix [28] I K1), L))) rfl (by decide) ?_
              refine mB 4 (s2 := (d + 4, 30, 69, [some (.ref 28), some (.ref 1006), some (.int r2), some (.int 5)], [.int 1], 0, 0, (mSH, (mUp (mMix [28] I K1) 28 2 r2), L))) rfl ?_
              refine mRt (r := (some (.int 1))) (h := (mSH, (mUp (mMix [28] I K1) 28 2 r2), L)) rfl rfl ?_
              exact mFin (P := (fun _ => True)) q1 (mFr.up (by rfl) (mFr.mix (by decide) mFr.rf)) trivial
            · refine mB 1 (s2 := (d + 4, 30, 56, [some (.ref 28), some (.ref 1006), some (.int r2), some (.int 4)], [.int 0], 0, 0, (mSH, (mMix [28] I K1), L))) rfl ?_
              refine mRt (r := (some (.int 0))) (h := (mSH, (mMix [28] I K1), L)) rfl rfl ?_
              exact mFin (P := (fun _ => True)) q0 (mFr.mix (by decide) mFr.rf) trivial
          · refine mB 1 (s2 := (d + 4, 30, 56, [some (.ref 28), some (.ref 1006), some (.int r2), some (.int 3)], [.int 0], 0, 0, (mSH, (mMix [28] I K1), L))) rfl ?_
            refine mRt (r := (some (.int 0))) (h := (mSH, (mMix [28] I K1), L)) rfl rfl ?_
            exact mFin (P := (fun _ => True)) q0 (mFr.mix (by decide) mFr.rf) trivial
        · refine mB 1 (s2 := (d + 4, 30, 56, [some (.ref 28), some (.ref 1006), some (.int r2), some (.int 2)], [.int 0], 0, 0, (mSH, (mMix [28] I K1), L))) rfl ?_
          refine mRt (r := (some (.int 0))) (h := (mSH, (mMix [28] I K1), L)) rfl rfl ?_
          exact mFin (P := (fun _ => True)) q0 (mFr.mix (by decide) mFr.rf) trivial
      · refine mB 1 (s2 := (d + 4, 30, 56, [some (.ref 28), some (.ref 1006), some (.int r2), some (.int 1)], [.int 0], 0, 0, (mSH, (mMix [28] I K1), L))) rfl ?_
        refine mRt (r := (some (.int 0))) (h := (mSH, (mMix [28] I K1), L)) rfl rfl ?_
        exact mFin (P := (fun _ => True)) q0 (mFr.mix (by decide) mFr.rf) trivial
    · refine mB 1 (s2 := (d + 4, 30, 56, [some (.ref 28), some (.ref 1006), some (.int r2), some (.int 0)], [.int 0], 0, 0, (mSH, (mMix [28] I K1), L))) rfl ?_
      refine mRt (r := (some (.int 0))) (h := (mSH, (mMix [28] I K1), L)) rfl rfl ?_
      exact mFin (P := (fun _ => True)) q0 (mFr.mix (by decide) mFr.rf) trivial
  · refine mB 1 (s2 := (d + 4, 30, 23, [some (.ref 28), some (.ref 1006), some (.int r2), none], [.int 0], 0, 0, (mSH, (mMix [28] I K1), L))) rfl ?_
    refine mRt (r := (some (.int 0))) (h := (mSH, (mMix [28] I K1), L)) rfl rfl ?_
    exact mFin (P := (fun _ => True)) q0 (mFr.mix (by decide) mFr.rf) trivial
theorem w_point {ro : Nat → Nat × (Nat → Int32)} {Q : mPo} {d : Nat} {I : Nat → Nat → Int32} {L : Nat → Nat → Int64} (n26 : mCn I 26 120) (hB : mRB ro) (q0 : ∀ K, (fun _ => True) K → Q (some (.int 0)) (mSH, mMix [28, 29] I K, L)) (q1 : ∀ K, (fun _ => True) K → Q (some (.int 1)) (mSH, mMix [28, 29] I K, L))  : mWP mTb_ mFT ro (d + 5, 29, 0, [some (.ref 28)], [], 0, 0, (mSH, I, L)) Q := by
  refine mB 2 (s2 := (d + 5, 29, 3, [some (.ref 28)], [.ref 1005, .ref 28], 0, 0, (mSH, I, L))) rfl ?_
  refine mCall (s2 := (d + 4, 30, 0, [some (.ref 28), some (.ref 1005), none, none], [], 0, 0, (mSH, I, L))) rfl ?_
  refine w_word_2 n26 hB ?_ ?_
  · intro K1 hK1
    show mWP mTb_ mFT ro (d + 5, 29, 6, [some (.ref 28)], [.int 0], 0, 0, (mSH, (mMix [28] I K1), L)) _
    refine mBT (s2 := (d + 5, 29, 19, [some (.ref 28)], [], 0, 0, (mSH, (mMix [28] I K1), L))) rfl (by decide) ?_
    refine mB 6 (s2 := (d + 5, 29, 30, [some (.ref 28)], [.ref 1006, .ref 28], 0, 0, (mSH, (mUp (mMix [28] I K1) 29 2 1), L))) rfl ?_
    refine mCall (s2 := (d + 4, 30, 0, [some (.ref 28), some (.ref 1006), none, none], [], 0, 0, (mSH, (mUp (mMix [28] I K1) 29 2 1), L))) rfl ?_
    refine w_word_3 n26 hB ?_ ?_
    · intro K2 hK2
      show mWP mTb_ mFT ro (d + 5, 29, 33, [some (.ref 28)], [.int 0], 0, 0, (mSH, (mMix [28] (mUp (mMix [28] I K1) 29 2 1) K2), L)) _
      refine mRt (r := (some (.int 0))) (h := (mSH, (mMix [28] (mUp (mMix [28] I K1) 29 2 1) K2), L)) rfl rfl ?_
      exact mFin (P := (fun _ => True)) q0 (mFr.mix (by decide) (mFr.up (by rfl) (mFr.mix (by decide) mFr.rf))) trivial
    · intro K2 hK2
      show mWP mTb_ mFT ro (d + 5, 29, 33, [some (.ref 28)], [.int 1], 0, 0, (mSH, (mMix [28] (mUp (mMix [28] I K1) 29 2 1) K2), L)) _
      refine mRt (r := (some (.int 1))) (h := (mSH, (mMix [28] (mUp (mMix [28] I K1) 29 2 1) K2), L)) rfl rfl ?_
      exact mFin (P := (fun _ => True)) q1 (mFr.mix (by decide) (mFr.up (by rfl) (mFr.mix (by decide) mFr.rf))) trivial
  · intro K1 hK1
    show mWP mTb_ mFT ro (d + 5, 29, 6, [some (.ref 28)], [.int 1], 0, 0, (mSH, (mMix [28] I K1), L)) _
    refine mBF (s3 := (d + 5, 29, 9, [some (.ref 28)], [], 0, 0, (mSH, (mMix [28] I K1), L))) rfl (by decide) ?_
    refine mB 5 (s2 := (d + 5, 29, 18, [some (.ref 28)], [.int 1], 0, 0, (mSH, (mUp (mMix [28] I K1) 29 2 0), L))) rfl ?_
    refine mRt (r := (some (.int 1))) (h := (mSH, (mUp (mMix [28] I K1) 29 2 0), L)) rfl rfl ?_
    exact mFin (P := (fun _ => True)) q1 (mFr.up (by rfl) (mFr.mix (by decide) mFr.rf)) trivial
theorem w_atEnd {ro : Nat → Nat × (Nat → Int32)} {Q : mPo} {d : Nat} {I : Nat → Nat → Int32} {L : Nat → Nat → Int64} (n26 : mCn I 26 120) (q0 : ∀ K, (fun _ => True) K → Q (some (.int 0)) (mSH, mMix [28] I K, L)) (q1 : ∀ K, (fun _ => True) K → Q (some (.int 1)) (mSH, mMix [28] I K, L))  : mWP mTb_ mFT ro (d + 2, 33, 0, [some (.ref 28)], [], 0, 0, (mSH, I, L)) Q := by
  refine mB 1 (s2 := (d + 2, 33, 1, [some (.ref 28)], [.ref 28], 0, 0, (mSH, I, L))) rfl ?_
  refine mCall (s2 := (d + 1, 34, 0, [some (.ref 28)], [], 0, 0, (mSH, I, L))) rfl ?_
  refine w_skip n26 (fun K1 hK1 => ?_)
  show mWP mTb_ mFT ro (d + 2, 33, 4, [some (.ref 28)], [], 0, 0, (mSH, (mMix [28] I K1), L)) _
  refine mB 4 (s2 := (d + 2, 33, 12, [some (.ref 28)], [.ref 26, .int (K1 28 2)], 0, 0, (mSH, (mMix [28] I K1), L))) rfl ?_
  refine mCall (s2 := (d + 1, 39, 0, [some (.ref 26)], [], 0, 0, (mSH, (mMix [28] I K1), L))) rfl ?_
  refine mB 2 (s2 := (d + 1, 39, 4, [some (.ref 26)], [.int (I 26 1)], 0, 0, (mSH, (mMix [28] I K1), L))) rfl ?_
  refine mRt (r := (some (.int (I 26 1)))) (h := (mSH, (mMix [28] I K1), L)) rfl (mRet_int rfl) ?_
  show mWP mTb_ mFT ro (d + 2, 33, 15, [some (.ref 28)], [.int (I 26 1), .int (K1 28 2)], 0, 0, (mSH, (mMix [28] I K1), L)) _
  refine mBr (s2 := (d + 2, 33, 22, [some (.ref 28)], [], 0, 0, (mSH, (mMix [28] I K1), L))) (s3 := (d + 2, 33, 18, [some (.ref 28)], [], 0, 0, (mSH, (mMix [28] I K1), L))) rfl (fun c1 => ?_) (fun c1 => ?_)
  · refine mB 1 (s2 := (d + 2, 33, 23, [some (.ref 28)], [.int 0], 0, 0, (mSH, (mMix [28] I K1), L))) rfl ?_
    refine mRt (r := (some (.int 0))) (h := (mSH, (mMix [28] I K1), L)) rfl rfl ?_
    exact mFin (P := (fun _ => True)) q0 (mFr.mix (by decide) mFr.rf) trivial
  · refine mB 2 (s2 := (d + 2, 33, 23, [some (.ref 28)], [.int 1], 0, 0, (mSH, (mMix [28] I K1), L))) rfl ?_
    refine mRt (r := (some (.int 1))) (h := (mSH, (mMix [28] I K1), L)) rfl rfl ?_
    exact mFin (P := (fun _ => True)) q1 (mFr.mix (by decide) mFr.rf) trivial
theorem s_num_30 {ro : Nat → Nat × (Nat → Int32)} {Q : mPo} {d : Nat} {I : Nat → Nat → Int32} {L : Nat → Nat → Int64} {e f : Int32} {s : Int32} {x : Int32} (n26 : mCn I 26 120)  (h1 : (e ≤ x) → mWP mTb_ mFT ro (d + 2, 32, 72, [some (.ref 28), some (.ref 30), some (.int e), some (.int f), some (.int s), some (.int x)], [], 0, 0, (mSH, I, L)) Q) (h2 : ¬ (e ≤ x) → mWP mTb_ mFT ro (d + 2, 32, 40, [some (.ref 28), some (.ref 30), some (.int e), some (.int f), some (.int (((10 * s) + (mAt I 26 27 x)) - 48)), some (.int (x + 1))], [], 0, 0, (mSH, I, L)) Q) : mWP mTb_ mFT ro (d + 2, 32, 40, [some (.ref 28), some (.ref 30), some (.int e), some (.int f), some (.int s), some (.int x)], [], 0, 0, (mSH, I, L)) Q := by
  refine mB 2 (s2 := (d + 2, 32, 43, [some (.ref 28), some (.ref 30), some (.int e), some (.int f), some (.int s), some (.int x)], [.int e, .int x], 0, 0, (mSH, I, L))) rfl ?_
  refine mBr (s2 := (d + 2, 32, 72, [some (.ref 28), some (.ref 30), some (.int e), some (.int f), some (.int s), some (.int x)], [], 0, 0, (mSH, I, L))) (s3 := (d + 2, 32, 46, [some (.ref 28), some (.ref 30), some (.int e), some (.int f), some (.int s), some (.int x)], [], 0, 0, (mSH, I, L))) rfl (fun c0 => ?_) (fun c0 => ?_)
  · exact h1 (of_decide_eq_true c0)
  · refine mB 6 (s2 := (d + 2, 32, 57, [some (.ref 28), some (.ref 30), some (.int e), some (.int f), some (.int s), some (.int x)], [.int x, .ref 26, .int (10 * s)], 0, 0, (mSH, I, L))) rfl ?_
    refine mCall (s2 := (d + 1, 42, 0, [some (.ref 26), some (.int x)], [], 0, 0, (mSH, I, L))) rfl ?_
    refine w_at_26 n26 ?_
    show mWP mTb_ mFT ro (d + 2, 32, 60, [some (.ref 28), some (.ref 30), some (.int e), some (.int f), some (.int s), some (.int x)], [.int (mAt I 26 27 x), .int (10 * s)], 0, 0, (mSH, I, L)) _
    refine mB 6 (s2 := (d + 2, 32, 40, [some (.ref 28), some (.ref 30), some (.int e), some (.int f), some (.int (((10 * s) + (mAt I 26 27 x)) - 48)), some (.int (x + 1))], [], 0, 0, (mSH, I, L))) rfl ?_
    exact h2 (of_decide_eq_false c0)
theorem l_num_30 {ro : Nat → Nat × (Nat → Int32)} {Q : mPo} {d : Nat} {I : Nat → Nat → Int32} {L : Nat → Nat → Int64} {e f : Int32} (n26 : mCn I 26 120) (hx : ∀ s x, mWP mTb_ mFT ro (d + 2, 32, 72, [some (.ref 28), some (.ref 30), some (.int e), some (.int f), some (.int s), some (.int x)], [], 0, 0, (mSH, I, L)) Q) (m : Nat) : ∀ (s : Int32) (x : Int32), (e).toInt ≤ (x).toInt + m → mWP mTb_ mFT ro (d + 2, 32, 40, [some (.ref 28), some (.ref 30), some (.int e), some (.int f), some (.int s), some (.int x)], [], 0, 0, (mSH, I, L)) Q := by
  induction m with
  | zero =>
    intro s x hm
    have z : e ≤ x := Int32.le_iff_toInt_le.mpr (by omega)
    apply s_num_30 n26 <;> intros <;> first | exact hx _ _ | exact absurd z (by assumption)
  | succ m ih =>
    intro s x hm
    by_cases z : e ≤ x
    · apply s_num_30 n26 <;> intros <;> first | exact hx _ _ | exact absurd z (by assumption)
    · have hs := mSucc z
      apply s_num_30 n26 <;> intros <;> first | exact absurd (by assumption) z | exact hx _ _ | (exact ih _ _ (by omega))
theorem w_numE_30 {ro : Nat → Nat × (Nat → Int32)} {Q : mPo} {d : Nat} {I : Nat → Nat → Int32} {L : Nat → Nat → Int64} {e f s x : Int32} (nq : mCn I 30 16) (q0 : ∀ K, (fun K => mCn K 30 16) K → Q (some (.int 0)) (mSH, mMix [28, 30, 31] I K, L)) (q1 : ∀ K, (fun K => mCn K 30 16) K → Q (some (.int 1)) (mSH, mMix [28, 30, 31] I K, L))  : mWP mTb_ mFT ro (d + 2, 32, 72, [some (.ref 28), some (.ref 30), some (.int e), some (.int f), some (.int s), some (.int x)], [], 0, 0, (mSH, I, L)) Q := by
  refine mB 1 (s2 := (d + 2, 32, 74, [some (.ref 28), some (.ref 30), some (.int e), some (.int f), some (.int s), some (.int x)], [.int s], 0, 0, (mSH, I, L))) rfl ?_
  refine mBr (s2 := (d + 2, 32, 77, [some (.ref 28), some (.ref 30), some (.int e), some (.int f), some (.int s), some (.int x)], [], 0, 0, (mSH, I, L))) (s3 := (d + 2, 32, 79, [some (.ref 28), some (.ref 30), some (.int e), some (.int f), some (.int s), some (.int x)], [], 0, 0, (mSH, I, L))) rfl (fun c0 => ?_) (fun c0 => ?_)
  · refine mB 1 (s2 := (d + 2, 32, 78, [some (.ref 28), some (.ref 30), some (.int e), some (.int f), some (.int s), some (.int x)], [.int 0], 0, 0, (mSH, I, L))) rfl ?_
    refine mRt (r := (some (.int 0))) (h := (mSH, I, L)) rfl rfl ?_
    exact mFin (P := (fun K => mCn K 30 16)) q0 mFr.rf nq
  · refine mB 2 (s2 := (d + 2, 32, 82, [some (.ref 28), some (.ref 30), some (.int e), some (.int f), some (.int s), some (.int x)], [.int s, .ref 30], 0, 0, (mSH, I, L))) rfl ?_
    refine mCall (s2 := (d + 1, 44, 0, [some (.ref 30), some (.int s)], [], 0, 0, (mSH, I, L))) rfl ?_
    refine w_add_30 nq (fun K1 hK1 => ?_)
    show mWP mTb_ mFT ro (d + 2, 32, 85, [some (.ref 28), some (.ref 30), some (.int e), some (.int f), some (.int s), some (.int x)], [], 0, 0, (mSH, (mMix [30, 31] I K1), L)) _
    refine mB 4 (s2 := (d + 2, 32, 91, [some (.ref 28), some (.ref 30), some (.int e), some (.int f), some (.int s), some (.int x)], [.int 1], 0, 0, (mSH, (mUp (mMix [30, 31] I K1) 28 2 e), L))) rfl ?_
    refine mRt (r := (some (.int 1))) (h := (mSH, (mUp (mMix [30, 31] I K1) 28 2 e), L)) rfl rfl ?_
    exact mFin (P := (fun K => mCn K 30 16)) q1 (mFr.up (by rfl) (mFr.mix (by decide) mFr.rf)) hK1
theorem w_number_30 {ro : Nat → Nat × (Nat → Int32)} {Q : mPo} {d : Nat} {I : Nat → Nat → Int32} {L : Nat → Nat → Int64} (n26 : mCn I 26 120) (nq : mCn I 30 16) (q0 : ∀ K, (fun K => mCn K 30 16) K → Q (some (.int 0)) (mSH, mMix [28, 30, 31] I K, L)) (q1 : ∀ K, (fun K => mCn K 30 16) K → Q (some (.int 1)) (mSH, mMix [28, 30, 31] I K, L))  : mWP mTb_ mFT ro (d + 2, 32, 0, [some (.ref 28), some (.ref 30), none, none, none, none], [], 0, 0, (mSH, I, L)) Q := by
  refine mB 1 (s2 := (d + 2, 32, 1, [some (.ref 28), some (.ref 30), none, none, none, none], [.ref 28], 0, 0, (mSH, I, L))) rfl ?_
  refine mCall (s2 := (d + 1, 36, 0, [some (.ref 28), none], [], 0, 0, (mSH, I, L))) rfl ?_
  refine w_eof n26 (fun r1 => ?_)
  show mWP mTb_ mFT ro (d + 2, 32, 4, [some (.ref 28), some (.ref 30), none, none, none, none], [.int r1], 0, 0, (mSH, I, L)) _
  refine mB 8 (s2 := (d + 2, 32, 14, [some (.ref 28), some (.ref 30), some (.int r1), some (.int (r1 - (I 28 2))), none, none], [.int 1, .int (r1 - (I 28 2))], 0, 0, (mSH, I, L))) rfl ?_
  refine mBr (s2 := (d + 2, 32, 29, [some (.ref 28), some (.ref 30), some (.int r1), some (.int (r1 - (I 28 2))), none, none], [], 0, 0, (mSH, I, L))) (s3 := (d + 2, 32, 17, [some (.ref 28), some (.ref 30), some (.int r1), some (.int (r1 - (I 28 2))), none, none], [], 0, 0, (mSH, I, L))) rfl (fun c1 => ?_) (fun c1 => ?_)
  · refine mB 1 (s2 := (d + 2, 32, 30, [some (.ref 28), some (.ref 30), some (.int r1), some (.int (r1 - (I 28 2))), none, none], [.int 0], 0, 0, (mSH, I, L))) rfl ?_
    refine mRt (r := (some (.int 0))) (h := (mSH, I, L)) rfl rfl ?_
    exact mFin (P := (fun K => mCn K 30 16)) q0 mFr.rf nq
  · refine mB 2 (s2 := (d + 2, 32, 19, [some (.ref 28), some (.ref 30), some (.int r1), some (.int (r1 - (I 28 2))), none, none], [.int 2, .int (r1 - (I 28 2))], 0, 0, (mSH, I, L))) rfl ?_
    refine mBr (s2 := (d + 2, 32, 29, [some (.ref 28), some (.ref 30), some (.int r1), some (.int (r1 - (I 28 2))), none, none], [], 0, 0, (mSH, I, L))) (s3 := (d + 2, 32, 22, [some (.ref 28), some (.ref 30), some (.int r1), some (.int (r1 - (I 28 2))), none, none], [], 0, 0, (mSH, I, L))) rfl (fun c2 => ?_) (fun c2 => ?_)
    · refine mB 1 (s2 := (d + 2, 32, 30, [some (.ref 28), some (.ref 30), some (.int r1), some (.int (r1 - (I 28 2))), none, none], [.int 0], 0, 0, (mSH, I, L))) rfl ?_
      refine mRt (r := (some (.int 0))) (h := (mSH, I, L)) rfl rfl ?_
      exact mFin (P := (fun K => mCn K 30 16)) q0 mFr.rf nq
    · refine mB 1 (s2 := (d + 2, 32, 23, [some (.ref 28), some (.ref 30), some (.int r1), some (.int (r1 - (I 28 2))), none, none], [.ref 30], 0, 0, (mSH, I, L))) rfl ?_
      refine mCall (s2 := (d + 1, 40, 0, [some (.ref 30)], [], 0, 0, (mSH, I, L))) rfl ?_
      refine mB 5 (s2 := (d + 1, 40, 9, [some (.ref 30)], [.int 16, .int (I 30 1)], 0, 0, (mSH, I, L))) rfl ?_
      refine mBr (s2 := (d + 1, 40, 16, [some (.ref 30)], [], 0, 0, (mSH, I, L))) (s3 := (d + 1, 40, 12, [some (.ref 30)], [], 0, 0, (mSH, I, L))) rfl (fun c3 => ?_) (fun c3 => ?_)
      · refine mB 1 (s2 := (d + 1, 40, 17, [some (.ref 30)], [.int 0], 0, 0, (mSH, I, L))) rfl ?_
        refine mRt (r := (some (.int 0))) (h := (mSH, I, L)) rfl rfl ?_
        show mWP mTb_ mFT ro (d + 2, 32, 26, [some (.ref 28), some (.ref 30), some (.int r1), some (.int (r1 - (I 28 2))), none, none], [.int 0], 0, 0, (mSH, I, L)) _
        refine mBT (s2 := (d + 2, 32, 31, [some (.ref 28), some (.ref 30), some (.int r1), some (.int (r1 - (I 28 2))), none, none], [], 0, 0, (mSH, I, L))) rfl (by decide) ?_
        refine mB 5 (s2 := (d + 2, 32, 40, [some (.ref 28), some (.ref 30), some (.int r1), some (.int (r1 - (I 28 2))), some (.int 0), some (.int (I 28 2))], [], 0, 0, (mSH, I, L))) rfl ?_
        exact l_num_30 n26 (fun s x => w_numE_30 nq q0 q1) 4294967296 _ _ (by have := r1.toInt_lt; have := (I 28 2).le_toInt; omega)
      · refine mB 2 (s2 := (d + 1, 40, 17, [some (.ref 30)], [.int 1], 0, 0, (mSH, I, L))) rfl ?_
        refine mRt (r := (some (.int 1))) (h := (mSH, I, L)) rfl rfl ?_
        show mWP mTb_ mFT ro (d + 2, 32, 26, [some (.ref 28), some (.ref 30), some (.int r1), some (.int (r1 - (I 28 2))), none, none], [.int 1], 0, 0, (mSH, I, L)) _
        refine mBF (s3 := (d + 2, 32, 29, [some (.ref 28), some (.ref 30), some (.int r1), some (.int (r1 - (I 28 2))), none, none], [], 0, 0, (mSH, I, L))) rfl (by decide) ?_
        refine mB 1 (s2 := (d + 2, 32, 30, [some (.ref 28), some (.ref 30), some (.int r1), some (.int (r1 - (I 28 2))), none, none], [.int 0], 0, 0, (mSH, I, L))) rfl ?_
        refine mRt (r := (some (.int 0))) (h := (mSH, I, L)) rfl rfl ?_
        exact mFin (P := (fun K => mCn K 30 16)) q0 mFr.rf nq
theorem s_num_32 {ro : Nat → Nat × (Nat → Int32)} {Q : mPo} {d : Nat} {I : Nat → Nat → Int32} {L : Nat → Nat → Int64} {e f : Int32} {s : Int32} {x : Int32} (n26 : mCn I 26 120)  (h1 : (e ≤ x) → mWP mTb_ mFT ro (d + 2, 32, 72, [some (.ref 28), some (.ref 32), some (.int e), some (.int f), some (.int s), some (.int x)], [], 0, 0, (mSH, I, L)) Q) (h2 : ¬ (e ≤ x) → mWP mTb_ mFT ro (d + 2, 32, 40, [some (.ref 28), some (.ref 32), some (.int e), some (.int f), some (.int (((10 * s) + (mAt I 26 27 x)) - 48)), some (.int (x + 1))], [], 0, 0, (mSH, I, L)) Q) : mWP mTb_ mFT ro (d + 2, 32, 40, [some (.ref 28), some (.ref 32), some (.int e), some (.int f), some (.int s), some (.int x)], [], 0, 0, (mSH, I, L)) Q := by
  refine mB 2 (s2 := (d + 2, 32, 43, [some (.ref 28), some (.ref 32), some (.int e), some (.int f), some (.int s), some (.int x)], [.int e, .int x], 0, 0, (mSH, I, L))) rfl ?_
  refine mBr (s2 := (d + 2, 32, 72, [some (.ref 28), some (.ref 32), some (.int e), some (.int f), some (.int s), some (.int x)], [], 0, 0, (mSH, I, L))) (s3 := (d + 2, 32, 46, [some (.ref 28), some (.ref 32), some (.int e), some (.int f), some (.int s), some (.int x)], [], 0, 0, (mSH, I, L))) rfl (fun c0 => ?_) (fun c0 => ?_)
  · exact h1 (of_decide_eq_true c0)
  · refine mB 6 (s2 := (d + 2, 32, 57, [some (.ref 28), some (.ref 32), some (.int e), some (.int f), some (.int s), some (.int x)], [.int x, .ref 26, .int (10 * s)], 0, 0, (mSH, I, L))) rfl ?_
    refine mCall (s2 := (d + 1, 42, 0, [some (.ref 26), some (.int x)], [], 0, 0, (mSH, I, L))) rfl ?_
    refine w_at_26 n26 ?_
    show mWP mTb_ mFT ro (d + 2, 32, 60, [some (.ref 28), some (.ref 32), some (.int e), some (.int f), some (.int s), some (.int x)], [.int (mAt I 26 27 x), .int (10 * s)], 0, 0, (mSH, I, L)) _
    refine mB 6 (s2 := (d + 2, 32, 40, [some (.ref 28), some (.ref 32), some (.int e), some (.int f), some (.int (((10 * s) + (mAt I 26 27 x)) - 48)), some (.int (x + 1))], [], 0, 0, (mSH, I, L))) rfl ?_
    exact h2 (of_decide_eq_false c0)
theorem l_num_32 {ro : Nat → Nat × (Nat → Int32)} {Q : mPo} {d : Nat} {I : Nat → Nat → Int32} {L : Nat → Nat → Int64} {e f : Int32} (n26 : mCn I 26 120) (hx : ∀ s x, mWP mTb_ mFT ro (d + 2, 32, 72, [some (.ref 28), some (.ref 32), some (.int e), some (.int f), some (.int s), some (.int x)], [], 0, 0, (mSH, I, L)) Q) (m : Nat) : ∀ (s : Int32) (x : Int32), (e).toInt ≤ (x).toInt + m → mWP mTb_ mFT ro (d + 2, 32, 40, [some (.ref 28), some (.ref 32), some (.int e), some (.int f), some (.int s), some (.int x)], [], 0, 0, (mSH, I, L)) Q := by
  induction m with
  | zero =>
    intro s x hm
    have z : e ≤ x := Int32.le_iff_toInt_le.mpr (by omega)
    apply s_num_32 n26 <;> intros <;> first | exact hx _ _ | exact absurd z (by assumption)
  | succ m ih =>
    intro s x hm
    by_cases z : e ≤ x
    · apply s_num_32 n26 <;> intros <;> first | exact hx _ _ | exact absurd z (by assumption)
    · have hs := mSucc z
      apply s_num_32 n26 <;> intros <;> first | exact absurd (by assumption) z | exact hx _ _ | (exact ih _ _ (by omega))
theorem w_numE_32 {ro : Nat → Nat × (Nat → Int32)} {Q : mPo} {d : Nat} {I : Nat → Nat → Int32} {L : Nat → Nat → Int64} {e f s x : Int32} (nq : mCn I 32 8) (q0 : ∀ K, (fun K => mCn K 32 8) K → Q (some (.int 0)) (mSH, mMix [28, 32, 33] I K, L)) (q1 : ∀ K, (fun K => mCn K 32 8) K → Q (some (.int 1)) (mSH, mMix [28, 32, 33] I K, L))  : mWP mTb_ mFT ro (d + 2, 32, 72, [some (.ref 28), some (.ref 32), some (.int e), some (.int f), some (.int s), some (.int x)], [], 0, 0, (mSH, I, L)) Q := by
  refine mB 1 (s2 := (d + 2, 32, 74, [some (.ref 28), some (.ref 32), some (.int e), some (.int f), some (.int s), some (.int x)], [.int s], 0, 0, (mSH, I, L))) rfl ?_
  refine mBr (s2 := (d + 2, 32, 77, [some (.ref 28), some (.ref 32), some (.int e), some (.int f), some (.int s), some (.int x)], [], 0, 0, (mSH, I, L))) (s3 := (d + 2, 32, 79, [some (.ref 28), some (.ref 32), some (.int e), some (.int f), some (.int s), some (.int x)], [], 0, 0, (mSH, I, L))) rfl (fun c0 => ?_) (fun c0 => ?_)
  · refine mB 1 (s2 := (d + 2, 32, 78, [some (.ref 28), some (.ref 32), some (.int e), some (.int f), some (.int s), some (.int x)], [.int 0], 0, 0, (mSH, I, L))) rfl ?_
    refine mRt (r := (some (.int 0))) (h := (mSH, I, L)) rfl rfl ?_
    exact mFin (P := (fun K => mCn K 32 8)) q0 mFr.rf nq
  · refine mB 2 (s2 := (d + 2, 32, 82, [some (.ref 28), some (.ref 32), some (.int e), some (.int f), some (.int s), some (.int x)], [.int s, .ref 32], 0, 0, (mSH, I, L))) rfl ?_
    refine mCall (s2 := (d + 1, 44, 0, [some (.ref 32), some (.int s)], [], 0, 0, (mSH, I, L))) rfl ?_
    refine w_add_32 nq (fun K1 hK1 => ?_)
    show mWP mTb_ mFT ro (d + 2, 32, 85, [some (.ref 28), some (.ref 32), some (.int e), some (.int f), some (.int s), some (.int x)], [], 0, 0, (mSH, (mMix [32, 33] I K1), L)) _
    refine mB 4 (s2 := (d + 2, 32, 91, [some (.ref 28), some (.ref 32), some (.int e), some (.int f), some (.int s), some (.int x)], [.int 1], 0, 0, (mSH, (mUp (mMix [32, 33] I K1) 28 2 e), L))) rfl ?_
    refine mRt (r := (some (.int 1))) (h := (mSH, (mUp (mMix [32, 33] I K1) 28 2 e), L)) rfl rfl ?_
    exact mFin (P := (fun K => mCn K 32 8)) q1 (mFr.up (by rfl) (mFr.mix (by decide) mFr.rf)) hK1
theorem w_number_32 {ro : Nat → Nat × (Nat → Int32)} {Q : mPo} {d : Nat} {I : Nat → Nat → Int32} {L : Nat → Nat → Int64} (n26 : mCn I 26 120) (nq : mCn I 32 8) (q0 : ∀ K, (fun K => mCn K 32 8) K → Q (some (.int 0)) (mSH, mMix [28, 32, 33] I K, L)) (q1 : ∀ K, (fun K => mCn K 32 8) K → Q (some (.int 1)) (mSH, mMix [28, 32, 33] I K, L))  : mWP mTb_ mFT ro (d + 2, 32, 0, [some (.ref 28), some (.ref 32), none, none, none, none], [], 0, 0, (mSH, I, L)) Q := by
  refine mB 1 (s2 := (d + 2, 32, 1, [some (.ref 28), some (.ref 32), none, none, none, none], [.ref 28], 0, 0, (mSH, I, L))) rfl ?_
  refine mCall (s2 := (d + 1, 36, 0, [some (.ref 28), none], [], 0, 0, (mSH, I, L))) rfl ?_
  refine w_eof n26 (fun r1 => ?_)
  show mWP mTb_ mFT ro (d + 2, 32, 4, [some (.ref 28), some (.ref 32), none, none, none, none], [.int r1], 0, 0, (mSH, I, L)) _
  refine mB 8 (s2 := (d + 2, 32, 14, [some (.ref 28), some (.ref 32), some (.int r1), some (.int (r1 - (I 28 2))), none, none], [.int 1, .int (r1 - (I 28 2))], 0, 0, (mSH, I, L))) rfl ?_
  refine mBr (s2 := (d + 2, 32, 29, [some (.ref 28), some (.ref 32), some (.int r1), some (.int (r1 - (I 28 2))), none, none], [], 0, 0, (mSH, I, L))) (s3 := (d + 2, 32, 17, [some (.ref 28), some (.ref 32), some (.int r1), some (.int (r1 - (I 28 2))), none, none], [], 0, 0, (mSH, I, L))) rfl (fun c1 => ?_) (fun c1 => ?_)
  · refine mB 1 (s2 := (d + 2, 32, 30, [some (.ref 28), some (.ref 32), some (.int r1), some (.int (r1 - (I 28 2))), none, none], [.int 0], 0, 0, (mSH, I, L))) rfl ?_
    refine mRt (r := (some (.int 0))) (h := (mSH, I, L)) rfl rfl ?_
    exact mFin (P := (fun K => mCn K 32 8)) q0 mFr.rf nq
  · refine mB 2 (s2 := (d + 2, 32, 19, [some (.ref 28), some (.ref 32), some (.int r1), some (.int (r1 - (I 28 2))), none, none], [.int 2, .int (r1 - (I 28 2))], 0, 0, (mSH, I, L))) rfl ?_
    refine mBr (s2 := (d + 2, 32, 29, [some (.ref 28), some (.ref 32), some (.int r1), some (.int (r1 - (I 28 2))), none, none], [], 0, 0, (mSH, I, L))) (s3 := (d + 2, 32, 22, [some (.ref 28), some (.ref 32), some (.int r1), some (.int (r1 - (I 28 2))), none, none], [], 0, 0, (mSH, I, L))) rfl (fun c2 => ?_) (fun c2 => ?_)
    · refine mB 1 (s2 := (d + 2, 32, 30, [some (.ref 28), some (.ref 32), some (.int r1), some (.int (r1 - (I 28 2))), none, none], [.int 0], 0, 0, (mSH, I, L))) rfl ?_
      refine mRt (r := (some (.int 0))) (h := (mSH, I, L)) rfl rfl ?_
      exact mFin (P := (fun K => mCn K 32 8)) q0 mFr.rf nq
    · refine mB 1 (s2 := (d + 2, 32, 23, [some (.ref 28), some (.ref 32), some (.int r1), some (.int (r1 - (I 28 2))), none, none], [.ref 32], 0, 0, (mSH, I, L))) rfl ?_
      refine mCall (s2 := (d + 1, 40, 0, [some (.ref 32)], [], 0, 0, (mSH, I, L))) rfl ?_
      refine mB 5 (s2 := (d + 1, 40, 9, [some (.ref 32)], [.int 8, .int (I 32 1)], 0, 0, (mSH, I, L))) rfl ?_
      refine mBr (s2 := (d + 1, 40, 16, [some (.ref 32)], [], 0, 0, (mSH, I, L))) (s3 := (d + 1, 40, 12, [some (.ref 32)], [], 0, 0, (mSH, I, L))) rfl (fun c3 => ?_) (fun c3 => ?_)
      · refine mB 1 (s2 := (d + 1, 40, 17, [some (.ref 32)], [.int 0], 0, 0, (mSH, I, L))) rfl ?_
        refine mRt (r := (some (.int 0))) (h := (mSH, I, L)) rfl rfl ?_
        show mWP mTb_ mFT ro (d + 2, 32, 26, [some (.ref 28), some (.ref 32), some (.int r1), some (.int (r1 - (I 28 2))), none, none], [.int 0], 0, 0, (mSH, I, L)) _
        refine mBT (s2 := (d + 2, 32, 31, [some (.ref 28), some (.ref 32), some (.int r1), some (.int (r1 - (I 28 2))), none, none], [], 0, 0, (mSH, I, L))) rfl (by decide) ?_
        refine mB 5 (s2 := (d + 2, 32, 40, [some (.ref 28), some (.ref 32), some (.int r1), some (.int (r1 - (I 28 2))), some (.int 0), some (.int (I 28 2))], [], 0, 0, (mSH, I, L))) rfl ?_
        exact l_num_32 n26 (fun s x => w_numE_32 nq q0 q1) 4294967296 _ _ (by have := r1.toInt_lt; have := (I 28 2).le_toInt; omega)
      · refine mB 2 (s2 := (d + 1, 40, 17, [some (.ref 32)], [.int 1], 0, 0, (mSH, I, L))) rfl ?_
        refine mRt (r := (some (.int 1))) (h := (mSH, I, L)) rfl rfl ?_
        show mWP mTb_ mFT ro (d + 2, 32, 26, [some (.ref 28), some (.ref 32), some (.int r1), some (.int (r1 - (I 28 2))), none, none], [.int 1], 0, 0, (mSH, I, L)) _
        refine mBF (s3 := (d + 2, 32, 29, [some (.ref 28), some (.ref 32), some (.int r1), some (.int (r1 - (I 28 2))), none, none], [], 0, 0, (mSH, I, L))) rfl (by decide) ?_
        refine mB 1 (s2 := (d + 2, 32, 30, [some (.ref 28), some (.ref 32), some (.int r1), some (.int (r1 - (I 28 2))), none, none], [.int 0], 0, 0, (mSH, I, L))) rfl ?_
        refine mRt (r := (some (.int 0))) (h := (mSH, I, L)) rfl rfl ?_
        exact mFin (P := (fun K => mCn K 32 8)) q0 mFr.rf nq
theorem s_nums_30 {ro : Nat → Nat × (Nat → Int32)} {Q : mPo} {d : Nat} {I : Nat → Nat → Int32} {L : Nat → Nat → Int64} {K : Nat → Nat → Int32} {x0 : Int32} (n26 : mCn I 26 120) (hK : mCn K 30 16) (q0 : ∀ K, (fun K => mCn K 30 16) K → Q (some (.int 0)) (mSH, mMix [28, 30, 31] I K, L)) (q1 : ∀ K, (fun K => mCn K 30 16) K → Q (some (.int 1)) (mSH, mMix [28, 30, 31] I K, L)) (ih : ¬ (16 : Int32) < x0 → ∀ K, mCn K 30 16 → mWP mTb_ mFT ro (d + 3, 31, 2, [some (.ref 28), some (.ref 30), some (.int (x0 + 1))], [], 0, 0, (mSH, (mMix [28, 30, 31] I K), L)) Q)  : mWP mTb_ mFT ro (d + 3, 31, 2, [some (.ref 28), some (.ref 30), some (.int x0)], [], 0, 0, (mSH, (mMix [28, 30, 31] I K), L)) Q := by
  refine mB 2 (s2 := (d + 3, 31, 5, [some (.ref 28), some (.ref 30), some (.int x0)], [.int 16, .int x0], 0, 0, (mSH, (mMix [28, 30, 31] I K), L))) rfl ?_
  refine mBr (s2 := (d + 3, 31, 63, [some (.ref 28), some (.ref 30), some (.int x0)], [], 0, 0, (mSH, (mMix [28, 30, 31] I K), L))) (s3 := (d + 3, 31, 8, [some (.ref 28), some (.ref 30), some (.int x0)], [], 0, 0, (mSH, (mMix [28, 30, 31] I K), L))) rfl (fun c0 => ?_) (fun c0 => ?_)
  · refine mB 1 (s2 := (d + 3, 31, 64, [some (.ref 28), some (.ref 30), some (.int x0)], [.int 0], 0, 0, (mSH, (mMix [28, 30, 31] I K), L))) rfl ?_
    refine mRt (r := (some (.int 0))) (h := (mSH, (mMix [28, 30, 31] I K), L)) rfl rfl ?_
    exact mFin (P := (fun K => mCn K 30 16)) q0 (mFr.mix (by decide) mFr.rf) hK
  · refine mB 1 (s2 := (d + 3, 31, 9, [some (.ref 28), some (.ref 30), some (.int x0)], [.ref 28], 0, 0, (mSH, (mMix [28, 30, 31] I K), L))) rfl ?_
    refine mCall (s2 := (d + 2, 34, 0, [some (.ref 28)], [], 0, 0, (mSH, (mMix [28, 30, 31] I K), L))) rfl ?_
    refine w_skip n26 (fun K1 hK1 => ?_)
    show mWP mTb_ mFT ro (d + 3, 31, 12, [some (.ref 28), some (.ref 30), some (.int x0)], [], 0, 0, (mSH, (mMix [28] (mMix [28, 30, 31] I K) K1), L)) _
    refine mB 1 (s2 := (d + 3, 31, 13, [some (.ref 28), some (.ref 30), some (.int x0)], [.ref 30], 0, 0, (mSH, (mMix [28] (mMix [28, 30, 31] I K) K1), L))) rfl ?_
    refine mCall (s2 := (d + 2, 39, 0, [some (.ref 30)], [], 0, 0, (mSH, (mMix [28] (mMix [28, 30, 31] I K) K1), L))) rfl ?_
    refine mB 2 (s2 := (d + 2, 39, 4, [some (.ref 30)], [.int (K 30 1)], 0, 0, (mSH, (mMix [28] (mMix [28, 30, 31] I K) K1), L))) rfl ?_
    refine mRt (r := (some (.int (K 30 1)))) (h := (mSH, (mMix [28] (mMix [28, 30, 31] I K) K1), L)) rfl (mRet_int rfl) ?_
    show mWP mTb_ mFT ro (d + 3, 31, 16, [some (.ref 28), some (.ref 30), some (.int x0)], [.int (K 30 1)], 0, 0, (mSH, (mMix [28] (mMix [28, 30, 31] I K) K1), L)) _
    refine mBr (s2 := (d + 3, 31, 47, [some (.ref 28), some (.ref 30), some (.int x0)], [], 0, 0, (mSH, (mMix [28] (mMix [28, 30, 31] I K) K1), L))) (s3 := (d + 3, 31, 19, [some (.ref 28), some (.ref 30), some (.int x0)], [], 0, 0, (mSH, (mMix [28] (mMix [28, 30, 31] I K) K1), L))) rfl (fun c2 => ?_) (fun c2 => ?_)
    · refine mB 2 (s2 := (d + 3, 31, 49, [some (.ref 28), some (.ref 30), some (.int x0)], [.ref 30, .ref 28], 0, 0, (mSH, (mMix [28] (mMix [28, 30, 31] I K) K1), L))) rfl ?_
      refine mCall (s2 := (d + 2, 32, 0, [some (.ref 28), some (.ref 30), none, none, none, none], [], 0, 0, (mSH, (mMix [28] (mMix [28, 30, 31] I K) K1), L))) rfl ?_
      refine w_number_30 n26 hK ?_ ?_
      · intro K2 hK2
        show mWP mTb_ mFT ro (d + 3, 31, 52, [some (.ref 28), some (.ref 30), some (.int x0)], [.int 0], 0, 0, (mSH, (mMix [28, 30, 31] (mMix [28] (mMix [28, 30, 31] I K) K1) K2), L)) _
        refine mBT (s2 := (d + 3, 31, 55, [some (.ref 28), some (.ref 30), some (.int x0)], [], 0, 0, (mSH, (mMix [28, 30, 31] (mMix [28] (mMix [28, 30, 31] I K) K1) K2), L))) rfl (by decide) ?_
        refine mB 1 (s2 := (d + 3, 31, 56, [some (.ref 28), some (.ref 30), some (.int x0)], [.int 0], 0, 0, (mSH, (mMix [28, 30, 31] (mMix [28] (mMix [28, 30, 31] I K) K1) K2), L))) rfl ?_
        refine mRt (r := (some (.int 0))) (h := (mSH, (mMix [28, 30, 31] (mMix [28] (mMix [28, 30, 31] I K) K1) K2), L)) rfl rfl ?_
        exact mFin (P := (fun K => mCn K 30 16)) q0 (mFr.mix (by decide) (mFr.mix (by decide) (mFr.mix (by decide) mFr.rf))) hK2
      · intro K2 hK2
        show mWP mTb_ mFT ro (d + 3, 31, 52, [some (.ref 28), some (.ref 30), some (.int x0)], [.int 1], 0, 0, (mSH, (mMix [28, 30, 31] (mMix [28] (mMix [28, 30, 31] I K) K1) K2), L)) _
        refine mBF (s3 := (d + 3, 31, 57, [some (.ref 28), some (.ref 30), some (.int x0)], [], 0, 0, (mSH, (mMix [28, 30, 31] (mMix [28] (mMix [28, 30, 31] I K) K1) K2), L))) rfl (by decide) ?_
        refine mB 2 (s2 := (d + 3, 31, 2, [some (.ref 28), some (.ref 30), some (.int (x0 + 1))], [], 0, 0, (mSH, (mMix [28, 30, 31] (mMix [28] (mMix [28, 30, 31] I K) K1) K2), L))) rfl ?_
        (rw [← ((mFr.mix (by decide) (mFr.mix (by decide) (mFr.mix (by decide) mFr.rf))) : mFr [28, 30, 31] I (mMix [28, 30, 31] (mMix [28] (mMix [28, 30, 31] I K) K1) K2)).eq]; exact ih (of_decide_eq_false c0) _ hK2)
    · refine mB 4 (s2 := (d + 3, 31, 27, [some (.ref 28), some (.ref 30), some (.int x0)], [.int (K1 28 2), .ref 26], 0, 0, (mSH, (mMix [28] (mMix [28, 30, 31] I K) K1), L))) rfl ?_
      refine mCall (s2 := (d + 2, 42, 0, [some (.ref 26), some (.int (K1 28 2))], [], 0, 0, (mSH, (mMix [28] (mMix [28, 30, 31] I K) K1), L))) rfl ?_
      refine w_at_26 n26 ?_
      show mWP mTb_ mFT ro (d + 3, 31, 30, [some (.ref 28), some (.ref 30), some (.int x0)], [.int (mAt (mMix [28] (mMix [28, 30, 31] I K) K1) 26 27 (K1 28 2))], 0, 0, (mSH, (mMix [28] (mMix [28, 30, 31] I K) K1), L)) _
      refine mB 1 (s2 := (d + 3, 31, 32, [some (.ref 28), some (.ref 30), some (.int x0)], [.int 59, .int (mAt (mMix [28] (mMix [28, 30, 31] I K) K1) 26 27 (K1 28 2))], 0, 0, (mSH, (mMix [28] (mMix [28, 30, 31] I K) K1), L))) rfl ?_
      refine mBr (s2 := (d + 3, 31, 35, [some (.ref 28), some (.ref 30), some (.int x0)], [], 0, 0, (mSH, (mMix [28] (mMix [28, 30, 31] I K) K1), L))) (s3 := (d + 3, 31, 47, [some (.ref 28), some (.ref 30), some (.int x0)], [], 0, 0, (mSH, (mMix [28] (mMix [28, 30, 31] I K) K1), L))) rfl (fun c3 => ?_) (fun c3 => ?_)
      · refine mB 7 (s2 := (d + 3, 31, 46, [some (.ref 28), some (.ref 30), some (.int x0)], [.int 1], 0, 0, (mSH, (mUp (mMix [28] (mMix [28, 30, 31] I K) K1) 28 2 ((K1 28 2) + 1)), L))) rfl ?_
        refine mRt (r := (some (.int 1))) (h := (mSH, (mUp (mMix [28] (mMix [28, 30, 31] I K) K1) 28 2 ((K1 28 2) + 1)), L)) rfl rfl ?_
        exact mFin (P := (fun K => mCn K 30 16)) q1 (mFr.up (by rfl) (mFr.mix (by decide) (mFr.mix (by decide) mFr.rf))) hK
      · refine mB 2 (s2 := (d + 3, 31, 49, [some (.ref 28), some (.ref 30), some (.int x0)], [.ref 30, .ref 28], 0, 0, (mSH, (mMix [28] (mMix [28, 30, 31] I K) K1), L))) rfl ?_
        refine mCall (s2 := (d + 2, 32, 0, [some (.ref 28), some (.ref 30), none, none, none, none], [], 0, 0, (mSH, (mMix [28] (mMix [28, 30, 31] I K) K1), L))) rfl ?_
        refine w_number_30 n26 hK ?_ ?_
        · intro K3 hK3
          show mWP mTb_ mFT ro (d + 3, 31, 52, [some (.ref 28), some (.ref 30), some (.int x0)], [.int 0], 0, 0, (mSH, (mMix [28, 30, 31] (mMix [28] (mMix [28, 30, 31] I K) K1) K3), L)) _
          refine mBT (s2 := (d + 3, 31, 55, [some (.ref 28), some (.ref 30), some (.int x0)], [], 0, 0, (mSH, (mMix [28, 30, 31] (mMix [28] (mMix [28, 30, 31] I K) K1) K3), L))) rfl (by decide) ?_
          refine mB 1 (s2 := (d + 3, 31, 56, [some (.ref 28), some (.ref 30), some (.int x0)], [.int 0], 0, 0, (mSH, (mMix [28, 30, 31] (mMix [28] (mMix [28, 30, 31] I K) K1) K3), L))) rfl ?_
          refine mRt (r := (some (.int 0))) (h := (mSH, (mMix [28, 30, 31] (mMix [28] (mMix [28, 30, 31] I K) K1) K3), L)) rfl rfl ?_
          exact mFin (P := (fun K => mCn K 30 16)) q0 (mFr.mix (by decide) (mFr.mix (by decide) (mFr.mix (by decide) mFr.rf))) hK3
        · intro K3 hK3
          show mWP mTb_ mFT ro (d + 3, 31, 52, [some (.ref 28), some (.ref 30), some (.int x0)], [.int 1], 0, 0, (mSH, (mMix [28, 30, 31] (mMix [28] (mMix [28, 30, 31] I K) K1) K3), L)) _
          refine mBF (s3 := (d + 3, 31, 57, [some (.ref 28), some (.ref 30), some (.int x0)], [], 0, 0, (mSH, (mMix [28, 30, 31] (mMix [28] (mMix [28, 30, 31] I K) K1) K3), L))) rfl (by decide) ?_
          refine mB 2 (s2 := (d + 3, 31, 2, [some (.ref 28), some (.ref 30), some (.int (x0 + 1))], [], 0, 0, (mSH, (mMix [28, 30, 31] (mMix [28] (mMix [28, 30, 31] I K) K1) K3), L))) rfl ?_
          (rw [← ((mFr.mix (by decide) (mFr.mix (by decide) (mFr.mix (by decide) mFr.rf))) : mFr [28, 30, 31] I (mMix [28, 30, 31] (mMix [28] (mMix [28, 30, 31] I K) K1) K3)).eq]; exact ih (of_decide_eq_false c0) _ hK3)
theorem l_nums_30 {ro : Nat → Nat × (Nat → Int32)} {Q : mPo} {d : Nat} {I : Nat → Nat → Int32} {L : Nat → Nat → Int64} (n26 : mCn I 26 120) (q0 : ∀ K, (fun K => mCn K 30 16) K → Q (some (.int 0)) (mSH, mMix [28, 30, 31] I K, L)) (q1 : ∀ K, (fun K => mCn K 30 16) K → Q (some (.int 1)) (mSH, mMix [28, 30, 31] I K, L)) (m : Nat) : ∀ (x0 : Int32) (K : Nat → Nat → Int32), 17 ≤ x0.toInt + m → mCn K 30 16 → mWP mTb_ mFT ro (d + 3, 31, 2, [some (.ref 28), some (.ref 30), some (.int x0)], [], 0, 0, (mSH, (mMix [28, 30, 31] I K), L)) Q := by
  induction m with
  | zero =>
    intro x0 K hm hK
    exact s_nums_30 n26 hK q0 q1 (fun c => absurd (Int32.lt_iff_toInt_lt.mpr (by rw [show (16 : Int32).toInt = 16 from rfl]; omega)) c)
  | succ m ih =>
    intro x0 K hm hK
    refine s_nums_30 n26 hK q0 q1 (fun c K hK => ih _ K ?_ hK)
    rw [mSucc (y := 17) (fun e => c (by simp only [Int32.lt_iff_toInt_lt, Int32.le_iff_toInt_le, show (16 : Int32).toInt = 16 from rfl, show (17 : Int32).toInt = 17 from rfl] at *; omega))]
    omega
theorem w_nums_30 {ro : Nat → Nat × (Nat → Int32)} {Q : mPo} {d : Nat} {I : Nat → Nat → Int32} {L : Nat → Nat → Int64} (n26 : mCn I 26 120) (nq : mCn I 30 16) (q0 : ∀ K, (fun K => mCn K 30 16) K → Q (some (.int 0)) (mSH, mMix [28, 30, 31] I K, L)) (q1 : ∀ K, (fun K => mCn K 30 16) K → Q (some (.int 1)) (mSH, mMix [28, 30, 31] I K, L))  : mWP mTb_ mFT ro (d + 3, 31, 0, [some (.ref 28), some (.ref 30), none], [], 0, 0, (mSH, I, L)) Q := by
  refine mB 2 (s2 := (d + 3, 31, 2, [some (.ref 28), some (.ref 30), some (.int 0)], [], 0, 0, (mSH, I, L))) rfl ?_
  (rw [← (mFr.rf : mFr [28, 30, 31] I I).eq]; exact l_nums_30 n26 q0 q1 17 _ _ (by decide) nq)
theorem s_nums_32 {ro : Nat → Nat × (Nat → Int32)} {Q : mPo} {d : Nat} {I : Nat → Nat → Int32} {L : Nat → Nat → Int64} {K : Nat → Nat → Int32} {x0 : Int32} (n26 : mCn I 26 120) (hK : mCn K 32 8) (q0 : ∀ K, (fun K => mCn K 32 8) K → Q (some (.int 0)) (mSH, mMix [28, 32, 33] I K, L)) (q1 : ∀ K, (fun K => mCn K 32 8) K → Q (some (.int 1)) (mSH, mMix [28, 32, 33] I K, L)) (ih : ¬ (16 : Int32) < x0 → ∀ K, mCn K 32 8 → mWP mTb_ mFT ro (d + 3, 31, 2, [some (.ref 28), some (.ref 32), some (.int (x0 + 1))], [], 0, 0, (mSH, (mMix [28, 32, 33] I K), L)) Q)  : mWP mTb_ mFT ro (d + 3, 31, 2, [some (.ref 28), some (.ref 32), some (.int x0)], [], 0, 0, (mSH, (mMix [28, 32, 33] I K), L)) Q := by
  refine mB 2 (s2 := (d + 3, 31, 5, [some (.ref 28), some (.ref 32), some (.int x0)], [.int 16, .int x0], 0, 0, (mSH, (mMix [28, 32, 33] I K), L))) rfl ?_
  refine mBr (s2 := (d + 3, 31, 63, [some (.ref 28), some (.ref 32), some (.int x0)], [], 0, 0, (mSH, (mMix [28, 32, 33] I K), L))) (s3 := (d + 3, 31, 8, [some (.ref 28), some (.ref 32), some (.int x0)], [], 0, 0, (mSH, (mMix [28, 32, 33] I K), L))) rfl (fun c0 => ?_) (fun c0 => ?_)
  · refine mB 1 (s2 := (d + 3, 31, 64, [some (.ref 28), some (.ref 32), some (.int x0)], [.int 0], 0, 0, (mSH, (mMix [28, 32, 33] I K), L))) rfl ?_
    refine mRt (r := (some (.int 0))) (h := (mSH, (mMix [28, 32, 33] I K), L)) rfl rfl ?_
    exact mFin (P := (fun K => mCn K 32 8)) q0 (mFr.mix (by decide) mFr.rf) hK
  · refine mB 1 (s2 := (d + 3, 31, 9, [some (.ref 28), some (.ref 32), some (.int x0)], [.ref 28], 0, 0, (mSH, (mMix [28, 32, 33] I K), L))) rfl ?_
    refine mCall (s2 := (d + 2, 34, 0, [some (.ref 28)], [], 0, 0, (mSH, (mMix [28, 32, 33] I K), L))) rfl ?_
    refine w_skip n26 (fun K1 hK1 => ?_)
    show mWP mTb_ mFT ro (d + 3, 31, 12, [some (.ref 28), some (.ref 32), some (.int x0)], [], 0, 0, (mSH, (mMix [28] (mMix [28, 32, 33] I K) K1), L)) _
    refine mB 1 (s2 := (d + 3, 31, 13, [some (.ref 28), some (.ref 32), some (.int x0)], [.ref 32], 0, 0, (mSH, (mMix [28] (mMix [28, 32, 33] I K) K1), L))) rfl ?_
    refine mCall (s2 := (d + 2, 39, 0, [some (.ref 32)], [], 0, 0, (mSH, (mMix [28] (mMix [28, 32, 33] I K) K1), L))) rfl ?_
    refine mB 2 (s2 := (d + 2, 39, 4, [some (.ref 32)], [.int (K 32 1)], 0, 0, (mSH, (mMix [28] (mMix [28, 32, 33] I K) K1), L))) rfl ?_
    refine mRt (r := (some (.int (K 32 1)))) (h := (mSH, (mMix [28] (mMix [28, 32, 33] I K) K1), L)) rfl (mRet_int rfl) ?_
    show mWP mTb_ mFT ro (d + 3, 31, 16, [some (.ref 28), some (.ref 32), some (.int x0)], [.int (K 32 1)], 0, 0, (mSH, (mMix [28] (mMix [28, 32, 33] I K) K1), L)) _
    refine mBr (s2 := (d + 3, 31, 47, [some (.ref 28), some (.ref 32), some (.int x0)], [], 0, 0, (mSH, (mMix [28] (mMix [28, 32, 33] I K) K1), L))) (s3 := (d + 3, 31, 19, [some (.ref 28), some (.ref 32), some (.int x0)], [], 0, 0, (mSH, (mMix [28] (mMix [28, 32, 33] I K) K1), L))) rfl (fun c2 => ?_) (fun c2 => ?_)
    · refine mB 2 (s2 := (d + 3, 31, 49, [some (.ref 28), some (.ref 32), some (.int x0)], [.ref 32, .ref 28], 0, 0, (mSH, (mMix [28] (mMix [28, 32, 33] I K) K1), L))) rfl ?_
      refine mCall (s2 := (d + 2, 32, 0, [some (.ref 28), some (.ref 32), none, none, none, none], [], 0, 0, (mSH, (mMix [28] (mMix [28, 32, 33] I K) K1), L))) rfl ?_
      refine w_number_32 n26 hK ?_ ?_
      · intro K2 hK2
        show mWP mTb_ mFT ro (d + 3, 31, 52, [some (.ref 28), some (.ref 32), some (.int x0)], [.int 0], 0, 0, (mSH, (mMix [28, 32, 33] (mMix [28] (mMix [28, 32, 33] I K) K1) K2), L)) _
        refine mBT (s2 := (d + 3, 31, 55, [some (.ref 28), some (.ref 32), some (.int x0)], [], 0, 0, (mSH, (mMix [28, 32, 33] (mMix [28] (mMix [28, 32, 33] I K) K1) K2), L))) rfl (by decide) ?_
        refine mB 1 (s2 := (d + 3, 31, 56, [some (.ref 28), some (.ref 32), some (.int x0)], [.int 0], 0, 0, (mSH, (mMix [28, 32, 33] (mMix [28] (mMix [28, 32, 33] I K) K1) K2), L))) rfl ?_
        refine mRt (r := (some (.int 0))) (h := (mSH, (mMix [28, 32, 33] (mMix [28] (mMix [28, 32, 33] I K) K1) K2), L)) rfl rfl ?_
        exact mFin (P := (fun K => mCn K 32 8)) q0 (mFr.mix (by decide) (mFr.mix (by decide) (mFr.mix (by decide) mFr.rf))) hK2
      · intro K2 hK2
        show mWP mTb_ mFT ro (d + 3, 31, 52, [some (.ref 28), some (.ref 32), some (.int x0)], [.int 1], 0, 0, (mSH, (mMix [28, 32, 33] (mMix [28] (mMix [28, 32, 33] I K) K1) K2), L)) _
        refine mBF (s3 := (d + 3, 31, 57, [some (.ref 28), some (.ref 32), some (.int x0)], [], 0, 0, (mSH, (mMix [28, 32, 33] (mMix [28] (mMix [28, 32, 33] I K) K1) K2), L))) rfl (by decide) ?_
        refine mB 2 (s2 := (d + 3, 31, 2, [some (.ref 28), some (.ref 32), some (.int (x0 + 1))], [], 0, 0, (mSH, (mMix [28, 32, 33] (mMix [28] (mMix [28, 32, 33] I K) K1) K2), L))) rfl ?_
        (rw [← ((mFr.mix (by decide) (mFr.mix (by decide) (mFr.mix (by decide) mFr.rf))) : mFr [28, 32, 33] I (mMix [28, 32, 33] (mMix [28] (mMix [28, 32, 33] I K) K1) K2)).eq]; exact ih (of_decide_eq_false c0) _ hK2)
    · refine mB 4 (s2 := (d + 3, 31, 27, [some (.ref 28), some (.ref 32), some (.int x0)], [.int (K1 28 2), .ref 26], 0, 0, (mSH, (mMix [28] (mMix [28, 32, 33] I K) K1), L))) rfl ?_
      refine mCall (s2 := (d + 2, 42, 0, [some (.ref 26), some (.int (K1 28 2))], [], 0, 0, (mSH, (mMix [28] (mMix [28, 32, 33] I K) K1), L))) rfl ?_
      refine w_at_26 n26 ?_
      show mWP mTb_ mFT ro (d + 3, 31, 30, [some (.ref 28), some (.ref 32), some (.int x0)], [.int (mAt (mMix [28] (mMix [28, 32, 33] I K) K1) 26 27 (K1 28 2))], 0, 0, (mSH, (mMix [28] (mMix [28, 32, 33] I K) K1), L)) _
      refine mB 1 (s2 := (d + 3, 31, 32, [some (.ref 28), some (.ref 32), some (.int x0)], [.int 59, .int (mAt (mMix [28] (mMix [28, 32, 33] I K) K1) 26 27 (K1 28 2))], 0, 0, (mSH, (mMix [28] (mMix [28, 32, 33] I K) K1), L))) rfl ?_
      refine mBr (s2 := (d + 3, 31, 35, [some (.ref 28), some (.ref 32), some (.int x0)], [], 0, 0, (mSH, (mMix [28] (mMix [28, 32, 33] I K) K1), L))) (s3 := (d + 3, 31, 47, [some (.ref 28), some (.ref 32), some (.int x0)], [], 0, 0, (mSH, (mMix [28] (mMix [28, 32, 33] I K) K1), L))) rfl (fun c3 => ?_) (fun c3 => ?_)
      · refine mB 7 (s2 := (d + 3, 31, 46, [some (.ref 28), some (.ref 32), some (.int x0)], [.int 1], 0, 0, (mSH, (mUp (mMix [28] (mMix [28, 32, 33] I K) K1) 28 2 ((K1 28 2) + 1)), L))) rfl ?_
        refine mRt (r := (some (.int 1))) (h := (mSH, (mUp (mMix [28] (mMix [28, 32, 33] I K) K1) 28 2 ((K1 28 2) + 1)), L)) rfl rfl ?_
        exact mFin (P := (fun K => mCn K 32 8)) q1 (mFr.up (by rfl) (mFr.mix (by decide) (mFr.mix (by decide) mFr.rf))) hK
      · refine mB 2 (s2 := (d + 3, 31, 49, [some (.ref 28), some (.ref 32), some (.int x0)], [.ref 32, .ref 28], 0, 0, (mSH, (mMix [28] (mMix [28, 32, 33] I K) K1), L))) rfl ?_
        refine mCall (s2 := (d + 2, 32, 0, [some (.ref 28), some (.ref 32), none, none, none, none], [], 0, 0, (mSH, (mMix [28] (mMix [28, 32, 33] I K) K1), L))) rfl ?_
        refine w_number_32 n26 hK ?_ ?_
        · intro K3 hK3
          show mWP mTb_ mFT ro (d + 3, 31, 52, [some (.ref 28), some (.ref 32), some (.int x0)], [.int 0], 0, 0, (mSH, (mMix [28, 32, 33] (mMix [28] (mMix [28, 32, 33] I K) K1) K3), L)) _
          refine mBT (s2 := (d + 3, 31, 55, [some (.ref 28), some (.ref 32), some (.int x0)], [], 0, 0, (mSH, (mMix [28, 32, 33] (mMix [28] (mMix [28, 32, 33] I K) K1) K3), L))) rfl (by decide) ?_
          refine mB 1 (s2 := (d + 3, 31, 56, [some (.ref 28), some (.ref 32), some (.int x0)], [.int 0], 0, 0, (mSH, (mMix [28, 32, 33] (mMix [28] (mMix [28, 32, 33] I K) K1) K3), L))) rfl ?_
          refine mRt (r := (some (.int 0))) (h := (mSH, (mMix [28, 32, 33] (mMix [28] (mMix [28, 32, 33] I K) K1) K3), L)) rfl rfl ?_
          exact mFin (P := (fun K => mCn K 32 8)) q0 (mFr.mix (by decide) (mFr.mix (by decide) (mFr.mix (by decide) mFr.rf))) hK3
        · intro K3 hK3
          show mWP mTb_ mFT ro (d + 3, 31, 52, [some (.ref 28), some (.ref 32), some (.int x0)], [.int 1], 0, 0, (mSH, (mMix [28, 32, 33] (mMix [28] (mMix [28, 32, 33] I K) K1) K3), L)) _
          refine mBF (s3 := (d + 3, 31, 57, [some (.ref 28), some (.ref 32), some (.int x0)], [], 0, 0, (mSH, (mMix [28, 32, 33] (mMix [28] (mMix [28, 32, 33] I K) K1) K3), L))) rfl (by decide) ?_
          refine mB 2 (s2 := (d + 3, 31, 2, [some (.ref 28), some (.ref 32), some (.int (x0 + 1))], [], 0, 0, (mSH, (mMix [28, 32, 33] (mMix [28] (mMix [28, 32, 33] I K) K1) K3), L))) rfl ?_
          (rw [← ((mFr.mix (by decide) (mFr.mix (by decide) (mFr.mix (by decide) mFr.rf))) : mFr [28, 32, 33] I (mMix [28, 32, 33] (mMix [28] (mMix [28, 32, 33] I K) K1) K3)).eq]; exact ih (of_decide_eq_false c0) _ hK3)
theorem l_nums_32 {ro : Nat → Nat × (Nat → Int32)} {Q : mPo} {d : Nat} {I : Nat → Nat → Int32} {L : Nat → Nat → Int64} (n26 : mCn I 26 120) (q0 : ∀ K, (fun K => mCn K 32 8) K → Q (some (.int 0)) (mSH, mMix [28, 32, 33] I K, L)) (q1 : ∀ K, (fun K => mCn K 32 8) K → Q (some (.int 1)) (mSH, mMix [28, 32, 33] I K, L)) (m : Nat) : ∀ (x0 : Int32) (K : Nat → Nat → Int32), 17 ≤ x0.toInt + m → mCn K 32 8 → mWP mTb_ mFT ro (d + 3, 31, 2, [some (.ref 28), some (.ref 32), some (.int x0)], [], 0, 0, (mSH, (mMix [28, 32, 33] I K), L)) Q := by
  induction m with
  | zero =>
    intro x0 K hm hK
    exact s_nums_32 n26 hK q0 q1 (fun c => absurd (Int32.lt_iff_toInt_lt.mpr (by rw [show (16 : Int32).toInt = 16 from rfl]; omega)) c)
  | succ m ih =>
    intro x0 K hm hK
    refine s_nums_32 n26 hK q0 q1 (fun c K hK => ih _ K ?_ hK)
    rw [mSucc (y := 17) (fun e => c (by simp only [Int32.lt_iff_toInt_lt, Int32.le_iff_toInt_le, show (16 : Int32).toInt = 16 from rfl, show (17 : Int32).toInt = 17 from rfl] at *; omega))]
    omega
theorem w_nums_32 {ro : Nat → Nat × (Nat → Int32)} {Q : mPo} {d : Nat} {I : Nat → Nat → Int32} {L : Nat → Nat → Int64} (n26 : mCn I 26 120) (nq : mCn I 32 8) (q0 : ∀ K, (fun K => mCn K 32 8) K → Q (some (.int 0)) (mSH, mMix [28, 32, 33] I K, L)) (q1 : ∀ K, (fun K => mCn K 32 8) K → Q (some (.int 1)) (mSH, mMix [28, 32, 33] I K, L))  : mWP mTb_ mFT ro (d + 3, 31, 0, [some (.ref 28), some (.ref 32), none], [], 0, 0, (mSH, I, L)) Q := by
  refine mB 2 (s2 := (d + 3, 31, 2, [some (.ref 28), some (.ref 32), some (.int 0)], [], 0, 0, (mSH, I, L))) rfl ?_
  (rw [← (mFr.rf : mFr [28, 32, 33] I I).eq]; exact l_nums_32 n26 q0 q1 17 _ _ (by decide) nq)
def mPR (K : Nat → Nat → Int32) : Prop := mCn K 30 16 ∧ mCn K 32 8
theorem w_readsAll {ro : Nat → Nat × (Nat → Int32)} {Q : mPo} {d : Nat} {I : Nat → Nat → Int32} {L : Nat → Nat → Int64} (n26 : mCn I 26 120) (hB : mRB ro) (q0 : ∀ K, mPR K → Q (some (.int 0)) (mSH, mMix mSR I K, L)) (q1 : ∀ K, mPR K → Q (some (.int 1)) (mSH, mMix mSR I K, L))  : mWP mTb_ mFT ro (d + 6, 28, 0, [some (.ref 28)], [], 0, 0, (mSH, I, L)) Q := by
  refine mB 6 (s2 := (d + 6, 28, 12, [some (.ref 28)], [.ref 30], 0, 0, (mSH, (mUp I 28 2 0), L))) rfl ?_
  refine mCall (s2 := (d + 5, 45, 0, [some (.ref 30), none], [], 0, 0, (mSH, (mUp I 28 2 0), L))) rfl ?_
  refine mB 7 (s2 := (d + 5, 45, 11, [some (.ref 30), some (.int (I 30 1))], [.int (I 30 1)], 0, 0, (mSH, (mUp (mUp I 28 2 0) 30 1 0), L))) rfl ?_
  refine mRt (r := (some (.int (I 30 1)))) (h := (mSH, (mUp (mUp I 28 2 0) 30 1 0), L)) rfl (mRet_int rfl) ?_
  show mWP mTb_ mFT ro (d + 6, 28, 15, [some (.ref 28)], [.int (I 30 1)], 0, 0, (mSH, (mUp (mUp I 28 2 0) 30 1 0), L)) _
  refine mB 4 (s2 := (d + 6, 28, 23, [some (.ref 28)], [.ref 32], 0, 0, (mSH, (mUp (mUp I 28 2 0) 30 1 0), L))) rfl ?_
  refine mCall (s2 := (d + 5, 45, 0, [some (.ref 32), none], [], 0, 0, (mSH, (mUp (mUp I 28 2 0) 30 1 0), L))) rfl ?_
  refine mB 7 (s2 := (d + 5, 45, 11, [some (.ref 32), some (.int (I 32 1))], [.int (I 32 1)], 0, 0, (mSH, (mUp (mUp (mUp I 28 2 0) 30 1 0) 32 1 0), L))) rfl ?_
  refine mRt (r := (some (.int (I 32 1)))) (h := (mSH, (mUp (mUp (mUp I 28 2 0) 30 1 0) 32 1 0), L)) rfl (mRet_int rfl) ?_
  show mWP mTb_ mFT ro (d + 6, 28, 26, [some (.ref 28)], [.int (I 32 1)], 0, 0, (mSH, (mUp (mUp (mUp I 28 2 0) 30 1 0) 32 1 0), L)) _
  refine mB 3 (s2 := (d + 6, 28, 30, [some (.ref 28)], [.ref 1003, .ref 28], 0, 0, (mSH, (mUp (mUp (mUp I 28 2 0) 30 1 0) 32 1 0), L))) rfl ?_
  refine mCall (s2 := (d + 5, 30, 0, [some (.ref 28), some (.ref 1003), none, none], [], 0, 0, (mSH, (mUp (mUp (mUp I 28 2 0) 30 1 0) 32 1 0), L))) rfl ?_
  refine w_word_0 n26 hB ?_ ?_
  · intro K1 hK1
    show mWP mTb_ mFT ro (d + 6, 28, 33, [some (.ref 28)], [.int 0], 0, 0, (mSH, (mMix [28] (mUp (mUp (mUp I 28 2 0) 30 1 0) 32 1 0) K1), L)) _
    refine mBT (s2 := (d + 6, 28, 91, [some (.ref 28)], [], 0, 0, (mSH, (mMix [28] (mUp (mUp (mUp I 28 2 0) 30 1 0) 32 1 0) K1), L))) rfl (by decide) ?_
    refine mB 1 (s2 := (d + 6, 28, 92, [some (.ref 28)], [.int 0], 0, 0, (mSH, (mMix [28] (mUp (mUp (mUp I 28 2 0) 30 1 0) 32 1 0) K1), L))) rfl ?_
    refine mRt (r := (some (.int 0))) (h := (mSH, (mMix [28] (mUp (mUp (mUp I 28 2 0) 30 1 0) 32 1 0) K1), L)) rfl rfl ?_
    exact mFin (P := mPR) q0 (mFr.mix (by decide) (mFr.up (by rfl) (mFr.up (by rfl) (mFr.up (by rfl) mFr.rf)))) ⟨(mCn_z (by rfl)), (mCn_z (by rfl))⟩
  · intro K1 hK1
    show mWP mTb_ mFT ro (d + 6, 28, 33, [some (.ref 28)], [.int 1], 0, 0, (mSH, (mMix [28] (mUp (mUp (mUp I 28 2 0) 30 1 0) 32 1 0) K1), L)) _
    refine mBF (s3 := (d + 6, 28, 36, [some (.ref 28)], [], 0, 0, (mSH, (mMix [28] (mUp (mUp (mUp I 28 2 0) 30 1 0) 32 1 0) K1), L))) rfl (by decide) ?_
    refine mB 4 (s2 := (d + 6, 28, 44, [some (.ref 28)], [.ref 30, .ref 28], 0, 0, (mSH, (mMix [28] (mUp (mUp (mUp I 28 2 0) 30 1 0) 32 1 0) K1), L))) rfl ?_
    refine mCall (s2 := (d + 5, 31, 0, [some (.ref 28), some (.ref 30), none], [], 0, 0, (mSH, (mMix [28] (mUp (mUp (mUp I 28 2 0) 30 1 0) 32 1 0) K1), L))) rfl ?_
    refine w_nums_30 n26 (mCn_z (by rfl)) ?_ ?_
    · intro K2 hK2
      show mWP mTb_ mFT ro (d + 6, 28, 47, [some (.ref 28)], [.int 0], 0, 0, (mSH, (mMix [28, 30, 31] (mMix [28] (mUp (mUp (mUp I 28 2 0) 30 1 0) 32 1 0) K1) K2), L)) _
      refine mBT (s2 := (d + 6, 28, 91, [some (.ref 28)], [], 0, 0, (mSH, (mMix [28, 30, 31] (mMix [28] (mUp (mUp (mUp I 28 2 0) 30 1 0) 32 1 0) K1) K2), L))) rfl (by decide) ?_
      refine mB 1 (s2 := (d + 6, 28, 92, [some (.ref 28)], [.int 0], 0, 0, (mSH, (mMix [28, 30, 31] (mMix [28] (mUp (mUp (mUp I 28 2 0) 30 1 0) 32 1 0) K1) K2), L))) rfl ?_
      refine mRt (r := (some (.int 0))) (h := (mSH, (mMix [28, 30, 31] (mMix [28] (mUp (mUp (mUp I 28 2 0) 30 1 0) 32 1 0) K1) K2), L)) rfl rfl ?_
      exact mFin (P := mPR) q0 (mFr.mix (by decide) (mFr.mix (by decide) (mFr.up (by rfl) (mFr.up (by rfl) (mFr.up (by rfl) mFr.rf))))) ⟨hK2, (mCn_z (by rfl))⟩
    · intro K2 hK2
      show mWP mTb_ mFT ro (d + 6, 28, 47, [some (.ref 28)], [.int 1], 0, 0, (mSH, (mMix [28, 30, 31] (mMix [28] (mUp (mUp (mUp I 28 2 0) 30 1 0) 32 1 0) K1) K2), L)) _
      refine mBF (s3 := (d + 6, 28, 50, [some (.ref 28)], [], 0, 0, (mSH, (mMix [28, 30, 31] (mMix [28] (mUp (mUp (mUp I 28 2 0) 30 1 0) 32 1 0) K1) K2), L))) rfl (by decide) ?_
      refine mB 2 (s2 := (d + 6, 28, 53, [some (.ref 28)], [.ref 1004, .ref 28], 0, 0, (mSH, (mMix [28, 30, 31] (mMix [28] (mUp (mUp (mUp I 28 2 0) 30 1 0) 32 1 0) K1) K2), L))) rfl ?_
      refine mCall (s2 := (d + 5, 30, 0, [some (.ref 28), some (.ref 1004), none, none], [], 0, 0, (mSH, (mMix [28, 30, 31] (mMix [28] (mUp (mUp (mUp I 28 2 0) 30 1 0) 32 1 0) K1) K2), L))) rfl ?_
      refine w_word_1 n26 hB ?_ ?_
      · intro K3 hK3
        show mWP mTb_ mFT ro (d + 6, 28, 56, [some (.ref 28)], [.int 0], 0, 0, (mSH, (mMix [28] (mMix [28, 30, 31] (mMix [28] (mUp (mUp (mUp I 28 2 0) 30 1 0) 32 1 0) K1) K2) K3), L)) _
        refine mBT (s2 := (d + 6, 28, 91, [some (.ref 28)], [], 0, 0, (mSH, (mMix [28] (mMix [28, 30, 31] (mMix [28] (mUp (mUp (mUp I 28 2 0) 30 1 0) 32 1 0) K1) K2) K3), L))) rfl (by decide) ?_
        refine mB 1 (s2 := (d + 6, 28, 92, [some (.ref 28)], [.int 0], 0, 0, (mSH, (mMix [28] (mMix [28, 30, 31] (mMix [28] (mUp (mUp (mUp I 28 2 0) 30 1 0) 32 1 0) K1) K2) K3), L))) rfl ?_
        refine mRt (r := (some (.int 0))) (h := (mSH, (mMix [28] (mMix [28, 30, 31] (mMix [28] (mUp (mUp (mUp I 28 2 0) 30 1 0) 32 1 0) K1) K2) K3), L)) rfl rfl ?_
        exact mFin (P := mPR) q0 (mFr.mix (by decide) (mFr.mix (by decide) (mFr.mix (by decide) (mFr.up (by rfl) (mFr.up (by rfl) (mFr.up (by rfl) mFr.rf)))))) ⟨hK2, (mCn_z (by rfl))⟩
      · intro K3 hK3
        show mWP mTb_ mFT ro (d + 6, 28, 56, [some (.ref 28)], [.int 1], 0, 0, (mSH, (mMix [28] (mMix [28, 30, 31] (mMix [28] (mUp (mUp (mUp I 28 2 0) 30 1 0) 32 1 0) K1) K2) K3), L)) _
        refine mBF (s3 := (d + 6, 28, 59, [some (.ref 28)], [], 0, 0, (mSH, (mMix [28] (mMix [28, 30, 31] (mMix [28] (mUp (mUp (mUp I 28 2 0) 30 1 0) 32 1 0) K1) K2) K3), L))) rfl (by decide) ?_
        refine mB 1 (s2 := (d + 6, 28, 60, [some (.ref 28)], [.ref 28], 0, 0, (mSH, (mMix [28] (mMix [28, 30, 31] (mMix [28] (mUp (mUp (mUp I 28 2 0) 30 1 0) 32 1 0) K1) K2) K3), L))) rfl ?_
        refine mCall (s2 := (d + 5, 29, 0, [some (.ref 28)], [], 0, 0, (mSH, (mMix [28] (mMix [28, 30, 31] (mMix [28] (mUp (mUp (mUp I 28 2 0) 30 1 0) 32 1 0) K1) K2) K3), L))) rfl ?_
        refine w_point n26 hB ?_ ?_
        · intro K4 hK4
          show mWP mTb_ mFT ro (d + 6, 28, 63, [some (.ref 28)], [.int 0], 0, 0, (mSH, (mMix [28, 29] (mMix [28] (mMix [28, 30, 31] (mMix [28] (mUp (mUp (mUp I 28 2 0) 30 1 0) 32 1 0) K1) K2) K3) K4), L)) _
          refine mBT (s2 := (d + 6, 28, 91, [some (.ref 28)], [], 0, 0, (mSH, (mMix [28, 29] (mMix [28] (mMix [28, 30, 31] (mMix [28] (mUp (mUp (mUp I 28 2 0) 30 1 0) 32 1 0) K1) K2) K3) K4), L))) rfl (by decide) ?_
          refine mB 1 (s2 := (d + 6, 28, 92, [some (.ref 28)], [.int 0], 0, 0, (mSH, (mMix [28, 29] (mMix [28] (mMix [28, 30, 31] (mMix [28] (mUp (mUp (mUp I 28 2 0) 30 1 0) 32 1 0) K1) K2) K3) K4), L))) rfl ?_
          refine mRt (r := (some (.int 0))) (h := (mSH, (mMix [28, 29] (mMix [28] (mMix [28, 30, 31] (mMix [28] (mUp (mUp (mUp I 28 2 0) 30 1 0) 32 1 0) K1) K2) K3) K4), L)) rfl rfl ?_
          exact mFin (P := mPR) q0 (mFr.mix (by decide) (mFr.mix (by decide) (mFr.mix (by decide) (mFr.mix (by decide) (mFr.up (by rfl) (mFr.up (by rfl) (mFr.up (by rfl) mFr.rf))))))) ⟨hK2, (mCn_z (by rfl))⟩
        · intro K4 hK4
          show mWP mTb_ mFT ro (d + 6, 28, 63, [some (.ref 28)], [.int 1], 0, 0, (mSH, (mMix [28, 29] (mMix [28] (mMix [28, 30, 31] (mMix [28] (mUp (mUp (mUp I 28 2 0) 30 1 0) 32 1 0) K1) K2) K3) K4), L)) _
          refine mBF (s3 := (d + 6, 28, 66, [some (.ref 28)], [], 0, 0, (mSH, (mMix [28, 29] (mMix [28] (mMix [28, 30, 31] (mMix [28] (mUp (mUp (mUp I 28 2 0) 30 1 0) 32 1 0) K1) K2) K3) K4), L))) rfl (by decide) ?_
          refine mB 4 (s2 := (d + 6, 28, 74, [some (.ref 28)], [.ref 32, .ref 28], 0, 0, (mSH, (mMix [28, 29] (mMix [28] (mMix [28, 30, 31] (mMix [28] (mUp (mUp (mUp I 28 2 0) 30 1 0) 32 1 0) K1) K2) K3) K4), L))) rfl ?_
          refine mCall (s2 := (d + 5, 31, 0, [some (.ref 28), some (.ref 32), none], [], 0, 0, (mSH, (mMix [28, 29] (mMix [28] (mMix [28, 30, 31] (mMix [28] (mUp (mUp (mUp I 28 2 0) 30 1 0) 32 1 0) K1) K2) K3) K4), L))) rfl ?_
          refine w_nums_32 n26 (mCn_z (by rfl)) ?_ ?_
          · intro K5 hK5
            show mWP mTb_ mFT ro (d + 6, 28, 77, [some (.ref 28)], [.int 0], 0, 0, (mSH, (mMix [28, 32, 33] (mMix [28, 29] (mMix [28] (mMix [28, 30, 31] (mMix [28] (mUp (mUp (mUp I 28 2 0) 30 1 0) 32 1 0) K1) K2) K3) K4) K5), L)) _
            refine mBT (s2 := (d + 6, 28, 91, [some (.ref 28)], [], 0, 0, (mSH, (mMix [28, 32, 33] (mMix [28, 29] (mMix [28] (mMix [28, 30, 31] (mMix [28] (mUp (mUp (mUp I 28 2 0) 30 1 0) 32 1 0) K1) K2) K3) K4) K5), L))) rfl (by decide) ?_
            refine mB 1 (s2 := (d + 6, 28, 92, [some (.ref 28)], [.int 0], 0, 0, (mSH, (mMix [28, 32, 33] (mMix [28, 29] (mMix [28] (mMix [28, 30, 31] (mMix [28] (mUp (mUp (mUp I 28 2 0) 30 1 0) 32 1 0) K1) K2) K3) K4) K5), L))) rfl ?_
            refine mRt (r := (some (.int 0))) (h := (mSH, (mMix [28, 32, 33] (mMix [28, 29] (mMix [28] (mMix [28, 30, 31] (mMix [28] (mUp (mUp (mUp I 28 2 0) 30 1 0) 32 1 0) K1) K2) K3) K4) K5), L)) rfl rfl ?_
            exact mFin (P := mPR) q0 (mFr.mix (by decide) (mFr.mix (by decide) (mFr.mix (by decide) (mFr.mix (by decide) (mFr.mix (by decide) (mFr.up (by rfl) (mFr.up (by rfl) (mFr.up (by rfl) mFr.rf)))))))) ⟨hK2, hK5⟩
          · intro K5 hK5
            show mWP mTb_ mFT ro (d + 6, 28, 77, [some (.ref 28)], [.int 1], 0, 0, (mSH, (mMix [28, 32, 33] (mMix [28, 29] (mMix [28] (mMix [28, 30, 31] (mMix [28] (mUp (mUp (mUp I 28 2 0) 30 1 0) 32 1 0) K1) K2) K3) K4) K5), L)) _
            refine mBF (s3 := (d + 6, 28, 80, [some (.ref 28)], [], 0, 0, (mSH, (mMix [28, 32, 33] (mMix [28, 29] (mMix [28] (mMix [28, 30, 31] (mMix [28] (mUp (mUp (mUp I 28 2 0) 30 1 0) 32 1 0) K1) K2) K3) K4) K5), L))) rfl (by decide) ?_
            refine mB 1 (s2 := (d + 6, 28, 81, [some (.ref 28)], [.ref 28], 0, 0, (mSH, (mMix [28, 32, 33] (mMix [28, 29] (mMix [28] (mMix [28, 30, 31] (mMix [28] (mUp (mUp (mUp I 28 2 0) 30 1 0) 32 1 0) K1) K2) K3) K4) K5), L))) rfl ?_
            refine mCall (s2 := (d + 5, 33, 0, [some (.ref 28)], [], 0, 0, (mSH, (mMix [28, 32, 33] (mMix [28, 29] (mMix [28] (mMix [28, 30, 31] (mMix [28] (mUp (mUp (mUp I 28 2 0) 30 1 0) 32 1 0) K1) K2) K3) K4) K5), L))) rfl ?_
            refine w_atEnd n26 ?_ ?_
            · intro K6 hK6
              show mWP mTb_ mFT ro (d + 6, 28, 84, [some (.ref 28)], [.int 0], 0, 0, (mSH, (mMix [28] (mMix [28, 32, 33] (mMix [28, 29] (mMix [28] (mMix [28, 30, 31] (mMix [28] (mUp (mUp (mUp I 28 2 0) 30 1 0) 32 1 0) K1) K2) K3) K4) K5) K6), L)) _
              refine mBT (s2 := (d + 6, 28, 91, [some (.ref 28)], [], 0, 0, (mSH, (mMix [28] (mMix [28, 32, 33] (mMix [28, 29] (mMix [28] (mMix [28, 30, 31] (mMix [28] (mUp (mUp (mUp I 28 2 0) 30 1 0) 32 1 0) K1) K2) K3) K4) K5) K6), L))) rfl (by decide) ?_
              refine mB 1 (s2 := (d + 6, 28, 92, [some (.ref 28)], [.int 0], 0, 0, (mSH, (mMix [28] (mMix [28, 32, 33] (mMix [28, 29] (mMix [28] (mMix [28, 30, 31] (mMix [28] (mUp (mUp (mUp I 28 2 0) 30 1 0) 32 1 0) K1) K2) K3) K4) K5) K6), L))) rfl ?_
              refine mRt (r := (some (.int 0))) (h := (mSH, (mMix [28] (mMix [28, 32, 33] (mMix [28, 29] (mMix [28] (mMix [28, 30, 31] (mMix [28] (mUp (mUp (mUp I 28 2 0) 30 1 0) 32 1 0) K1) K2) K3) K4) K5) K6), L)) rfl rfl ?_
              exact mFin (P := mPR) q0 (mFr.mix (by decide) (mFr.mix (by decide) (mFr.mix (by decide) (mFr.mix (by decide) (mFr.mix (by decide) (mFr.mix (by decide) (mFr.up (by rfl) (mFr.up (by rfl) (mFr.up (by rfl) mFr.rf))))))))) ⟨hK2, hK5⟩
            · intro K6 hK6
              show mWP mTb_ mFT ro (d + 6, 28, 84, [some (.ref 28)], [.int 1], 0, 0, (mSH, (mMix [28] (mMix [28, 32, 33] (mMix [28, 29] (mMix [28] (mMix [28, 30, 31] (mMix [28] (mUp (mUp (mUp I 28 2 0) 30 1 0) 32 1 0) K1) K2) K3) K4) K5) K6), L)) _
              refine mBF (s3 := (d + 6, 28, 87, [some (.ref 28)], [], 0, 0, (mSH, (mMix [28] (mMix [28, 32, 33] (mMix [28, 29] (mMix [28] (mMix [28, 30, 31] (mMix [28] (mUp (mUp (mUp I 28 2 0) 30 1 0) 32 1 0) K1) K2) K3) K4) K5) K6), L))) rfl (by decide) ?_
              refine mB 2 (s2 := (d + 6, 28, 92, [some (.ref 28)], [.int 1], 0, 0, (mSH, (mMix [28] (mMix [28, 32, 33] (mMix [28, 29] (mMix [28] (mMix [28, 30, 31] (mMix [28] (mUp (mUp (mUp I 28 2 0) 30 1 0) 32 1 0) K1) K2) K3) K4) K5) K6), L))) rfl ?_
              refine mRt (r := (some (.int 1))) (h := (mSH, (mMix [28] (mMix [28, 32, 33] (mMix [28, 29] (mMix [28] (mMix [28, 30, 31] (mMix [28] (mUp (mUp (mUp I 28 2 0) 30 1 0) 32 1 0) K1) K2) K3) K4) K5) K6), L)) rfl rfl ?_
              exact mFin (P := mPR) q1 (mFr.mix (by decide) (mFr.mix (by decide) (mFr.mix (by decide) (mFr.mix (by decide) (mFr.mix (by decide) (mFr.mix (by decide) (mFr.up (by rfl) (mFr.up (by rfl) (mFr.up (by rfl) mFr.rf))))))))) ⟨hK2, hK5⟩
