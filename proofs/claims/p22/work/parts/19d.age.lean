/-! The model: ages. Written by a program (wip/mk_c.py). -/
theorem mRem {x y : Int64} (hy : ¬ y = 0) : (x - x / y * y).toInt.natAbs < y.toInt.natAbs := by
  have hy0 : y.toInt ≠ 0 := fun e => hy (Int64.toInt_inj.mp e)
  have h1 := y.le_toInt
  have h2 := y.toInt_lt
  have lt : (x.toInt.tmod y.toInt).natAbs < y.toInt.natAbs := by
    rw [Int.natAbs_tmod]
    exact Nat.mod_lt _ (by omega)
  have e : (x - x / y * y).toInt = x.toInt.tmod y.toInt := by
    rw [Int64.toInt_sub, Int64.toInt_mul, Int64.toInt_div, Int.bmod_mul_bmod, Int.sub_bmod_bmod]
    have z : x.toInt - x.toInt.tdiv y.toInt * y.toInt = x.toInt.tmod y.toInt := by
      rw [Int.tmod_def, Int.mul_comm]
    rw [z]
    exact Int.bmod_eq_of_le (by omega) (by omega)
  rw [e]
  exact lt
theorem s_bec {ro : Nat → Nat × (Nat → Int32)} {Q : mPo} {d : Nat} {I : Nat → Nat → Int32} {L : Nat → Nat → Int64} {a b x y : Int64} {o9 : Option Value}  (h1 : ((lg_cmp y 0) = 0) → ¬ x = 0) (h2 : ((lg_cmp y 0) = 0) → ¬ x = 0) (h3 : ((lg_cmp y 0) = 0) → Q (some (.int 1)) (mSH, I, (mUpL (mUpL L 34 7 (a / x)) 34 8 (b / x)))) (h4 : ¬ ((lg_cmp y 0) = 0) → ¬ y = 0) (h5 : ¬ ((lg_cmp y 0) = 0) → mWP mTb_ mFT ro (d, 141, 6, [some (.ref 34), some (.long a), none, some (.long b), none, some (.long y), none, some (.long (x - x / y * y)), none, some (.long (x - x / y * y)), none], [], 0, 0, (mSH, I, L)) Q) : mWP mTb_ mFT ro (d, 141, 6, [some (.ref 34), some (.long a), none, some (.long b), none, some (.long x), none, some (.long y), none, o9, none], [], 0, 0, (mSH, I, L)) Q := by
  refine mB 3 (s2 := (d, 141, 10, [some (.ref 34), some (.long a), none, some (.long b), none, some (.long x), none, some (.long y), none, o9, none], [.int (lg_cmp y 0)], 0, 0, (mSH, I, L))) rfl ?_
  refine mBr (s2 := (d, 141, 31, [some (.ref 34), some (.long a), none, some (.long b), none, some (.long x), none, some (.long y), none, o9, none], [], 0, 0, (mSH, I, L))) (s3 := (d, 141, 13, [some (.ref 34), some (.long a), none, some (.long b), none, some (.long x), none, some (.long y), none, o9, none], [], 0, 0, (mSH, I, L))) rfl (fun c0 => ?_) (fun c0 => ?_)
  · refine mB 3 (s2 := (d, 141, 35, [some (.ref 34), some (.long a), none, some (.long b), none, some (.long x), none, some (.long y), none, o9, none], [.long x, .long a, .ref 34], 0, 0, (mSH, I, L))) rfl ?_
    refine mRq (s2 := (d, 141, 36, [some (.ref 34), some (.long a), none, some (.long b), none, some (.long x), none, some (.long y), none, o9, none], [.long (a / x), .ref 34], 0, 0, (mSH, I, L))) rfl (decide_eq_true (h1 (of_decide_eq_true c0))) ?_
    refine mB 4 (s2 := (d, 141, 43, [some (.ref 34), some (.long a), none, some (.long b), none, some (.long x), none, some (.long y), none, o9, none], [.long x, .long b, .ref 34], 0, 0, (mSH, I, (mUpL L 34 7 (a / x))))) rfl ?_
    refine mRq (s2 := (d, 141, 44, [some (.ref 34), some (.long a), none, some (.long b), none, some (.long x), none, some (.long y), none, o9, none], [.long (b / x), .ref 34], 0, 0, (mSH, I, (mUpL L 34 7 (a / x))))) rfl (decide_eq_true (h2 (of_decide_eq_true c0))) ?_
    refine mB 2 (s2 := (d, 141, 48, [some (.ref 34), some (.long a), none, some (.long b), none, some (.long x), none, some (.long y), none, o9, none], [.int 1], 0, 0, (mSH, I, (mUpL (mUpL L 34 7 (a / x)) 34 8 (b / x))))) rfl ?_
    refine mRt (r := (some (.int 1))) (h := (mSH, I, (mUpL (mUpL L 34 7 (a / x)) 34 8 (b / x)))) rfl (mRet_int rfl) ?_
    exact h3 (of_decide_eq_true c0)
  · refine mB 2 (s2 := (d, 141, 17, [some (.ref 34), some (.long a), none, some (.long b), none, some (.long x), none, some (.long y), none, o9, none], [.long y, .long x], 0, 0, (mSH, I, L))) rfl ?_
    refine mRq (s2 := (d, 141, 18, [some (.ref 34), some (.long a), none, some (.long b), none, some (.long x), none, some (.long y), none, o9, none], [.long (x - x / y * y)], 0, 0, (mSH, I, L))) rfl (decide_eq_true (h4 (of_decide_eq_false c0))) ?_
    refine mB 6 (s2 := (d, 141, 6, [some (.ref 34), some (.long a), none, some (.long b), none, some (.long y), none, some (.long (x - x / y * y)), none, some (.long (x - x / y * y)), none], [], 0, 0, (mSH, I, L))) rfl ?_
    exact h5 (of_decide_eq_false c0)
theorem l_bec {ro : Nat → Nat × (Nat → Int32)} {Q : mPo} {d : Nat} {I : Nat → Nat → Int32} {L : Nat → Nat → Int64} {a b : Int64} (hq : ∀ L1, Q (some (.int 1)) (mSH, I, L1)) (m : Nat) : ∀ (x y : Int64) (o9 : Option Value), y.toInt.natAbs < m → (¬ x = 0 ∨ ¬ y = 0) → mWP mTb_ mFT ro (d, 141, 6, [some (.ref 34), some (.long a), none, some (.long b), none, some (.long x), none, some (.long y), none, o9, none], [], 0, 0, (mSH, I, L)) Q := by
  induction m with
  | zero => exact fun x y o9 h => absurd h (Nat.not_lt_zero _)
  | succ m ih =>
    intro x y o9 h hxy
    have x0 : lg_cmp y 0 = 0 → ¬ x = 0 := fun z => by
      rcases hxy with g | g
      · exact g
      · exact absurd ((lg_cmp_eq y 0).mp z) g
    have y0 : ¬ lg_cmp y 0 = 0 → ¬ y = 0 := fun z e => z ((lg_cmp_eq y 0).mpr e)
    apply s_bec
    all_goals intros
    all_goals first
      | exact hq _
      | exact x0 (by assumption)
      | exact y0 (by assumption)
      | exact ih _ _ _ (by have := mRem (x := x) (y0 (by assumption)); omega) (Or.inl (y0 (by assumption)))
theorem w_bec {ro : Nat → Nat × (Nat → Int32)} {Q : mPo} {d : Nat} {I : Nat → Nat → Int32} {L : Nat → Nat → Int64} {a b : Int64} (h : ¬ a = 0 ∨ ¬ b = 0) (hq : ∀ L1, Q (some (.int 1)) (mSH, I, L1)) : mWP mTb_ mFT ro (d, 141, 0, [some (.ref 34), some (.long a), none, some (.long b), none, none, none, none, none, none, none], [], 0, 0, (mSH, I, L)) Q :=
  mB 4 (s2 := (d, 141, 6, [some (.ref 34), some (.long a), none, some (.long b), none, some (.long a), none, some (.long b), none, none, none], [], 0, 0, (mSH, I, L))) rfl (l_bec hq _ a b none (Nat.lt_succ_self _) h)
theorem s_deep {ro : Nat → Nat × (Nat → Int32)} {Q : mPo} {d : Nat} {I : Nat → Nat → Int32} {L : Nat → Nat → Int64} {sm : Int32} {k : Nat}  (h1 : ((I 34 3) ≤ (nI k)) → Q (some (.int sm)) (mSH, I, L)) (h2 : ¬ ((I 34 3) ≤ (nI k)) → vp_in (nI k) 8) (h3 : ¬ ((I 34 3) ≤ (nI k)) → mWP mTb_ mFT ro (d, 142, 4, [some (.ref 34), some (.int (sm + (I 36 ((nI k).toNatClampNeg)))), some (.int ((nI k) + 1))], [], 0, 0, (mSH, I, L)) Q) : mWP mTb_ mFT ro (d, 142, 4, [some (.ref 34), some (.int sm), some (.int (nI k))], [], 0, 0, (mSH, I, L)) Q := by
  refine mB 3 (s2 := (d, 142, 9, [some (.ref 34), some (.int sm), some (.int (nI k))], [.int (I 34 3), .int (nI k)], 0, 0, (mSH, I, L))) rfl ?_
  refine mBr (s2 := (d, 142, 27, [some (.ref 34), some (.int sm), some (.int (nI k))], [], 0, 0, (mSH, I, L))) (s3 := (d, 142, 12, [some (.ref 34), some (.int sm), some (.int (nI k))], [], 0, 0, (mSH, I, L))) rfl (fun c0 => ?_) (fun c0 => ?_)
  · refine mB 1 (s2 := (d, 142, 28, [some (.ref 34), some (.int sm), some (.int (nI k))], [.int sm], 0, 0, (mSH, I, L))) rfl ?_
    refine mRt (r := (some (.int sm))) (h := (mSH, I, L)) rfl (mRet_int rfl) ?_
    exact h1 (of_decide_eq_true c0)
  · refine mB 4 (s2 := (d, 142, 18, [some (.ref 34), some (.int sm), some (.int (nI k))], [.int (nI k), .ref 36, .int sm], 0, 0, (mSH, I, L))) rfl ?_
    refine mRq (s2 := (d, 142, 19, [some (.ref 34), some (.int sm), some (.int (nI k))], [.int (I 36 ((nI k).toNatClampNeg)), .int sm], 0, 0, (mSH, I, L))) rfl (mVp_of (h2 (of_decide_eq_false c0))) ?_
    refine mB 4 (s2 := (d, 142, 4, [some (.ref 34), some (.int (sm + (I 36 ((nI k).toNatClampNeg)))), some (.int ((nI k) + 1))], [], 0, 0, (mSH, I, L))) rfl ?_
    exact h3 (of_decide_eq_false c0)
theorem l_deep {ro : Nat → Nat × (Nat → Int32)} {Q : mPo} {d : Nat} {I : Nat → Nat → Int32} {L : Nat → Nat → Int64} {n : Nat} (hn : n ≤ 8) (g3 : I 34 3 = nI n) (hq : Q (some (.int (mLs I n))) (mSH, I, L)) : ∀ (e k : Nat), k + e = n → mWP mTb_ mFT ro (d, 142, 4, [some (.ref 34), some (.int (mLs I k)), some (.int (nI k))], [], 0, 0, (mSH, I, L)) Q
  | 0, k, he => by
    have e : k = n := by omega
    subst e
    have z : I 34 3 ≤ nI k := by rw [g3]; exact nI_le (Nat.le_refl k) (by omega)
    exact s_deep (fun _ => hq) (fun c => absurd z c) (fun c => absurd z c)
  | e + 1, k, he => by
    have z : ¬ I 34 3 ≤ nI k := by rw [g3]; exact nI_ge (by omega) (by omega)
    refine s_deep (fun c => absurd c z) (fun _ => vp_in_nI (by omega) (by omega)) (fun _ => ?_)
    rw [nI_clamp (by omega), nI_1]
    exact l_deep hn g3 hq e (k + 1) (by omega)
theorem w_deep {ro : Nat → Nat × (Nat → Int32)} {Q : mPo} {d : Nat} {I : Nat → Nat → Int32} {L : Nat → Nat → Int64} {s n t : Nat} (hm : mM s n t I) (hq : Q (some (.int (mLs I n))) (mSH, I, L)) : mWP mTb_ mFT ro (d, 142, 0, [some (.ref 34), none, none], [], 0, 0, (mSH, I, L)) Q :=
  mB 4 (s2 := (d, 142, 4, [some (.ref 34), some (.int 0), some (.int (nI 0))], [], 0, 0, (mSH, I, L))) rfl (l_deep hm.2.1.2 hm.2.1.1 hq n 0 (by omega))
theorem mLs_eq {I K : Nat → Nat → Int32} (e : K 36 = I 36) : ∀ n, mLs K n = mLs I n
  | 0 => rfl
  | n + 1 => by
    unfold mLs
    rw [mLs_eq e n, e]
theorem mYs_in {I : Nat → Nat → Int32} {s i : Nat} (h : ∀ j, j < s → mYR (I 35 j)) : ∀ m, i + m ≤ s → m ≤ 16 → (m : Int) ≤ (mYs I i m).toInt ∧ (mYs I i m).toInt ≤ 99 * m
  | 0, _, _ => by
    show (0 : Int) ≤ (0 : Int32).toInt ∧ (0 : Int32).toInt ≤ 99 * 0
    rw [mLi0]
    omega
  | m + 1, hs, hm => by
    obtain ⟨h1, h2⟩ := mYs_in (i := i) h m (by omega) (by omega)
    obtain ⟨h3, h4⟩ := h (i + m) (by omega)
    have e : (mYs I i (m + 1)).toInt = (mYs I i m).toInt + (I 35 (i + m)).toInt := by
      show (mYs I i m + I 35 (i + m)).toInt = _
      rw [Int32.toInt_add, Int.bmod_eq_of_le (by omega) (by omega)]
    rw [e]
    omega
theorem mNZ {x : Int32} (h : 1 ≤ x.toInt) : ¬ x.toInt64 = 0 := fun e => by
  have z : x.toInt64.toInt = 0 := by rw [e]; rfl
  rw [Int32.toInt_toInt64] at z
  omega
theorem s_ag0 {ro : Nat → Nat × (Nat → Int32)} {Q : mPo} {d : Nat} {I : Nat → Nat → Int32} {L : Nat → Nat → Int64} {v0 : Int32}  (h1 : mWP mTb_ mFT ro (d + 1, 143, 43, [some (.ref 34), some (.int v0), some (.int (I 46 1)), none, none, none, none], [.int (I 46 1), .int 0, .ref 34], 0, 0, (mSH, I, L)) Q) : mWP mTb_ mFT ro (d + 1, 143, 33, [some (.ref 34), some (.int v0), none, none, none, none, none], [], 0, 0, (mSH, I, L)) Q := by
  refine mB 3 (s2 := (d + 1, 143, 38, [some (.ref 34), some (.int v0), none, none, none, none, none], [.int 1, .ref 46], 0, 0, (mSH, I, L))) rfl ?_
  refine mRq (s2 := (d + 1, 143, 39, [some (.ref 34), some (.int v0), none, none, none, none, none], [.int (I 46 1)], 0, 0, (mSH, I, L))) rfl (by decide) ?_
  refine mB 4 (s2 := (d + 1, 143, 43, [some (.ref 34), some (.int v0), some (.int (I 46 1)), none, none, none, none], [.int (I 46 1), .int 0, .ref 34], 0, 0, (mSH, I, L))) rfl ?_
  exact h1
theorem s_ag0b {ro : Nat → Nat × (Nat → Int32)} {Q : mPo} {d : Nat} {I : Nat → Nat → Int32} {L : Nat → Nat → Int64} {v0 ii y : Int32}  (h1 : mWP mTb_ mFT ro (d + 1, 143, 53, [some (.ref 34), some (.int v0), some (.int ii), some (.int y), some (.int 0), some (.int 0), none], [], 0, 0, (mSH, I, L)) Q) : mWP mTb_ mFT ro (d + 1, 143, 46, [some (.ref 34), some (.int v0), some (.int ii), none, none, none, none], [.int y], 0, 0, (mSH, I, L)) Q := by
  refine mB 5 (s2 := (d + 1, 143, 53, [some (.ref 34), some (.int v0), some (.int ii), some (.int y), some (.int 0), some (.int 0), none], [], 0, 0, (mSH, I, L))) rfl ?_
  exact h1
theorem s_ag1 {ro : Nat → Nat × (Nat → Int32)} {Q : mPo} {d : Nat} {I : Nat → Nat → Int32} {L : Nat → Nat → Int64} {v0 ii old top : Int32} {j : Nat} {o6 : Option Value}  (h1 : vp_in (nI j) 8) (h2 : (v0 ≤ (top + (I 36 ((nI j).toNatClampNeg)))) → mWP mTb_ mFT ro (d + 1, 143, 114, [some (.ref 34), some (.int v0), some (.int ii), some (.int old), some (.int top), some (.int (nI j)), o6], [], 0, 0, (mSH, I, L)) Q) (h3 : ¬ (v0 ≤ (top + (I 36 ((nI j).toNatClampNeg)))) → vp_in (2 + (nI j)) 20) (h4 : ¬ (v0 ≤ (top + (I 36 ((nI j).toNatClampNeg)))) → mWP mTb_ mFT ro (d + 1, 143, 79, [some (.ref 34), some (.int v0), some (.int ii), some (.int old), some (.int top), some (.int (nI j)), o6], [.int (I 46 ((2 + (nI j)).toNatClampNeg)), .int ii, .ref 34, .int old], 0, 0, (mSH, I, L)) Q) : mWP mTb_ mFT ro (d + 1, 143, 53, [some (.ref 34), some (.int v0), some (.int ii), some (.int old), some (.int top), some (.int (nI j)), o6], [], 0, 0, (mSH, I, L)) Q := by
  refine mB 5 (s2 := (d + 1, 143, 62, [some (.ref 34), some (.int v0), some (.int ii), some (.int old), some (.int top), some (.int (nI j)), o6], [.int (nI j), .ref 36, .int top, .int v0], 0, 0, (mSH, I, L))) rfl ?_
  refine mRq (s2 := (d + 1, 143, 63, [some (.ref 34), some (.int v0), some (.int ii), some (.int old), some (.int top), some (.int (nI j)), o6], [.int (I 36 ((nI j).toNatClampNeg)), .int top, .int v0], 0, 0, (mSH, I, L))) rfl (mVp_of h1) ?_
  refine mB 1 (s2 := (d + 1, 143, 64, [some (.ref 34), some (.int v0), some (.int ii), some (.int old), some (.int top), some (.int (nI j)), o6], [.int (top + (I 36 ((nI j).toNatClampNeg))), .int v0], 0, 0, (mSH, I, L))) rfl ?_
  refine mBr (s2 := (d + 1, 143, 114, [some (.ref 34), some (.int v0), some (.int ii), some (.int old), some (.int top), some (.int (nI j)), o6], [], 0, 0, (mSH, I, L))) (s3 := (d + 1, 143, 67, [some (.ref 34), some (.int v0), some (.int ii), some (.int old), some (.int top), some (.int (nI j)), o6], [], 0, 0, (mSH, I, L))) rfl (fun c0 => ?_) (fun c0 => ?_)
  · exact h2 (of_decide_eq_true c0)
  · refine mB 8 (s2 := (d + 1, 143, 78, [some (.ref 34), some (.int v0), some (.int ii), some (.int old), some (.int top), some (.int (nI j)), o6], [.int (2 + (nI j)), .ref 46, .int ii, .ref 34, .int old], 0, 0, (mSH, I, L))) rfl ?_
    refine mRq (s2 := (d + 1, 143, 79, [some (.ref 34), some (.int v0), some (.int ii), some (.int old), some (.int top), some (.int (nI j)), o6], [.int (I 46 ((2 + (nI j)).toNatClampNeg)), .int ii, .ref 34, .int old], 0, 0, (mSH, I, L))) rfl (mVp_of (h3 (of_decide_eq_false c0))) ?_
    exact h4 (of_decide_eq_false c0)
theorem s_ag2 {ro : Nat → Nat × (Nat → Int32)} {Q : mPo} {d : Nat} {I : Nat → Nat → Int32} {L : Nat → Nat → Int64} {v0 ii old top y : Int32} {j : Nat} {o6 : Option Value}  (h1 : vp_in (2 + (nI j)) 20) (h2 : vp_in (nI j) 8) (h3 : mWP mTb_ mFT ro (d + 1, 143, 53, [some (.ref 34), some (.int v0), some (.int (ii + (I 46 ((2 + (nI j)).toNatClampNeg)))), some (.int (old + y)), some (.int (top + (I 36 ((nI j).toNatClampNeg)))), some (.int ((nI j) + 1)), o6], [], 0, 0, (mSH, I, L)) Q) : mWP mTb_ mFT ro (d + 1, 143, 82, [some (.ref 34), some (.int v0), some (.int ii), some (.int old), some (.int top), some (.int (nI j)), o6], [.int y, .int old], 0, 0, (mSH, I, L)) Q := by
  refine mB 8 (s2 := (d + 1, 143, 93, [some (.ref 34), some (.int v0), some (.int ii), some (.int (old + y)), some (.int top), some (.int (nI j)), o6], [.int (2 + (nI j)), .ref 46, .int ii], 0, 0, (mSH, I, L))) rfl ?_
  refine mRq (s2 := (d + 1, 143, 94, [some (.ref 34), some (.int v0), some (.int ii), some (.int (old + y)), some (.int top), some (.int (nI j)), o6], [.int (I 46 ((2 + (nI j)).toNatClampNeg)), .int ii], 0, 0, (mSH, I, L))) rfl (mVp_of h1) ?_
  refine mB 6 (s2 := (d + 1, 143, 104, [some (.ref 34), some (.int v0), some (.int (ii + (I 46 ((2 + (nI j)).toNatClampNeg)))), some (.int (old + y)), some (.int top), some (.int (nI j)), o6], [.int (nI j), .ref 36, .int top], 0, 0, (mSH, I, L))) rfl ?_
  refine mRq (s2 := (d + 1, 143, 105, [some (.ref 34), some (.int v0), some (.int (ii + (I 46 ((2 + (nI j)).toNatClampNeg)))), some (.int (old + y)), some (.int top), some (.int (nI j)), o6], [.int (I 36 ((nI j).toNatClampNeg)), .int top], 0, 0, (mSH, I, L))) rfl (mVp_of h2) ?_
  refine mB 4 (s2 := (d + 1, 143, 53, [some (.ref 34), some (.int v0), some (.int (ii + (I 46 ((2 + (nI j)).toNatClampNeg)))), some (.int (old + y)), some (.int (top + (I 36 ((nI j).toNatClampNeg)))), some (.int ((nI j) + 1)), o6], [], 0, 0, (mSH, I, L))) rfl ?_
  exact h3
theorem s_ag3 {ro : Nat → Nat × (Nat → Int32)} {Q : mPo} {d : Nat} {I : Nat → Nat → Int32} {L : Nat → Nat → Int64} {v0 ii old top : Int32} {j : Nat} {o6 : Option Value}  (h1 : vp_in (2 + (nI j)) 20) (h2 : mWP mTb_ mFT ro (d + 1, 143, 125, [some (.ref 34), some (.int v0), some (.int ii), some (.int old), some (.int top), some (.int (nI j)), o6], [.int (I 46 ((2 + (nI j)).toNatClampNeg)), .int ii, .ref 34], 0, 0, (mSH, I, L)) Q) : mWP mTb_ mFT ro (d + 1, 143, 114, [some (.ref 34), some (.int v0), some (.int ii), some (.int old), some (.int top), some (.int (nI j)), o6], [], 0, 0, (mSH, I, L)) Q := by
  refine mB 7 (s2 := (d + 1, 143, 124, [some (.ref 34), some (.int v0), some (.int ii), some (.int old), some (.int top), some (.int (nI j)), o6], [.int (2 + (nI j)), .ref 46, .int ii, .ref 34], 0, 0, (mSH, I, L))) rfl ?_
  refine mRq (s2 := (d + 1, 143, 125, [some (.ref 34), some (.int v0), some (.int ii), some (.int old), some (.int top), some (.int (nI j)), o6], [.int (I 46 ((2 + (nI j)).toNatClampNeg)), .int ii, .ref 34], 0, 0, (mSH, I, L))) rfl (mVp_of h1) ?_
  exact h2
theorem s_ag4 {ro : Nat → Nat × (Nat → Int32)} {Q : mPo} {d : Nat} {I : Nat → Nat → Int32} {L : Nat → Nat → Int64} {v0 ii old top y : Int32} {j : Nat} {o6 : Option Value}  (h1 : vp_in (nI j) 8) (h2 : vp_in (nI j) 8) (h3 : mWP mTb_ mFT ro (d + 1, 143, 160, [some (.ref 34), some (.int v0), some (.int ii), some (.int old), some (.int top), some (.int (nI j)), some (.int y)], [.long ((I 36 ((nI j).toNatClampNeg) : Int32).toInt64), .long ((((old : Int32).toInt64) * ((I 36 ((nI j).toNatClampNeg) : Int32).toInt64)) + (((v0 - top : Int32).toInt64) * ((y : Int32).toInt64))), .ref 34], 0, 0, (mSH, I, L)) Q) : mWP mTb_ mFT ro (d + 1, 143, 128, [some (.ref 34), some (.int v0), some (.int ii), some (.int old), some (.int top), some (.int (nI j)), o6], [.int y], 0, 0, (mSH, I, L)) Q := by
  refine mB 7 (s2 := (d + 1, 143, 139, [some (.ref 34), some (.int v0), some (.int ii), some (.int old), some (.int top), some (.int (nI j)), some (.int y)], [.int (nI j), .ref 36, .long ((old : Int32).toInt64), .ref 34], 0, 0, (mSH, I, L))) rfl ?_
  refine mRq (s2 := (d + 1, 143, 140, [some (.ref 34), some (.int v0), some (.int ii), some (.int old), some (.int top), some (.int (nI j)), some (.int y)], [.int (I 36 ((nI j).toNatClampNeg)), .long ((old : Int32).toInt64), .ref 34], 0, 0, (mSH, I, L))) rfl (mVp_of h1) ?_
  refine mB 13 (s2 := (d + 1, 143, 158, [some (.ref 34), some (.int v0), some (.int ii), some (.int old), some (.int top), some (.int (nI j)), some (.int y)], [.int (nI j), .ref 36, .long ((((old : Int32).toInt64) * ((I 36 ((nI j).toNatClampNeg) : Int32).toInt64)) + (((v0 - top : Int32).toInt64) * ((y : Int32).toInt64))), .ref 34], 0, 0, (mSH, I, L))) rfl ?_
  refine mRq (s2 := (d + 1, 143, 159, [some (.ref 34), some (.int v0), some (.int ii), some (.int old), some (.int top), some (.int (nI j)), some (.int y)], [.int (I 36 ((nI j).toNatClampNeg)), .long ((((old : Int32).toInt64) * ((I 36 ((nI j).toNatClampNeg) : Int32).toInt64)) + (((v0 - top : Int32).toInt64) * ((y : Int32).toInt64))), .ref 34], 0, 0, (mSH, I, L))) rfl (mVp_of h2) ?_
  refine mB 1 (s2 := (d + 1, 143, 160, [some (.ref 34), some (.int v0), some (.int ii), some (.int old), some (.int top), some (.int (nI j)), some (.int y)], [.long ((I 36 ((nI j).toNatClampNeg) : Int32).toInt64), .long ((((old : Int32).toInt64) * ((I 36 ((nI j).toNatClampNeg) : Int32).toInt64)) + (((v0 - top : Int32).toInt64) * ((y : Int32).toInt64))), .ref 34], 0, 0, (mSH, I, L))) rfl ?_
  exact h3
theorem m_ag3 {ro : Nat → Nat × (Nat → Int32)} {Q : mPo} {d : Nat} {I : Nat → Nat → Int32} {L : Nat → Nat → Int64} {s n t : Nat} {v0 : Int32} (hm : mM s n t I) {b : Nat → Nat} {j p : Nat} (hj : j < n) (e2 : I 46 (2 + j) = nI (2 * p + 1)) (e3 : b j + (2 * p + 1) ≤ s) (hq : ∀ r L1, Q (some (.int r)) (mSH, I, L1)) {old top : Int32} {o6 : Option Value} : mWP mTb_ mFT ro (d + 1, 143, 114, [some (.ref 34), some (.int v0), some (.int (nI (b j))), some (.int (old)), some (.int (top)), some (.int (nI j)), o6], [], 0, 0, (mSH, I, L)) Q := by
  have h8 := hm.2.1.2
  have h16 := hm.1.2
  have e22 : (2 : Int32) + nI j = nI (2 + j) := nI_add 2 j
  have c22 : ((2 : Int32) + nI j).toNatClampNeg = 2 + j := by rw [e22, nI_clamp (by omega)]
  have v22 : vp_in ((2 : Int32) + nI j) 20 := by rw [e22]; exact vp_in_nI (by omega) (by omega)
  have v8 : vp_in (nI j) 8 := vp_in_nI (by omega) (by omega)
  refine s_ag3 v22 ?_
  rw [c22, e2]
  refine mCall (s2 := (d, 124, 0, [some (.ref 34), some (.int (nI (b j))), some (.int (nI (2 * p + 1))), none, none], [], 0, 0, (mSH, I, L))) rfl ?_
  refine w_my (by omega) ?_
  show mWP mTb_ mFT ro (d + 1, 143, 128, [some (.ref 34), some (.int v0), some (.int (nI (b j))), some (.int (old)), some (.int (top)), some (.int (nI j)), o6], [.int (mYs I (b j) (2 * p + 1))], 0, 0, (mSH, I, L)) _
  refine s_ag4 v8 v8 ?_
  rw [nI_clamp (n := j) (by omega)]
  refine mCall (s2 := (d, 141, 0, [some (.ref 34), some (.long _), none, some (.long (I 36 j).toInt64), none, none, none, none, none, none, none], [], 0, 0, (mSH, I, L))) rfl ?_
  refine w_bec (Or.inr (mNZ (hm.2.2.2.2.1 j hj).1)) (fun L1 => ?_)
  exact mRt (r := some (.int 1)) (h := (mSH, I, L1)) rfl (mRet_int rfl) (hq _ _)
theorem l_age {ro : Nat → Nat × (Nat → Int32)} {Q : mPo} {d : Nat} {I : Nat → Nat → Int32} {L : Nat → Nat → Int64} {s n t : Nat} {v0 : Int32} (hm : mM s n t I) {b : Nat → Nat} (hb : ∀ k, k < n → ∃ p, p ≤ 2 ∧ I 46 (2 + k) = nI (2 * p + 1) ∧ b (k + 1) = b k + (2 * p + 1) ∧ b (k + 1) ≤ s) (hd : ¬ mLs I n < v0) (hq : ∀ r L1, Q (some (.int r)) (mSH, I, L1)) : ∀ (e j : Nat), j + e + 1 = n → ∀ (old : Int32) (o6 : Option Value), mWP mTb_ mFT ro (d + 1, 143, 53, [some (.ref 34), some (.int v0), some (.int (nI (b j))), some (.int (old)), some (.int (mLs I j)), some (.int (nI j)), o6], [], 0, 0, (mSH, I, L)) Q := by
  have h8 := hm.2.1.2
  have h16 := hm.1.2
  intro e
  induction e with
  | zero =>
    intro j he old o6
    obtain ⟨p, a1, a2, a3, a4⟩ := hb j (by omega)
    refine s_ag1 (vp_in_nI (by omega) (by omega)) (fun _ => m_ag3 hm (by omega) a2 (by omega) hq) (fun c => ?_) (fun c => ?_)
    all_goals
      exfalso
      rw [nI_clamp (by omega)] at c
      have en : j + 1 = n := by omega
      subst en
      apply hd
      show mLs I j + I 36 j < v0
      simp only [Int32.le_iff_toInt_le, Int32.lt_iff_toInt_lt] at *
      omega
  | succ e ih =>
    intro j he old o6
    obtain ⟨p, a1, a2, a3, a4⟩ := hb j (by omega)
    have e22 : (2 : Int32) + nI j = nI (2 + j) := nI_add 2 j
    have c22 : ((2 : Int32) + nI j).toNatClampNeg = 2 + j := by rw [e22, nI_clamp (by omega)]
    have v22 : vp_in ((2 : Int32) + nI j) 20 := by rw [e22]; exact vp_in_nI (by omega) (by omega)
    refine s_ag1 (vp_in_nI (by omega) (by omega)) (fun _ => m_ag3 hm (by omega) a2 (by omega) hq) (fun _ => v22) (fun _ => ?_)
    rw [c22, a2]
    refine mCall (s2 := (d, 124, 0, [some (.ref 34), some (.int (nI (b j))), some (.int (nI (2 * p + 1))), none, none], [], 0, 0, (mSH, I, L))) rfl ?_
    refine w_my (by omega) ?_
    show mWP mTb_ mFT ro (d + 1, 143, 82, [some (.ref 34), some (.int v0), some (.int (nI (b j))), some (.int (old)), some (.int (mLs I j)), some (.int (nI j)), o6], [.int (mYs I (b j) (2 * p + 1)), .int old], 0, 0, (mSH, I, L)) _
    refine s_ag2 v22 (vp_in_nI (by omega) (by omega)) ?_
    rw [c22, a2, nI_clamp (n := j) (by omega), nI_add, nI_1, ← a3]
    exact ih (j + 1) (by omega) _ _
theorem m_age1 {ro : Nat → Nat × (Nat → Int32)} {Q : mPo} {d : Nat} {I : Nat → Nat → Int32} {L : Nat → Nat → Int64} {s n t : Nat} {v0 : Int32} (hm : mM s n t I) (hv : mVal s n I) (hn : 0 < n) (hd : ¬ mLs I n < v0) (hq : ∀ r L1, Q (some (.int r)) (mSH, I, L1)) : mWP mTb_ mFT ro (d + 1, 143, 33, [some (.ref 34), some (.int v0), none, none, none, none, none], [], 0, 0, (mSH, I, L)) Q := by
  obtain ⟨b, e1, e2, e3⟩ := hv
  refine s_ag0 ?_
  rw [e1]
  refine mCall (s2 := (d, 124, 0, [some (.ref 34), some (.int (nI (0))), some (.int (nI (b 0))), none, none], [], 0, 0, (mSH, I, L))) rfl ?_
  refine w_my (by have := hm.1.2; omega) ?_
  show mWP mTb_ mFT ro (d + 1, 143, 46, [some (.ref 34), some (.int v0), some (.int (nI (b 0))), none, none, none, none], [.int (mYs I 0 (b 0))], 0, 0, (mSH, I, L)) _
  refine s_ag0b ?_
  exact l_age hm e3 hd hq (n - 1) 0 (by omega) _ _
theorem m_age {ro : Nat → Nat × (Nat → Int32)} {Q : mPo} {d : Nat} {I : Nat → Nat → Int32} {L : Nat → Nat → Int64} {s n t : Nat} {v0 : Int32} (hm : mM s n t I) (hq : ∀ r I1 L1, mTx I I1 → mIM I1 → Q (some (.int r)) (mSH, I1, L1))   : mWP mTb_ mFT ro (d + 5, 143, 0, [some (.ref 34), some (.int v0), none, none, none, none, none], [], 0, 0, (mSH, I, L)) Q := by
  refine mB 3 (s2 := (d + 5, 143, 3, [some (.ref 34), some (.int v0), none, none, none, none, none], [.ref 34, .int 0, .int v0], 0, 0, (mSH, I, L))) rfl ?_
  refine mCall (s2 := (d + 4, 142, 0, [some (.ref 34), none, none], [], 0, 0, (mSH, I, L))) rfl ?_
  refine w_deep hm ?_
  show mWP mTb_ mFT ro (d + 5, 143, 6, [some (.ref 34), some (.int v0), none, none, none, none, none], [.int (mLs I n), .int 0, .int v0], 0, 0, (mSH, I, L)) _
  refine mCall (s2 := (d + 4, 112, 0, [some (.int v0), some (.int 0), some (.int (mLs I n))], [], 0, 0, (mSH, I, L))) rfl ?_
  refine mB 2 (s2 := (d + 4, 112, 2, [some (.int v0), some (.int 0), some (.int (mLs I n))], [.int 0, .int v0], 0, 0, (mSH, I, L))) rfl ?_
  refine mBr (s2 := (d + 4, 112, 14, [some (.int v0), some (.int 0), some (.int (mLs I n))], [], 0, 0, (mSH, I, L))) (s3 := (d + 4, 112, 5, [some (.int v0), some (.int 0), some (.int (mLs I n))], [], 0, 0, (mSH, I, L))) rfl (fun c0 => ?_) (fun c0 => ?_)
  · refine mB 1 (s2 := (d + 4, 112, 15, [some (.int v0), some (.int 0), some (.int (mLs I n))], [.int 0], 0, 0, (mSH, I, L))) rfl ?_
    refine mRt (r := (some (.int 0))) (h := (mSH, I, L)) rfl rfl ?_
    show mWP mTb_ mFT ro (d + 5, 143, 9, [some (.ref 34), some (.int v0), none, none, none, none, none], [.int 0], 0, 0, (mSH, I, L)) _
    refine mBT (s2 := (d + 5, 143, 12, [some (.ref 34), some (.int v0), none, none, none, none, none], [], 0, 0, (mSH, I, L))) rfl (by decide) ?_
    refine mB 2 (s2 := (d + 5, 143, 15, [some (.ref 34), some (.int v0), none, none, none, none, none], [.int (-2), .ref 34], 0, 0, (mSH, I, L))) rfl ?_
    refine mCall (s2 := (d + 4, 113, 0, [some (.ref 34), some (.int (-2))], [], 0, 0, (mSH, I, L))) rfl ?_
    refine mB 6 (s2 := (d + 4, 113, 9, [some (.ref 34), some (.int (-2))], [.int 0, .ref 39, .int 0, .ref 39], 0, 0, (mSH, I, L))) rfl ?_
    refine mRq (s2 := (d + 4, 113, 10, [some (.ref 34), some (.int (-2))], [.int (I 39 0), .int 0, .ref 39], 0, 0, (mSH, I, L))) rfl (by decide) ?_
    refine mB 2 (s2 := (d + 4, 113, 12, [some (.ref 34), some (.int (-2))], [.int ((I 39 0) + 1), .int 0, .ref 39], 0, 0, (mSH, I, L))) rfl ?_
    refine mRq (s2 := (d + 4, 113, 13, [some (.ref 34), some (.int (-2))], [], 0, 0, (mSH, (mUp I 39 0 ((I 39 0) + 1)), L))) rfl (by decide) ?_
    refine mB 1 (s2 := (d + 4, 113, 14, [some (.ref 34), some (.int (-2))], [.int (-2)], 0, 0, (mSH, (mUp I 39 0 ((I 39 0) + 1)), L))) rfl ?_
    refine mRt (r := (some (.int (-2)))) (h := (mSH, (mUp I 39 0 ((I 39 0) + 1)), L)) rfl (mRet_int rfl) ?_
    show mWP mTb_ mFT ro (d + 5, 143, 18, [some (.ref 34), some (.int v0), none, none, none, none, none], [.int (-2)], 0, 0, (mSH, (mUp I 39 0 ((I 39 0) + 1)), L)) _
    refine mRt (r := (some (.int (-2)))) (h := (mSH, (mUp I 39 0 ((I 39 0) + 1)), L)) rfl (mRet_int rfl) ?_
    exact hq _ _ _ ((mGr.up (by rfl) mGr.rf)).x ⟨s, n, t, ((mGr.up (by rfl) mGr.rf)).m hm⟩
  · refine mB 2 (s2 := (d + 4, 112, 7, [some (.int v0), some (.int 0), some (.int (mLs I n))], [.int (mLs I n), .int v0], 0, 0, (mSH, I, L))) rfl ?_
    refine mBr (s2 := (d + 4, 112, 14, [some (.int v0), some (.int 0), some (.int (mLs I n))], [], 0, 0, (mSH, I, L))) (s3 := (d + 4, 112, 10, [some (.int v0), some (.int 0), some (.int (mLs I n))], [], 0, 0, (mSH, I, L))) rfl (fun c1 => ?_) (fun c1 => ?_)
    · refine mB 1 (s2 := (d + 4, 112, 15, [some (.int v0), some (.int 0), some (.int (mLs I n))], [.int 0], 0, 0, (mSH, I, L))) rfl ?_
      refine mRt (r := (some (.int 0))) (h := (mSH, I, L)) rfl rfl ?_
      show mWP mTb_ mFT ro (d + 5, 143, 9, [some (.ref 34), some (.int v0), none, none, none, none, none], [.int 0], 0, 0, (mSH, I, L)) _
      refine mBT (s2 := (d + 5, 143, 12, [some (.ref 34), some (.int v0), none, none, none, none, none], [], 0, 0, (mSH, I, L))) rfl (by decide) ?_
      refine mB 2 (s2 := (d + 5, 143, 15, [some (.ref 34), some (.int v0), none, none, none, none, none], [.int (-2), .ref 34], 0, 0, (mSH, I, L))) rfl ?_
      refine mCall (s2 := (d + 4, 113, 0, [some (.ref 34), some (.int (-2))], [], 0, 0, (mSH, I, L))) rfl ?_
      refine mB 6 (s2 := (d + 4, 113, 9, [some (.ref 34), some (.int (-2))], [.int 0, .ref 39, .int 0, .ref 39], 0, 0, (mSH, I, L))) rfl ?_
      refine mRq (s2 := (d + 4, 113, 10, [some (.ref 34), some (.int (-2))], [.int (I 39 0), .int 0, .ref 39], 0, 0, (mSH, I, L))) rfl (by decide) ?_
      refine mB 2 (s2 := (d + 4, 113, 12, [some (.ref 34), some (.int (-2))], [.int ((I 39 0) + 1), .int 0, .ref 39], 0, 0, (mSH, I, L))) rfl ?_
      refine mRq (s2 := (d + 4, 113, 13, [some (.ref 34), some (.int (-2))], [], 0, 0, (mSH, (mUp I 39 0 ((I 39 0) + 1)), L))) rfl (by decide) ?_
      refine mB 1 (s2 := (d + 4, 113, 14, [some (.ref 34), some (.int (-2))], [.int (-2)], 0, 0, (mSH, (mUp I 39 0 ((I 39 0) + 1)), L))) rfl ?_
      refine mRt (r := (some (.int (-2)))) (h := (mSH, (mUp I 39 0 ((I 39 0) + 1)), L)) rfl (mRet_int rfl) ?_
      show mWP mTb_ mFT ro (d + 5, 143, 18, [some (.ref 34), some (.int v0), none, none, none, none, none], [.int (-2)], 0, 0, (mSH, (mUp I 39 0 ((I 39 0) + 1)), L)) _
      refine mRt (r := (some (.int (-2)))) (h := (mSH, (mUp I 39 0 ((I 39 0) + 1)), L)) rfl (mRet_int rfl) ?_
      exact hq _ _ _ ((mGr.up (by rfl) mGr.rf)).x ⟨s, n, t, ((mGr.up (by rfl) mGr.rf)).m hm⟩
    · refine mB 2 (s2 := (d + 4, 112, 15, [some (.int v0), some (.int 0), some (.int (mLs I n))], [.int 1], 0, 0, (mSH, I, L))) rfl ?_
      refine mRt (r := (some (.int 1))) (h := (mSH, I, L)) rfl rfl ?_
      show mWP mTb_ mFT ro (d + 5, 143, 9, [some (.ref 34), some (.int v0), none, none, none, none, none], [.int 1], 0, 0, (mSH, I, L)) _
      refine mBF (s3 := (d + 5, 143, 19, [some (.ref 34), some (.int v0), none, none, none, none, none], [], 0, 0, (mSH, I, L))) rfl (by decide) ?_
      refine mB 1 (s2 := (d + 5, 143, 20, [some (.ref 34), some (.int v0), none, none, none, none, none], [.ref 34], 0, 0, (mSH, I, L))) rfl ?_
      refine mCall (s2 := (d + 4, 132, 0, [some (.ref 34)], [], 0, 0, (mSH, I, L))) rfl ?_
      refine w_isf hm ?_ ?_
      · intro K1 gK1
        show mWP mTb_ mFT ro (d + 5, 143, 23, [some (.ref 34), some (.int v0), none, none, none, none, none], [.int 0], 0, 0, (mSH, K1, L)) _
        refine mBT (s2 := (d + 5, 143, 26, [some (.ref 34), some (.int v0), none, none, none, none, none], [], 0, 0, (mSH, K1, L))) rfl (by decide) ?_
        refine mB 2 (s2 := (d + 5, 143, 29, [some (.ref 34), some (.int v0), none, none, none, none, none], [.int (-3), .ref 34], 0, 0, (mSH, K1, L))) rfl ?_
        refine mCall (s2 := (d + 4, 113, 0, [some (.ref 34), some (.int (-3))], [], 0, 0, (mSH, K1, L))) rfl ?_
        refine mB 6 (s2 := (d + 4, 113, 9, [some (.ref 34), some (.int (-3))], [.int 1, .ref 39, .int 1, .ref 39], 0, 0, (mSH, K1, L))) rfl ?_
        refine mRq (s2 := (d + 4, 113, 10, [some (.ref 34), some (.int (-3))], [.int (K1 39 1), .int 1, .ref 39], 0, 0, (mSH, K1, L))) rfl (by decide) ?_
        refine mB 2 (s2 := (d + 4, 113, 12, [some (.ref 34), some (.int (-3))], [.int ((K1 39 1) + 1), .int 1, .ref 39], 0, 0, (mSH, K1, L))) rfl ?_
        refine mRq (s2 := (d + 4, 113, 13, [some (.ref 34), some (.int (-3))], [], 0, 0, (mSH, (mUp K1 39 1 ((K1 39 1) + 1)), L))) rfl (by decide) ?_
        refine mB 1 (s2 := (d + 4, 113, 14, [some (.ref 34), some (.int (-3))], [.int (-3)], 0, 0, (mSH, (mUp K1 39 1 ((K1 39 1) + 1)), L))) rfl ?_
        refine mRt (r := (some (.int (-3)))) (h := (mSH, (mUp K1 39 1 ((K1 39 1) + 1)), L)) rfl (mRet_int rfl) ?_
        show mWP mTb_ mFT ro (d + 5, 143, 32, [some (.ref 34), some (.int v0), none, none, none, none, none], [.int (-3)], 0, 0, (mSH, (mUp K1 39 1 ((K1 39 1) + 1)), L)) _
        refine mRt (r := (some (.int (-3)))) (h := (mSH, (mUp K1 39 1 ((K1 39 1) + 1)), L)) rfl (mRet_int rfl) ?_
        exact hq _ _ _ ((mGr.up (by rfl) gK1)).x ⟨s, n, t, ((mGr.up (by rfl) gK1)).m hm⟩
      · intro K1 gK1 vK1 pK1
        show mWP mTb_ mFT ro (d + 5, 143, 23, [some (.ref 34), some (.int v0), none, none, none, none, none], [.int 1], 0, 0, (mSH, K1, L)) _
        refine mBF (s3 := (d + 5, 143, 33, [some (.ref 34), some (.int v0), none, none, none, none, none], [], 0, 0, (mSH, K1, L))) rfl (by decide) ?_
        exact m_age1 (gK1.m hm) vK1 pK1 (by rw [mLs_eq (gK1.1 36 rfl)]; exact (of_decide_eq_false c1)) (fun r L1 => hq _ _ _ (gK1).x ⟨s, n, t, (gK1).m hm⟩)
