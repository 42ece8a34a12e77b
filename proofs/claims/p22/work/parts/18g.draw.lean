/-! The class draws. Written by a program (wip/mk_c.py). -/
theorem s_drawSpans {ro : Nat → Nat × (Nat → Int32)} {Q : mPo} {d : Nat} {I : Nat → Nat → Int32} {L : Nat → Nat → Int64} {sd n k : Int32} {x : Int64}  (h1 : (n ≤ k) → Q (some (.long x)) (mSH, I, L)) (h2 : ¬ (n ≤ k) → ((I 2 1) < 16) → vp_in (I 2 1) 16) (h3 : ¬ (n ≤ k) → ((I 2 1) < 16) → mWP mTb_ mFT ro (d + 2, 72, 14, [some (.ref 1), some (.int sd), some (.int n), some (.long (((x * 1103515245) + 12345) - ((x * 1103515245) + 12345) / 2147483648 * 2147483648)), none, some (.int (k + 1))], [], 0, 0, (mSH, (mUp (mUp I 3 ((I 2 1).toNatClampNeg) (((((((x * 1103515245) + 12345) - ((x * 1103515245) + 12345) / 2147483648 * 2147483648) / 65536) - ((((x * 1103515245) + 12345) - ((x * 1103515245) + 12345) / 2147483648 * 2147483648) / 65536) / 20 * 20 : Int64).toInt32) + 1)) 2 1 ((I 2 1) + 1)), L)) Q) (h4 : ¬ (n ≤ k) → ¬ ((I 2 1) < 16) → mWP mTb_ mFT ro (d + 2, 72, 14, [some (.ref 1), some (.int sd), some (.int n), some (.long (((x * 1103515245) + 12345) - ((x * 1103515245) + 12345) / 2147483648 * 2147483648)), none, some (.int (k + 1))], [], 0, 0, (mSH, I, L)) Q) : mWP mTb_ mFT ro (d + 2, 72, 14, [some (.ref 1), some (.int sd), some (.int n), some (.long x), none, some (.int k)], [], 0, 0, (mSH, I, L)) Q := by
  refine mB 2 (s2 := (d + 2, 72, 17, [some (.ref 1), some (.int sd), some (.int n), some (.long x), none, some (.int k)], [.int n, .int k], 0, 0, (mSH, I, L))) rfl ?_
  refine mBr (s2 := (d + 2, 72, 50, [some (.ref 1), some (.int sd), some (.int n), some (.long x), none, some (.int k)], [], 0, 0, (mSH, I, L))) (s3 := (d + 2, 72, 20, [some (.ref 1), some (.int sd), some (.int n), some (.long x), none, some (.int k)], [], 0, 0, (mSH, I, L))) rfl (fun c0 => ?_) (fun c0 => ?_)
  · refine mB 1 (s2 := (d + 2, 72, 51, [some (.ref 1), some (.int sd), some (.int n), some (.long x), none, some (.int k)], [.long x], 0, 0, (mSH, I, L))) rfl ?_
    refine mRt (r := (some (.long x))) (h := (mSH, I, L)) rfl rfl ?_
    exact h1 (of_decide_eq_true c0)
  · refine mB 1 (s2 := (d + 2, 72, 21, [some (.ref 1), some (.int sd), some (.int n), some (.long x), none, some (.int k)], [.long x], 0, 0, (mSH, I, L))) rfl ?_
    refine mCall (s2 := (d + 1, 74, 0, [some (.long x), none], [], 0, 0, (mSH, I, L))) rfl ?_
    refine mB 6 (s2 := (d + 1, 74, 12, [some (.long x), none], [.long 2147483648, .long ((x * 1103515245) + 12345)], 0, 0, (mSH, I, L))) rfl ?_
    refine mRq (s2 := (d + 1, 74, 13, [some (.long x), none], [.long (((x * 1103515245) + 12345) - ((x * 1103515245) + 12345) / 2147483648 * 2147483648)], 0, 0, (mSH, I, L))) rfl (by decide) ?_
    refine mRt (r := (some (.long (((x * 1103515245) + 12345) - ((x * 1103515245) + 12345) / 2147483648 * 2147483648)))) (h := (mSH, I, L)) rfl rfl ?_
    show mWP mTb_ mFT ro (d + 2, 72, 24, [some (.ref 1), some (.int sd), some (.int n), some (.long x), none, some (.int k)], [.long (((x * 1103515245) + 12345) - ((x * 1103515245) + 12345) / 2147483648 * 2147483648)], 0, 0, (mSH, I, L)) _
    refine mB 5 (s2 := (d + 2, 72, 33, [some (.ref 1), some (.int sd), some (.int n), some (.long (((x * 1103515245) + 12345) - ((x * 1103515245) + 12345) / 2147483648 * 2147483648)), none, some (.int k)], [.long 65536, .long (((x * 1103515245) + 12345) - ((x * 1103515245) + 12345) / 2147483648 * 2147483648), .ref 2], 0, 0, (mSH, I, L))) rfl ?_
    refine mRq (s2 := (d + 2, 72, 34, [some (.ref 1), some (.int sd), some (.int n), some (.long (((x * 1103515245) + 12345) - ((x * 1103515245) + 12345) / 2147483648 * 2147483648)), none, some (.int k)], [.long ((((x * 1103515245) + 12345) - ((x * 1103515245) + 12345) / 2147483648 * 2147483648) / 65536), .ref 2], 0, 0, (mSH, I, L))) rfl (by decide) ?_
    refine mB 1 (s2 := (d + 2, 72, 37, [some (.ref 1), some (.int sd), some (.int n), some (.long (((x * 1103515245) + 12345) - ((x * 1103515245) + 12345) / 2147483648 * 2147483648)), none, some (.int k)], [.long 20, .long ((((x * 1103515245) + 12345) - ((x * 1103515245) + 12345) / 2147483648 * 2147483648) / 65536), .ref 2], 0, 0, (mSH, I, L))) rfl ?_
    refine mRq (s2 := (d + 2, 72, 38, [some (.ref 1), some (.int sd), some (.int n), some (.long (((x * 1103515245) + 12345) - ((x * 1103515245) + 12345) / 2147483648 * 2147483648)), none, some (.int k)], [.long (((((x * 1103515245) + 12345) - ((x * 1103515245) + 12345) / 2147483648 * 2147483648) / 65536) - ((((x * 1103515245) + 12345) - ((x * 1103515245) + 12345) / 2147483648 * 2147483648) / 65536) / 20 * 20), .ref 2], 0, 0, (mSH, I, L))) rfl (by decide) ?_
    refine mB 3 (s2 := (d + 2, 72, 41, [some (.ref 1), some (.int sd), some (.int n), some (.long (((x * 1103515245) + 12345) - ((x * 1103515245) + 12345) / 2147483648 * 2147483648)), none, some (.int k)], [.int (((((((x * 1103515245) + 12345) - ((x * 1103515245) + 12345) / 2147483648 * 2147483648) / 65536) - ((((x * 1103515245) + 12345) - ((x * 1103515245) + 12345) / 2147483648 * 2147483648) / 65536) / 20 * 20 : Int64).toInt32) + 1), .ref 2], 0, 0, (mSH, I, L))) rfl ?_
    refine mCall (s2 := (d + 1, 44, 0, [some (.ref 2), some (.int (((((((x * 1103515245) + 12345) - ((x * 1103515245) + 12345) / 2147483648 * 2147483648) / 65536) - ((((x * 1103515245) + 12345) - ((x * 1103515245) + 12345) / 2147483648 * 2147483648) / 65536) / 20 * 20 : Int64).toInt32) + 1))], [], 0, 0, (mSH, I, L))) rfl ?_
    refine mB 1 (s2 := (d + 1, 44, 1, [some (.ref 2), some (.int (((((((x * 1103515245) + 12345) - ((x * 1103515245) + 12345) / 2147483648 * 2147483648) / 65536) - ((((x * 1103515245) + 12345) - ((x * 1103515245) + 12345) / 2147483648 * 2147483648) / 65536) / 20 * 20 : Int64).toInt32) + 1))], [.ref 2], 0, 0, (mSH, I, L))) rfl ?_
    refine mCall (s2 := (d, 40, 0, [some (.ref 2)], [], 0, 0, (mSH, I, L))) rfl ?_
    refine mB 5 (s2 := (d, 40, 9, [some (.ref 2)], [.int 16, .int (I 2 1)], 0, 0, (mSH, I, L))) rfl ?_
    refine mBr (s2 := (d, 40, 16, [some (.ref 2)], [], 0, 0, (mSH, I, L))) (s3 := (d, 40, 12, [some (.ref 2)], [], 0, 0, (mSH, I, L))) rfl (fun c1 => ?_) (fun c1 => ?_)
    · refine mB 1 (s2 := (d, 40, 17, [some (.ref 2)], [.int 0], 0, 0, (mSH, I, L))) rfl ?_
      refine mRt (r := (some (.int 0))) (h := (mSH, I, L)) rfl rfl ?_
      show mWP mTb_ mFT ro (d + 1, 44, 4, [some (.ref 2), some (.int (((((((x * 1103515245) + 12345) - ((x * 1103515245) + 12345) / 2147483648 * 2147483648) / 65536) - ((((x * 1103515245) + 12345) - ((x * 1103515245) + 12345) / 2147483648 * 2147483648) / 65536) / 20 * 20 : Int64).toInt32) + 1))], [.int 0], 0, 0, (mSH, I, L)) _
      refine mBT (s2 := (d + 1, 44, 7, [some (.ref 2), some (.int (((((((x * 1103515245) + 12345) - ((x * 1103515245) + 12345) / 2147483648 * 2147483648) / 65536) - ((((x * 1103515245) + 12345) - ((x * 1103515245) + 12345) / 2147483648 * 2147483648) / 65536) / 20 * 20 : Int64).toInt32) + 1))], [], 0, 0, (mSH, I, L))) rfl (by decide) ?_
      refine mB 5 (s2 := (d + 1, 44, 16, [some (.ref 2), some (.int (((((((x * 1103515245) + 12345) - ((x * 1103515245) + 12345) / 2147483648 * 2147483648) / 65536) - ((((x * 1103515245) + 12345) - ((x * 1103515245) + 12345) / 2147483648 * 2147483648) / 65536) / 20 * 20 : Int64).toInt32) + 1))], [.int (((((((x * 1103515245) + 12345) - ((x * 1103515245) + 12345) / 2147483648 * 2147483648) / 65536) - ((((x * 1103515245) + 12345) - ((x * 1103515245) + 12345) / 2147483648 * 2147483648) / 65536) / 20 * 20 : Int64).toInt32) + 1), .int (I 2 1), .ref 3], 0, 0, (mSH, I, L))) rfl ?_
      refine mRq (s2 := (d + 1, 44, 17, [some (.ref 2), some (.int (((((((x * 1103515245) + 12345) - ((x * 1103515245) + 12345) / 2147483648 * 2147483648) / 65536) - ((((x * 1103515245) + 12345) - ((x * 1103515245) + 12345) / 2147483648 * 2147483648) / 65536) / 20 * 20 : Int64).toInt32) + 1))], [], 0, 0, (mSH, (mUp I 3 ((I 2 1).toNatClampNeg) (((((((x * 1103515245) + 12345) - ((x * 1103515245) + 12345) / 2147483648 * 2147483648) / 65536) - ((((x * 1103515245) + 12345) - ((x * 1103515245) + 12345) / 2147483648 * 2147483648) / 65536) / 20 * 20 : Int64).toInt32) + 1)), L))) rfl (mVp_of (h2 (of_decide_eq_false c0) (of_decide_eq_true c1))) ?_
      refine mB 6 (s2 := (d + 1, 44, 27, [some (.ref 2), some (.int (((((((x * 1103515245) + 12345) - ((x * 1103515245) + 12345) / 2147483648 * 2147483648) / 65536) - ((((x * 1103515245) + 12345) - ((x * 1103515245) + 12345) / 2147483648 * 2147483648) / 65536) / 20 * 20 : Int64).toInt32) + 1))], [], 0, 0, (mSH, (mUp (mUp I 3 ((I 2 1).toNatClampNeg) (((((((x * 1103515245) + 12345) - ((x * 1103515245) + 12345) / 2147483648 * 2147483648) / 65536) - ((((x * 1103515245) + 12345) - ((x * 1103515245) + 12345) / 2147483648 * 2147483648) / 65536) / 20 * 20 : Int64).toInt32) + 1)) 2 1 ((I 2 1) + 1)), L))) rfl ?_
      refine mRt (r := none) (h := (mSH, (mUp (mUp I 3 ((I 2 1).toNatClampNeg) (((((((x * 1103515245) + 12345) - ((x * 1103515245) + 12345) / 2147483648 * 2147483648) / 65536) - ((((x * 1103515245) + 12345) - ((x * 1103515245) + 12345) / 2147483648 * 2147483648) / 65536) / 20 * 20 : Int64).toInt32) + 1)) 2 1 ((I 2 1) + 1)), L)) rfl rfl ?_
      show mWP mTb_ mFT ro (d + 2, 72, 44, [some (.ref 1), some (.int sd), some (.int n), some (.long (((x * 1103515245) + 12345) - ((x * 1103515245) + 12345) / 2147483648 * 2147483648)), none, some (.int k)], [], 0, 0, (mSH, (mUp (mUp I 3 ((I 2 1).toNatClampNeg) (((((((x * 1103515245) + 12345) - ((x * 1103515245) + 12345) / 2147483648 * 2147483648) / 65536) - ((((x * 1103515245) + 12345) - ((x * 1103515245) + 12345) / 2147483648 * 2147483648) / 65536) / 20 * 20 : Int64).toInt32) + 1)) 2 1 ((I 2 1) + 1)), L)) _
      refine mB 2 (s2 := (d + 2, 72, 14, [some (.ref 1), some (.int sd), some (.int n), some (.long (((x * 1103515245) + 12345) - ((x * 1103515245) + 12345) / 2147483648 * 2147483648)), none, some (.int (k + 1))], [], 0, 0, (mSH, (mUp (mUp I 3 ((I 2 1).toNatClampNeg) (((((((x * 1103515245) + 12345) - ((x * 1103515245) + 12345) / 2147483648 * 2147483648) / 65536) - ((((x * 1103515245) + 12345) - ((x * 1103515245) + 12345) / 2147483648 * 2147483648) / 65536) / 20 * 20 : Int64).toInt32) + 1)) 2 1 ((I 2 1) + 1)), L))) rfl ?_
      exact h3 (of_decide_eq_false c0) (of_decide_eq_true c1)
    · refine mB 2 (s2 := (d, 40, 17, [some (.ref 2)], [.int 1], 0, 0, (mSH, I, L))) rfl ?_
      refine mRt (r := (some (.int 1))) (h := (mSH, I, L)) rfl rfl ?_
      show mWP mTb_ mFT ro (d + 1, 44, 4, [some (.ref 2), some (.int (((((((x * 1103515245) + 12345) - ((x * 1103515245) + 12345) / 2147483648 * 2147483648) / 65536) - ((((x * 1103515245) + 12345) - ((x * 1103515245) + 12345) / 2147483648 * 2147483648) / 65536) / 20 * 20 : Int64).toInt32) + 1))], [.int 1], 0, 0, (mSH, I, L)) _
      refine mBF (s3 := (d + 1, 44, 27, [some (.ref 2), some (.int (((((((x * 1103515245) + 12345) - ((x * 1103515245) + 12345) / 2147483648 * 2147483648) / 65536) - ((((x * 1103515245) + 12345) - ((x * 1103515245) + 12345) / 2147483648 * 2147483648) / 65536) / 20 * 20 : Int64).toInt32) + 1))], [], 0, 0, (mSH, I, L))) rfl (by decide) ?_
      refine mRt (r := none) (h := (mSH, I, L)) rfl rfl ?_
      show mWP mTb_ mFT ro (d + 2, 72, 44, [some (.ref 1), some (.int sd), some (.int n), some (.long (((x * 1103515245) + 12345) - ((x * 1103515245) + 12345) / 2147483648 * 2147483648)), none, some (.int k)], [], 0, 0, (mSH, I, L)) _
      refine mB 2 (s2 := (d + 2, 72, 14, [some (.ref 1), some (.int sd), some (.int n), some (.long (((x * 1103515245) + 12345) - ((x * 1103515245) + 12345) / 2147483648 * 2147483648)), none, some (.int (k + 1))], [], 0, 0, (mSH, I, L))) rfl ?_
      exact h4 (of_decide_eq_false c0) (of_decide_eq_false c1)
theorem s_drawLayers {ro : Nat → Nat × (Nat → Int32)} {Q : mPo} {d : Nat} {I : Nat → Nat → Int32} {L : Nat → Nat → Int64} {dr x : Int64} {i j : Int32} {o7 o8 : Option Value} (n2 : mCn I 2 16) (h1 : ((8 : Int32) ≤ j) → Q none (mSH, I, L)) (h2 : ¬ ((8 : Int32) ≤ j) → ((I 2 1) ≤ i) → Q none (mSH, I, L)) (h3 : ¬ ((8 : Int32) ≤ j) → ¬ ((I 2 1) ≤ i) → ((lg_cmp (((((x * 1103515245) + 12345) - ((x * 1103515245) + 12345) / 2147483648 * 2147483648) / 65536) - ((((x * 1103515245) + 12345) - ((x * 1103515245) + 12345) / 2147483648 * 2147483648) / 65536) / 4 * 4) 0) = 0) → (((I 2 1) - i) < 3) → ((I 4 1) < 8) → vp_in (I 4 1) 8) (h4 : ¬ ((8 : Int32) ≤ j) → ¬ ((I 2 1) ≤ i) → ((lg_cmp (((((x * 1103515245) + 12345) - ((x * 1103515245) + 12345) / 2147483648 * 2147483648) / 65536) - ((((x * 1103515245) + 12345) - ((x * 1103515245) + 12345) / 2147483648 * 2147483648) / 65536) / 4 * 4) 0) = 0) → (((I 2 1) - i) < 3) → ((I 4 1) < 8) → mWP mTb_ mFT ro (d + 2, 73, 16, [some (.ref 1), some (.long dr), none, some (.long (((x * 1103515245) + 12345) - ((x * 1103515245) + 12345) / 2147483648 * 2147483648)), none, some (.int (i + 1)), some (.int (j + 1)), some (.int 0), some (.int 1)], [], 0, 0, (mSH, (mUp (mUp I 5 ((I 4 1).toNatClampNeg) ((0 + (mAt I 2 3 (i + 0))) + ((((((x * 1103515245) + 12345) - ((x * 1103515245) + 12345) / 2147483648 * 2147483648) / 1024) - ((((x * 1103515245) + 12345) - ((x * 1103515245) + 12345) / 2147483648 * 2147483648) / 1024) / 3 * 3 : Int64).toInt32))) 4 1 ((I 4 1) + 1)), L)) Q) (h5 : ¬ ((8 : Int32) ≤ j) → ¬ ((I 2 1) ≤ i) → ((lg_cmp (((((x * 1103515245) + 12345) - ((x * 1103515245) + 12345) / 2147483648 * 2147483648) / 65536) - ((((x * 1103515245) + 12345) - ((x * 1103515245) + 12345) / 2147483648 * 2147483648) / 65536) / 4 * 4) 0) = 0) → (((I 2 1) - i) < 3) → ¬ ((I 4 1) < 8) → mWP mTb_ mFT ro (d + 2, 73, 16, [some (.ref 1), some (.long dr), none, some (.long (((x * 1103515245) + 12345) - ((x * 1103515245) + 12345) / 2147483648 * 2147483648)), none, some (.int (i + 1)), some (.int (j + 1)), some (.int 0), some (.int 1)], [], 0, 0, (mSH, I, L)) Q) (h6 : ¬ ((8 : Int32) ≤ j) → ¬ ((I 2 1) ≤ i) → ((lg_cmp (((((x * 1103515245) + 12345) - ((x * 1103515245) + 12345) / 2147483648 * 2147483648) / 65536) - ((((x * 1103515245) + 12345) - ((x * 1103515245) + 12345) / 2147483648 * 2147483648) / 65536) / 4 * 4) 0) = 0) → ¬ (((I 2 1) - i) < 3) → ((I 4 1) < 8) → vp_in (I 4 1) 8) (h7 : ¬ ((8 : Int32) ≤ j) → ¬ ((I 2 1) ≤ i) → ((lg_cmp (((((x * 1103515245) + 12345) - ((x * 1103515245) + 12345) / 2147483648 * 2147483648) / 65536) - ((((x * 1103515245) + 12345) - ((x * 1103515245) + 12345) / 2147483648 * 2147483648) / 65536) / 4 * 4) 0) = 0) → ¬ (((I 2 1) - i) < 3) → ((I 4 1) < 8) → mWP mTb_ mFT ro (d + 2, 73, 16, [some (.ref 1), some (.long dr), none, some (.long (((x * 1103515245) + 12345) - ((x * 1103515245) + 12345) / 2147483648 * 2147483648)), none, some (.int (i + 3)), some (.int (j + 1)), some (.int 1), some (.int 3)], [], 0, 0, (mSH, (mUp (mUp I 5 ((I 4 1).toNatClampNeg) ((((0 + (mAt I 2 3 (i + 0))) + (mAt I 2 3 (i + 1))) + (mAt I 2 3 (i + 2))) + ((((((x * 1103515245) + 12345) - ((x * 1103515245) + 12345) / 2147483648 * 2147483648) / 1024) - ((((x * 1103515245) + 12345) - ((x * 1103515245) + 12345) / 2147483648 * 2147483648) / 1024) / 3 * 3 : Int64).toInt32))) 4 1 ((I 4 1) + 1)), L)) Q) (h8 : ¬ ((8 : Int32) ≤ j) → ¬ ((I 2 1) ≤ i) → ((lg_cmp (((((x * 1103515245) + 12345) - ((x * 1103515245) + 12345) / 2147483648 * 2147483648) / 65536) - ((((x * 1103515245) + 12345) - ((x * 1103515245) + 12345) / 2147483648 * 2147483648) / 65536) / 4 * 4) 0) = 0) → ¬ (((I 2 1) - i) < 3) → ¬ ((I 4 1) < 8) → mWP mTb_ mFT ro (d + 2, 73, 16, [some (.ref 1), some (.long dr), none, some (.long (((x * 1103515245) + 12345) - ((x * 1103515245) + 12345) / 2147483648 * 2147483648)), none, some (.int (i + 3)), some (.int (j + 1)), some (.int 1), some (.int 3)], [], 0, 0, (mSH, I, L)) Q) (h9 : ¬ ((8 : Int32) ≤ j) → ¬ ((I 2 1) ≤ i) → ¬ ((lg_cmp (((((x * 1103515245) + 12345) - ((x * 1103515245) + 12345) / 2147483648 * 2147483648) / 65536) - ((((x * 1103515245) + 12345) - ((x * 1103515245) + 12345) / 2147483648 * 2147483648) / 65536) / 4 * 4) 0) = 0) → ((I 4 1) < 8) → vp_in (I 4 1) 8) (h10 : ¬ ((8 : Int32) ≤ j) → ¬ ((I 2 1) ≤ i) → ¬ ((lg_cmp (((((x * 1103515245) + 12345) - ((x * 1103515245) + 12345) / 2147483648 * 2147483648) / 65536) - ((((x * 1103515245) + 12345) - ((x * 1103515245) + 12345) / 2147483648 * 2147483648) / 65536) / 4 * 4) 0) = 0) → ((I 4 1) < 8) → mWP mTb_ mFT ro (d + 2, 73, 16, [some (.ref 1), some (.long dr), none, some (.long (((x * 1103515245) + 12345) - ((x * 1103515245) + 12345) / 2147483648 * 2147483648)), none, some (.int (i + 1)), some (.int (j + 1)), some (.int 0), some (.int 1)], [], 0, 0, (mSH, (mUp (mUp I 5 ((I 4 1).toNatClampNeg) ((0 + (mAt I 2 3 (i + 0))) + ((((((x * 1103515245) + 12345) - ((x * 1103515245) + 12345) / 2147483648 * 2147483648) / 1024) - ((((x * 1103515245) + 12345) - ((x * 1103515245) + 12345) / 2147483648 * 2147483648) / 1024) / 3 * 3 : Int64).toInt32))) 4 1 ((I 4 1) + 1)), L)) Q) (h11 : ¬ ((8 : Int32) ≤ j) → ¬ ((I 2 1) ≤ i) → ¬ ((lg_cmp (((((x * 1103515245) + 12345) - ((x * 1103515245) + 12345) / 2147483648 * 2147483648) / 65536) - ((((x * 1103515245) + 12345) - ((x * 1103515245) + 12345) / 2147483648 * 2147483648) / 65536) / 4 * 4) 0) = 0) → ¬ ((I 4 1) < 8) → mWP mTb_ mFT ro (d + 2, 73, 16, [some (.ref 1), some (.long dr), none, some (.long (((x * 1103515245) + 12345) - ((x * 1103515245) + 12345) / 2147483648 * 2147483648)), none, some (.int (i + 1)), some (.int (j + 1)), some (.int 0), some (.int 1)], [], 0, 0, (mSH, I, L)) Q) : mWP mTb_ mFT ro (d + 2, 73, 16, [some (.ref 1), some (.long dr), none, some (.long x), none, some (.int i), some (.int j), o7, o8], [], 0, 0, (mSH, I, L)) Q := by
  refine mB 2 (s2 := (d + 2, 73, 20, [some (.ref 1), some (.long dr), none, some (.long x), none, some (.int i), some (.int j), o7, o8], [.int 8, .int j], 0, 0, (mSH, I, L))) rfl ?_
  refine mBr (s2 := (d + 2, 73, 126, [some (.ref 1), some (.long dr), none, some (.long x), none, some (.int i), some (.int j), o7, o8], [], 0, 0, (mSH, I, L))) (s3 := (d + 2, 73, 23, [some (.ref 1), some (.long dr), none, some (.long x), none, some (.int i), some (.int j), o7, o8], [], 0, 0, (mSH, I, L))) rfl (fun c0 => ?_) (fun c0 => ?_)
  · refine mRt (r := none) (h := (mSH, I, L)) rfl rfl ?_
    exact h1 (of_decide_eq_true c0)
  · refine mB 3 (s2 := (d + 2, 73, 29, [some (.ref 1), some (.long dr), none, some (.long x), none, some (.int i), some (.int j), o7, o8], [.ref 2, .int i], 0, 0, (mSH, I, L))) rfl ?_
    refine mCall (s2 := (d + 1, 39, 0, [some (.ref 2)], [], 0, 0, (mSH, I, L))) rfl ?_
    refine mB 2 (s2 := (d + 1, 39, 4, [some (.ref 2)], [.int (I 2 1)], 0, 0, (mSH, I, L))) rfl ?_
    refine mRt (r := (some (.int (I 2 1)))) (h := (mSH, I, L)) rfl (mRet_int rfl) ?_
    show mWP mTb_ mFT ro (d + 2, 73, 32, [some (.ref 1), some (.long dr), none, some (.long x), none, some (.int i), some (.int j), o7, o8], [.int (I 2 1), .int i], 0, 0, (mSH, I, L)) _
    refine mBr (s2 := (d + 2, 73, 126, [some (.ref 1), some (.long dr), none, some (.long x), none, some (.int i), some (.int j), o7, o8], [], 0, 0, (mSH, I, L))) (s3 := (d + 2, 73, 35, [some (.ref 1), some (.long dr), none, some (.long x), none, some (.int i), some (.int j), o7, o8], [], 0, 0, (mSH, I, L))) rfl (fun c1 => ?_) (fun c1 => ?_)
    · refine mRt (r := none) (h := (mSH, I, L)) rfl rfl ?_
      exact h2 (of_decide_eq_false c0) (of_decide_eq_true c1)
    · refine mB 1 (s2 := (d + 2, 73, 36, [some (.ref 1), some (.long dr), none, some (.long x), none, some (.int i), some (.int j), o7, o8], [.long x], 0, 0, (mSH, I, L))) rfl ?_
      refine mCall (s2 := (d + 1, 74, 0, [some (.long x), none], [], 0, 0, (mSH, I, L))) rfl ?_
      refine mB 6 (s2 := (d + 1, 74, 12, [some (.long x), none], [.long 2147483648, .long ((x * 1103515245) + 12345)], 0, 0, (mSH, I, L))) rfl ?_
      refine mRq (s2 := (d + 1, 74, 13, [some (.long x), none], [.long (((x * 1103515245) + 12345) - ((x * 1103515245) + 12345) / 2147483648 * 2147483648)], 0, 0, (mSH, I, L))) rfl (by decide) ?_
      refine mRt (r := (some (.long (((x * 1103515245) + 12345) - ((x * 1103515245) + 12345) / 2147483648 * 2147483648)))) (h := (mSH, I, L)) rfl rfl ?_
      show mWP mTb_ mFT ro (d + 2, 73, 39, [some (.ref 1), some (.long dr), none, some (.long x), none, some (.int i), some (.int j), o7, o8], [.long (((x * 1103515245) + 12345) - ((x * 1103515245) + 12345) / 2147483648 * 2147483648)], 0, 0, (mSH, I, L)) _
      refine mB 3 (s2 := (d + 2, 73, 44, [some (.ref 1), some (.long dr), none, some (.long (((x * 1103515245) + 12345) - ((x * 1103515245) + 12345) / 2147483648 * 2147483648)), none, some (.int i), some (.int j), o7, o8], [.long 65536, .long (((x * 1103515245) + 12345) - ((x * 1103515245) + 12345) / 2147483648 * 2147483648)], 0, 0, (mSH, I, L))) rfl ?_
      refine mRq (s2 := (d + 2, 73, 45, [some (.ref 1), some (.long dr), none, some (.long (((x * 1103515245) + 12345) - ((x * 1103515245) + 12345) / 2147483648 * 2147483648)), none, some (.int i), some (.int j), o7, o8], [.long ((((x * 1103515245) + 12345) - ((x * 1103515245) + 12345) / 2147483648 * 2147483648) / 65536)], 0, 0, (mSH, I, L))) rfl (by decide) ?_
      refine mB 1 (s2 := (d + 2, 73, 48, [some (.ref 1), some (.long dr), none, some (.long (((x * 1103515245) + 12345) - ((x * 1103515245) + 12345) / 2147483648 * 2147483648)), none, some (.int i), some (.int j), o7, o8], [.long 4, .long ((((x * 1103515245) + 12345) - ((x * 1103515245) + 12345) / 2147483648 * 2147483648) / 65536)], 0, 0, (mSH, I, L))) rfl ?_
      refine mRq (s2 := (d + 2, 73, 49, [some (.ref 1), some (.long dr), none, some (.long (((x * 1103515245) + 12345) - ((x * 1103515245) + 12345) / 2147483648 * 2147483648)), none, some (.int i), some (.int j), o7, o8], [.long (((((x * 1103515245) + 12345) - ((x * 1103515245) + 12345) / 2147483648 * 2147483648) / 65536) - ((((x * 1103515245) + 12345) - ((x * 1103515245) + 12345) / 2147483648 * 2147483648) / 65536) / 4 * 4)], 0, 0, (mSH, I, L))) rfl (by decide) ?_
      refine mB 2 (s2 := (d + 2, 73, 51, [some (.ref 1), some (.long dr), none, some (.long (((x * 1103515245) + 12345) - ((x * 1103515245) + 12345) / 2147483648 * 2147483648)), none, some (.int i), some (.int j), o7, o8], [.int (lg_cmp (((((x * 1103515245) + 12345) - ((x * 1103515245) + 12345) / 2147483648 * 2147483648) / 65536) - ((((x * 1103515245) + 12345) - ((x * 1103515245) + 12345) / 2147483648 * 2147483648) / 65536) / 4 * 4) 0)], 0, 0, (mSH, I, L))) rfl ?_
      refine mBr (s2 := (d + 2, 73, 54, [some (.ref 1), some (.long dr), none, some (.long (((x * 1103515245) + 12345) - ((x * 1103515245) + 12345) / 2147483648 * 2147483648)), none, some (.int i), some (.int j), o7, o8], [], 0, 0, (mSH, I, L))) (s3 := (d + 2, 73, 72, [some (.ref 1), some (.long dr), none, some (.long (((x * 1103515245) + 12345) - ((x * 1103515245) + 12345) / 2147483648 * 2147483648)), none, some (.int i), some (.int j), o7, o8], [], 0, 0, (mSH, I, L))) rfl (fun c2 => ?_) (fun c2 => ?_)
      · refine mB 2 (s2 := (d + 2, 73, 58, [some (.ref 1), some (.long dr), none, some (.long (((x * 1103515245) + 12345) - ((x * 1103515245) + 12345) / 2147483648 * 2147483648)), none, some (.int i), some (.int j), o7, o8], [.ref 2], 0, 0, (mSH, I, L))) rfl ?_
        refine mCall (s2 := (d + 1, 39, 0, [some (.ref 2)], [], 0, 0, (mSH, I, L))) rfl ?_
        refine mB 2 (s2 := (d + 1, 39, 4, [some (.ref 2)], [.int (I 2 1)], 0, 0, (mSH, I, L))) rfl ?_
        refine mRt (r := (some (.int (I 2 1)))) (h := (mSH, I, L)) rfl (mRet_int rfl) ?_
        show mWP mTb_ mFT ro (d + 2, 73, 61, [some (.ref 1), some (.long dr), none, some (.long (((x * 1103515245) + 12345) - ((x * 1103515245) + 12345) / 2147483648 * 2147483648)), none, some (.int i), some (.int j), o7, o8], [.int (I 2 1)], 0, 0, (mSH, I, L)) _
        refine mB 3 (s2 := (d + 2, 73, 65, [some (.ref 1), some (.long dr), none, some (.long (((x * 1103515245) + 12345) - ((x * 1103515245) + 12345) / 2147483648 * 2147483648)), none, some (.int i), some (.int j), o7, o8], [.int 3, .int ((I 2 1) - i)], 0, 0, (mSH, I, L))) rfl ?_
        refine mBr (s2 := (d + 2, 73, 72, [some (.ref 1), some (.long dr), none, some (.long (((x * 1103515245) + 12345) - ((x * 1103515245) + 12345) / 2147483648 * 2147483648)), none, some (.int i), some (.int j), o7, o8], [], 0, 0, (mSH, I, L))) (s3 := (d + 2, 73, 68, [some (.ref 1), some (.long dr), none, some (.long (((x * 1103515245) + 12345) - ((x * 1103515245) + 12345) / 2147483648 * 2147483648)), none, some (.int i), some (.int j), o7, o8], [], 0, 0, (mSH, I, L))) rfl (fun c3 => ?_) (fun c3 => ?_)
        · refine mB 3 (s2 := (d + 2, 73, 77, [some (.ref 1), some (.long dr), none, some (.long (((x * 1103515245) + 12345) - ((x * 1103515245) + 12345) / 2147483648 * 2147483648)), none, some (.int i), some (.int j), some (.int 0), o8], [.int 0], 0, 0, (mSH, I, L))) rfl ?_
          refine mBT (s2 := (d + 2, 73, 84, [some (.ref 1), some (.long dr), none, some (.long (((x * 1103515245) + 12345) - ((x * 1103515245) + 12345) / 2147483648 * 2147483648)), none, some (.int i), some (.int j), some (.int 0), o8], [], 0, 0, (mSH, I, L))) rfl (by decide) ?_
          refine mB 7 (s2 := (d + 2, 73, 96, [some (.ref 1), some (.long dr), none, some (.long (((x * 1103515245) + 12345) - ((x * 1103515245) + 12345) / 2147483648 * 2147483648)), none, some (.int i), some (.int j), some (.int 0), some (.int 1)], [.int 1, .int i, .ref 1, .ref 4], 0, 0, (mSH, I, L))) rfl ?_
          refine mCall (s2 := (d + 1, 69, 0, [some (.ref 1), some (.int i), some (.int 1), none, none], [], 0, 0, (mSH, I, L))) rfl ?_
          refine mB 6 (s2 := (d + 1, 69, 8, [some (.ref 1), some (.int i), some (.int 1), some (.int 0), some (.int 0)], [.int 1, .int 0], 0, 0, (mSH, I, L))) rfl ?_
          refine mBF (s3 := (d + 1, 69, 11, [some (.ref 1), some (.int i), some (.int 1), some (.int 0), some (.int 0)], [], 0, 0, (mSH, I, L))) rfl (by decide) ?_
          refine mB 6 (s2 := (d + 1, 69, 20, [some (.ref 1), some (.int i), some (.int 1), some (.int 0), some (.int 0)], [.int (i + 0), .ref 2, .int 0], 0, 0, (mSH, I, L))) rfl ?_
          refine mCall (s2 := (d, 42, 0, [some (.ref 2), some (.int (i + 0))], [], 0, 0, (mSH, I, L))) rfl ?_
          refine w_at_2 n2 ?_
          show mWP mTb_ mFT ro (d + 1, 69, 23, [some (.ref 1), some (.int i), some (.int 1), some (.int 0), some (.int 0)], [.int (mAt I 2 3 (i + 0)), .int 0], 0, 0, (mSH, I, L)) _
          refine mB 6 (s2 := (d + 1, 69, 8, [some (.ref 1), some (.int i), some (.int 1), some (.int (0 + (mAt I 2 3 (i + 0)))), some (.int 1)], [.int 1, .int 1], 0, 0, (mSH, I, L))) rfl ?_
          refine mBT (s2 := (d + 1, 69, 31, [some (.ref 1), some (.int i), some (.int 1), some (.int (0 + (mAt I 2 3 (i + 0)))), some (.int 1)], [], 0, 0, (mSH, I, L))) rfl (by decide) ?_
          refine mB 1 (s2 := (d + 1, 69, 32, [some (.ref 1), some (.int i), some (.int 1), some (.int (0 + (mAt I 2 3 (i + 0)))), some (.int 1)], [.int (0 + (mAt I 2 3 (i + 0)))], 0, 0, (mSH, I, L))) rfl ?_
          refine mRt (r := (some (.int (0 + (mAt I 2 3 (i + 0)))))) (h := (mSH, I, L)) rfl (mRet_int rfl) ?_
          show mWP mTb_ mFT ro (d + 2, 73, 99, [some (.ref 1), some (.long dr), none, some (.long (((x * 1103515245) + 12345) - ((x * 1103515245) + 12345) / 2147483648 * 2147483648)), none, some (.int i), some (.int j), some (.int 0), some (.int 1)], [.int (0 + (mAt I 2 3 (i + 0))), .ref 4], 0, 0, (mSH, I, L)) _
          refine mB 2 (s2 := (d + 2, 73, 103, [some (.ref 1), some (.long dr), none, some (.long (((x * 1103515245) + 12345) - ((x * 1103515245) + 12345) / 2147483648 * 2147483648)), none, some (.int i), some (.int j), some (.int 0), some (.int 1)], [.long 1024, .long (((x * 1103515245) + 12345) - ((x * 1103515245) + 12345) / 2147483648 * 2147483648), .int (0 + (mAt I 2 3 (i + 0))), .ref 4], 0, 0, (mSH, I, L))) rfl ?_
          refine mRq (s2 := (d + 2, 73, 104, [some (.ref 1), some (.long dr), none, some (.long (((x * 1103515245) + 12345) - ((x * 1103515245) + 12345) / 2147483648 * 2147483648)), none, some (.int i), some (.int j), some (.int 0), some (.int 1)], [.long ((((x * 1103515245) + 12345) - ((x * 1103515245) + 12345) / 2147483648 * 2147483648) / 1024), .int (0 + (mAt I 2 3 (i + 0))), .ref 4], 0, 0, (mSH, I, L))) rfl (by decide) ?_
          refine mB 1 (s2 := (d + 2, 73, 107, [some (.ref 1), some (.long dr), none, some (.long (((x * 1103515245) + 12345) - ((x * 1103515245) + 12345) / 2147483648 * 2147483648)), none, some (.int i), some (.int j), some (.int 0), some (.int 1)], [.long 3, .long ((((x * 1103515245) + 12345) - ((x * 1103515245) + 12345) / 2147483648 * 2147483648) / 1024), .int (0 + (mAt I 2 3 (i + 0))), .ref 4], 0, 0, (mSH, I, L))) rfl ?_
          refine mRq (s2 := (d + 2, 73, 108, [some (.ref 1), some (.long dr), none, some (.long (((x * 1103515245) + 12345) - ((x * 1103515245) + 12345) / 2147483648 * 2147483648)), none, some (.int i), some (.int j), some (.int 0), some (.int 1)], [.long (((((x * 1103515245) + 12345) - ((x * 1103515245) + 12345) / 2147483648 * 2147483648) / 1024) - ((((x * 1103515245) + 12345) - ((x * 1103515245) + 12345) / 2147483648 * 2147483648) / 1024) / 3 * 3), .int (0 + (mAt I 2 3 (i + 0))), .ref 4], 0, 0, (mSH, I, L))) rfl (by decide) ?_
          refine mB 2 (s2 := (d + 2, 73, 110, [some (.ref 1), some (.long dr), none, some (.long (((x * 1103515245) + 12345) - ((x * 1103515245) + 12345) / 2147483648 * 2147483648)), none, some (.int i), some (.int j), some (.int 0), some (.int 1)], [.int ((0 + (mAt I 2 3 (i + 0))) + ((((((x * 1103515245) + 12345) - ((x * 1103515245) + 12345) / 2147483648 * 2147483648) / 1024) - ((((x * 1103515245) + 12345) - ((x * 1103515245) + 12345) / 2147483648 * 2147483648) / 1024) / 3 * 3 : Int64).toInt32)), .ref 4], 0, 0, (mSH, I, L))) rfl ?_
          refine mCall (s2 := (d + 1, 44, 0, [some (.ref 4), some (.int ((0 + (mAt I 2 3 (i + 0))) + ((((((x * 1103515245) + 12345) - ((x * 1103515245) + 12345) / 2147483648 * 2147483648) / 1024) - ((((x * 1103515245) + 12345) - ((x * 1103515245) + 12345) / 2147483648 * 2147483648) / 1024) / 3 * 3 : Int64).toInt32)))], [], 0, 0, (mSH, I, L))) rfl ?_
          refine mB 1 (s2 := (d + 1, 44, 1, [some (.ref 4), some (.int ((0 + (mAt I 2 3 (i + 0))) + ((((((x * 1103515245) + 12345) - ((x * 1103515245) + 12345) / 2147483648 * 2147483648) / 1024) - ((((x * 1103515245) + 12345) - ((x * 1103515245) + 12345) / 2147483648 * 2147483648) / 1024) / 3 * 3 : Int64).toInt32)))], [.ref 4], 0, 0, (mSH, I, L))) rfl ?_
          refine mCall (s2 := (d, 40, 0, [some (.ref 4)], [], 0, 0, (mSH, I, L))) rfl ?_
          refine mB 5 (s2 := (d, 40, 9, [some (.ref 4)], [.int 8, .int (I 4 1)], 0, 0, (mSH, I, L))) rfl ?_
          refine mBr (s2 := (d, 40, 16, [some (.ref 4)], [], 0, 0, (mSH, I, L))) (s3 := (d, 40, 12, [some (.ref 4)], [], 0, 0, (mSH, I, L))) rfl (fun c4 => ?_) (fun c4 => ?_)
          · refine mB 1 (s2 := (d, 40, 17, [some (.ref 4)], [.int 0], 0, 0, (mSH, I, L))) rfl ?_
            refine mRt (r := (some (.int 0))) (h := (mSH, I, L)) rfl rfl ?_
            show mWP mTb_ mFT ro (d + 1, 44, 4, [some (.ref 4), some (.int ((0 + (mAt I 2 3 (i + 0))) + ((((((x * 1103515245) + 12345) - ((x * 1103515245) + 12345) / 2147483648 * 2147483648) / 1024) - ((((x * 1103515245) + 12345) - ((x * 1103515245) + 12345) / 2147483648 * 2147483648) / 1024) / 3 * 3 : Int64).toInt32)))], [.int 0], 0, 0, (mSH, I, L)) _
            refine mBT (s2 := (d + 1, 44, 7, [some (.ref 4), some (.int ((0 + (mAt I 2 3 (i + 0))) + ((((((x * 1103515245) + 12345) - ((x * 1103515245) + 12345) / 2147483648 * 2147483648) / 1024) - ((((x * 1103515245) + 12345) - ((x * 1103515245) + 12345) / 2147483648 * 2147483648) / 1024) / 3 * 3 : Int64).toInt32)))], [], 0, 0, (mSH, I, L))) rfl (by decide) ?_
            refine mB 5 (s2 := (d + 1, 44, 16, [some (.ref 4), some (.int ((0 + (mAt I 2 3 (i + 0))) + ((((((x * 1103515245) + 12345) - ((x * 1103515245) + 12345) / 2147483648 * 2147483648) / 1024) - ((((x * 1103515245) + 12345) - ((x * 1103515245) + 12345) / 2147483648 * 2147483648) / 1024) / 3 * 3 : Int64).toInt32)))], [.int ((0 + (mAt I 2 3 (i + 0))) + ((((((x * 1103515245) + 12345) - ((x * 1103515245) + 12345) / 2147483648 * 2147483648) / 1024) - ((((x * 1103515245) + 12345) - ((x * 1103515245) + 12345) / 2147483648 * 2147483648) / 1024) / 3 * 3 : Int64).toInt32)), .int (I 4 1), .ref 5], 0, 0, (mSH, I, L))) rfl ?_
            refine mRq (s2 := (d + 1, 44, 17, [some (.ref 4), some (.int ((0 + (mAt I 2 3 (i + 0))) + ((((((x * 1103515245) + 12345) - ((x * 1103515245) + 12345) / 2147483648 * 2147483648) / 1024) - ((((x * 1103515245) + 12345) - ((x * 1103515245) + 12345) / 2147483648 * 2147483648) / 1024) / 3 * 3 : Int64).toInt32)))], [], 0, 0, (mSH, (mUp I 5 ((I 4 1).toNatClampNeg) ((0 + (mAt I 2 3 (i + 0))) + ((((((x * 1103515245) + 12345) - ((x * 1103515245) + 12345) / 2147483648 * 2147483648) / 1024) - ((((x * 1103515245) + 12345) - ((x * 1103515245) + 12345) / 2147483648 * 2147483648) / 1024) / 3 * 3 : Int64).toInt32))), L))) rfl (mVp_of (h3 (of_decide_eq_false c0) (of_decide_eq_false c1) (of_decide_eq_true c2) (of_decide_eq_true c3) (of_decide_eq_true c4))) ?_
            refine mB 6 (s2 := (d + 1, 44, 27, [some (.ref 4), some (.int ((0 + (mAt I 2 3 (i + 0))) + ((((((x * 1103515245) + 12345) - ((x * 1103515245) + 12345) / 2147483648 * 2147483648) / 1024) - ((((x * 1103515245) + 12345) - ((x * 1103515245) + 12345) / 2147483648 * 2147483648) / 1024) / 3 * 3 : Int64).toInt32)))], [], 0, 0, (mSH, (mUp (mUp I 5 ((I 4 1).toNatClampNeg) ((0 + (mAt I 2 3 (i + 0))) + ((((((x * 1103515245) + 12345) - ((x * 1103515245) + 12345) / 2147483648 * 2147483648) / 1024) - ((((x * 1103515245) + 12345) - ((x * 1103515245) + 12345) / 2147483648 * 2147483648) / 1024) / 3 * 3 : Int64).toInt32))) 4 1 ((I 4 1) + 1)), L))) rfl ?_
            refine mRt (r := none) (h := (mSH, (mUp (mUp I 5 ((I 4 1).toNatClampNeg) ((0 + (mAt I 2 3 (i + 0))) + ((((((x * 1103515245) + 12345) - ((x * 1103515245) + 12345) / 2147483648 * 2147483648) / 1024) - ((((x * 1103515245) + 12345) - ((x * 1103515245) + 12345) / 2147483648 * 2147483648) / 1024) / 3 * 3 : Int64).toInt32))) 4 1 ((I 4 1) + 1)), L)) rfl rfl ?_
            show mWP mTb_ mFT ro (d + 2, 73, 113, [some (.ref 1), some (.long dr), none, some (.long (((x * 1103515245) + 12345) - ((x * 1103515245) + 12345) / 2147483648 * 2147483648)), none, some (.int i), some (.int j), some (.int 0), some (.int 1)], [], 0, 0, (mSH, (mUp (mUp I 5 ((I 4 1).toNatClampNeg) ((0 + (mAt I 2 3 (i + 0))) + ((((((x * 1103515245) + 12345) - ((x * 1103515245) + 12345) / 2147483648 * 2147483648) / 1024) - ((((x * 1103515245) + 12345) - ((x * 1103515245) + 12345) / 2147483648 * 2147483648) / 1024) / 3 * 3 : Int64).toInt32))) 4 1 ((I 4 1) + 1)), L)) _
            refine mB 6 (s2 := (d + 2, 73, 16, [some (.ref 1), some (.long dr), none, some (.long (((x * 1103515245) + 12345) - ((x * 1103515245) + 12345) / 2147483648 * 2147483648)), none, some (.int (i + 1)), some (.int (j + 1)), some (.int 0), some (.int 1)], [], 0, 0, (mSH, (mUp (mUp I 5 ((I 4 1).toNatClampNeg) ((0 + (mAt I 2 3 (i + 0))) + ((((((x * 1103515245) + 12345) - ((x * 1103515245) + 12345) / 2147483648 * 2147483648) / 1024) - ((((x * 1103515245) + 12345) - ((x * 1103515245) + 12345) / 2147483648 * 2147483648) / 1024) / 3 * 3 : Int64).toInt32))) 4 1 ((I 4 1) + 1)), L))) rfl ?_
            exact h4 (of_decide_eq_false c0) (of_decide_eq_false c1) (of_decide_eq_true c2) (of_decide_eq_true c3) (of_decide_eq_true c4)
          · refine mB 2 (s2 := (d, 40, 17, [some (.ref 4)], [.int 1], 0, 0, (mSH, I, L))) rfl ?_
            refine mRt (r := (some (.int 1))) (h := (mSH, I, L)) rfl rfl ?_
            show mWP mTb_ mFT ro (d + 1, 44, 4, [some (.ref 4), some (.int ((0 + (mAt I 2 3 (i + 0))) + ((((((x * 1103515245) + 12345) - ((x * 1103515245) + 12345) / 2147483648 * 2147483648) / 1024) - ((((x * 1103515245) + 12345) - ((x * 1103515245) + 12345) / 2147483648 * 2147483648) / 1024) / 3 * 3 : Int64).toInt32)))], [.int 1], 0, 0, (mSH, I, L)) _
            refine mBF (s3 := (d + 1, 44, 27, [some (.ref 4), some (.int ((0 + (mAt I 2 3 (i + 0))) + ((((((x * 1103515245) + 12345) - ((x * 1103515245) + 12345) / 2147483648 * 2147483648) / 1024) - ((((x * 1103515245) + 12345) - ((x * 1103515245) + 12345) / 2147483648 * 2147483648) / 1024) / 3 * 3 : Int64).toInt32)))], [], 0, 0, (mSH, I, L))) rfl (by decide) ?_
            refine mRt (r := none) (h := (mSH, I, L)) rfl rfl ?_
            show mWP mTb_ mFT ro (d + 2, 73, 113, [some (.ref 1), some (.long dr), none, some (.long (((x * 1103515245) + 12345) - ((x * 1103515245) + 12345) / 2147483648 * 2147483648)), none, some (.int i), some (.int j), some (.int 0), some (.int 1)], [], 0, 0, (mSH, I, L)) _
            refine mB 6 (s2 := (d + 2, 73, 16, [some (.ref 1), some (.long dr), none, some (.long (((x * 1103515245) + 12345) - ((x * 1103515245) + 12345) / 2147483648 * 2147483648)), none, some (.int (i + 1)), some (.int (j + 1)), some (.int 0), some (.int 1)], [], 0, 0, (mSH, I, L))) rfl ?_
            exact h5 (of_decide_eq_false c0) (of_decide_eq_false c1) (of_decide_eq_true c2) (of_decide_eq_true c3) (of_decide_eq_false c4)
        · refine mB 4 (s2 := (d + 2, 73, 77, [some (.ref 1), some (.long dr), none, some (.long (((x * 1103515245) + 12345) - ((x * 1103515245) + 12345) / 2147483648 * 2147483648)), none, some (.int i), some (.int j), some (.int 1), o8], [.int 1], 0, 0, (mSH, I, L))) rfl ?_
          refine mBF (s3 := (d + 2, 73, 80, [some (.ref 1), some (.long dr), none, some (.long (((x * 1103515245) + 12345) - ((x * 1103515245) + 12345) / 2147483648 * 2147483648)), none, some (.int i), some (.int j), some (.int 1), o8], [], 0, 0, (mSH, I, L))) rfl (by decide) ?_
          refine mB 8 (s2 := (d + 2, 73, 96, [some (.ref 1), some (.long dr), none, some (.long (((x * 1103515245) + 12345) - ((x * 1103515245) + 12345) / 2147483648 * 2147483648)), none, some (.int i), some (.int j), some (.int 1), some (.int 3)], [.int 3, .int i, .ref 1, .ref 4], 0, 0, (mSH, I, L))) rfl ?_
          refine mCall (s2 := (d + 1, 69, 0, [some (.ref 1), some (.int i), some (.int 3), none, none], [], 0, 0, (mSH, I, L))) rfl ?_
          refine mB 6 (s2 := (d + 1, 69, 8, [some (.ref 1), some (.int i), some (.int 3), some (.int 0), some (.int 0)], [.int 3, .int 0], 0, 0, (mSH, I, L))) rfl ?_
          refine mBF (s3 := (d + 1, 69, 11, [some (.ref 1), some (.int i), some (.int 3), some (.int 0), some (.int 0)], [], 0, 0, (mSH, I, L))) rfl (by decide) ?_
          refine mB 6 (s2 := (d + 1, 69, 20, [some (.ref 1), some (.int i), some (.int 3), some (.int 0), some (.int 0)], [.int (i + 0), .ref 2, .int 0], 0, 0, (mSH, I, L))) rfl ?_
          refine mCall (s2 := (d, 42, 0, [some (.ref 2), some (.int (i + 0))], [], 0, 0, (mSH, I, L))) rfl ?_
          refine w_at_2 n2 ?_
          show mWP mTb_ mFT ro (d + 1, 69, 23, [some (.ref 1), some (.int i), some (.int 3), some (.int 0), some (.int 0)], [.int (mAt I 2 3 (i + 0)), .int 0], 0, 0, (mSH, I, L)) _
          refine mB 6 (s2 := (d + 1, 69, 8, [some (.ref 1), some (.int i), some (.int 3), some (.int (0 + (mAt I 2 3 (i + 0)))), some (.int 1)], [.int 3, .int 1], 0, 0, (mSH, I, L))) rfl ?_
          refine mBF (s3 := (d + 1, 69, 11, [some (.ref 1), some (.int i), some (.int 3), some (.int (0 + (mAt I 2 3 (i + 0)))), some (.int 1)], [], 0, 0, (mSH, I, L))) rfl (by decide) ?_
          refine mB 6 (s2 := (d + 1, 69, 20, [some (.ref 1), some (.int i), some (.int 3), some (.int (0 + (mAt I 2 3 (i + 0)))), some (.int 1)], [.int (i + 1), .ref 2, .int (0 + (mAt I 2 3 (i + 0)))], 0, 0, (mSH, I, L))) rfl ?_
          refine mCall (s2 := (d, 42, 0, [some (.ref 2), some (.int (i + 1))], [], 0, 0, (mSH, I, L))) rfl ?_
          refine w_at_2 n2 ?_
          show mWP mTb_ mFT ro (d + 1, 69, 23, [some (.ref 1), some (.int i), some (.int 3), some (.int (0 + (mAt I 2 3 (i + 0)))), some (.int 1)], [.int (mAt I 2 3 (i + 1)), .int (0 + (mAt I 2 3 (i + 0)))], 0, 0, (mSH, I, L)) _
          refine mB 6 (s2 := (d + 1, 69, 8, [some (.ref 1), some (.int i), some (.int 3), some (.int ((0 + (mAt I 2 3 (i + 0))) + (mAt I 2 3 (i + 1)))), some (.int 2)], [.int 3, .int 2], 0, 0, (mSH, I, L))) rfl ?_
          refine mBF (s3 := (d + 1, 69, 11, [some (.ref 1), some (.int i), some (.int 3), some (.int ((0 + (mAt I 2 3 (i + 0))) + (mAt I 2 3 (i + 1)))), some (.int 2)], [], 0, 0, (mSH, I, L))) rfl (by decide) ?_
          refine mB 6 (s2 := (d + 1, 69, 20, [some (.ref 1), some (.int i), some (.int 3), some (.int ((0 + (mAt I 2 3 (i + 0))) + (mAt I 2 3 (i + 1)))), some (.int 2)], [.int (i + 2), .ref 2, .int ((0 + (mAt I 2 3 (i + 0))) + (mAt I 2 3 (i + 1)))], 0, 0, (mSH, I, L))) rfl ?_
          refine mCall (s2 := (d, 42, 0, [some (.ref 2), some (.int (i + 2))], [], 0, 0, (mSH, I, L))) rfl ?_
          refine w_at_2 n2 ?_
          show mWP mTb_ mFT ro (d + 1, 69, 23, [some (.ref 1), some (.int i), some (.int 3), some (.int ((0 + (mAt I 2 3 (i + 0))) + (mAt I 2 3 (i + 1)))), some (.int 2)], [.int (mAt I 2 3 (i + 2)), .int ((0 + (mAt I 2 3 (i + 0))) + (mAt I 2 3 (i + 1)))], 0, 0, (mSH, I, L)) _
          refine mB 6 (s2 := (d + 1, 69, 8, [some (.ref 1), some (.int i), some (.int 3), some (.int (((0 + (mAt I 2 3 (i + 0))) + (mAt I 2 3 (i + 1))) + (mAt I 2 3 (i + 2)))), some (.int 3)], [.int 3, .int 3], 0, 0, (mSH, I, L))) rfl ?_
          refine mBT (s2 := (d + 1, 69, 31, [some (.ref 1), some (.int i), some (.int 3), some (.int (((0 + (mAt I 2 3 (i + 0))) + (mAt I 2 3 (i + 1))) + (mAt I 2 3 (i + 2)))), some (.int 3)], [], 0, 0, (mSH, I, L))) rfl (by decide) ?_
          refine mB 1 (s2 := (d + 1, 69, 32, [some (.ref 1), some (.int i), some (.int 3), some (.int (((0 + (mAt I 2 3 (i + 0))) + (mAt I 2 3 (i + 1))) + (mAt I 2 3 (i + 2)))), some (.int 3)], [.int (((0 + (mAt I 2 3 (i + 0))) + (mAt I 2 3 (i + 1))) + (mAt I 2 3 (i + 2)))], 0, 0, (mSH, I, L))) rfl ?_
          refine mRt (r := (some (.int (((0 + (mAt I 2 3 (i + 0))) + (mAt I 2 3 (i + 1))) + (mAt I 2 3 (i + 2)))))) (h := (mSH, I, L)) rfl (mRet_int rfl) ?_
          show mWP mTb_ mFT ro (d + 2, 73, 99, [some (.ref 1), some (.long dr), none, some (.long (((x * 1103515245) + 12345) - ((x * 1103515245) + 12345) / 2147483648 * 2147483648)), none, some (.int i), some (.int j), some (.int 1), some (.int 3)], [.int (((0 + (mAt I 2 3 (i + 0))) + (mAt I 2 3 (i + 1))) + (mAt I 2 3 (i + 2))), .ref 4], 0, 0, (mSH, I, L)) _
          refine mB 2 (s2 := (d + 2, 73, 103, [some (.ref 1), some (.long dr), none, some (.long (((x * 1103515245) + 12345) - ((x * 1103515245) + 12345) / 2147483648 * 2147483648)), none, some (.int i), some (.int j), some (.int 1), some (.int 3)], [.long 1024, .long (((x * 1103515245) + 12345) - ((x * 1103515245) + 12345) / 2147483648 * 2147483648), .int (((0 + (mAt I 2 3 (i + 0))) + (mAt I 2 3 (i + 1))) + (mAt I 2 3 (i + 2))), .ref 4], 0, 0, (mSH, I, L))) rfl ?_
          refine mRq (s2 := (d + 2, 73, 104, [some (.ref 1), some (.long dr), none, some (.long (((x * 1103515245) + 12345) - ((x * 1103515245) + 12345) / 2147483648 * 2147483648)), none, some (.int i), some (.int j), some (.int 1), some (.int 3)], [.long ((((x * 1103515245) + 12345) - ((x * 1103515245) + 12345) / 2147483648 * 2147483648) / 1024), .int (((0 + (mAt I 2 3 (i + 0))) + (mAt I 2 3 (i + 1))) + (mAt I 2 3 (i + 2))), .ref 4], 0, 0, (mSH, I, L))) rfl (by decide) ?_
          refine mB 1 (s2 := (d + 2, 73, 107, [some (.ref 1), some (.long dr), none, some (.long (((x * 1103515245) + 12345) - ((x * 1103515245) + 12345) / 2147483648 * 2147483648)), none, some (.int i), some (.int j), some (.int 1), some (.int 3)], [.long 3, .long ((((x * 1103515245) + 12345) - ((x * 1103515245) + 12345) / 2147483648 * 2147483648) / 1024), .int (((0 + (mAt I 2 3 (i + 0))) + (mAt I 2 3 (i + 1))) + (mAt I 2 3 (i + 2))), .ref 4], 0, 0, (mSH, I, L))) rfl ?_
          refine mRq (s2 := (d + 2, 73, 108, [some (.ref 1), some (.long dr), none, some (.long (((x * 1103515245) + 12345) - ((x * 1103515245) + 12345) / 2147483648 * 2147483648)), none, some (.int i), some (.int j), some (.int 1), some (.int 3)], [.long (((((x * 1103515245) + 12345) - ((x * 1103515245) + 12345) / 2147483648 * 2147483648) / 1024) - ((((x * 1103515245) + 12345) - ((x * 1103515245) + 12345) / 2147483648 * 2147483648) / 1024) / 3 * 3), .int (((0 + (mAt I 2 3 (i + 0))) + (mAt I 2 3 (i + 1))) + (mAt I 2 3 (i + 2))), .ref 4], 0, 0, (mSH, I, L))) rfl (by decide) ?_
          refine mB 2 (s2 := (d + 2, 73, 110, [some (.ref 1), some (.long dr), none, some (.long (((x * 1103515245) + 12345) - ((x * 1103515245) + 12345) / 2147483648 * 2147483648)), none, some (.int i), some (.int j), some (.int 1), some (.int 3)], [.int ((((0 + (mAt I 2 3 (i + 0))) + (mAt I 2 3 (i + 1))) + (mAt I 2 3 (i + 2))) + ((((((x * 1103515245) + 12345) - ((x * 1103515245) + 12345) / 2147483648 * 2147483648) / 1024) - ((((x * 1103515245) + 12345) - ((x * 1103515245) + 12345) / 2147483648 * 2147483648) / 1024) / 3 * 3 : Int64).toInt32)), .ref 4], 0, 0, (mSH, I, L))) rfl ?_
          refine mCall (s2 := (d + 1, 44, 0, [some (.ref 4), some (.int ((((0 + (mAt I 2 3 (i + 0))) + (mAt I 2 3 (i + 1))) + (mAt I 2 3 (i + 2))) + ((((((x * 1103515245) + 12345) - ((x * 1103515245) + 12345) / 2147483648 * 2147483648) / 1024) - ((((x * 1103515245) + 12345) - ((x * 1103515245) + 12345) / 2147483648 * 2147483648) / 1024) / 3 * 3 : Int64).toInt32)))], [], 0, 0, (mSH, I, L))) rfl ?_
          refine mB 1 (s2 := (d + 1, 44, 1, [some (.ref 4), some (.int ((((0 + (mAt I 2 3 (i + 0))) + (mAt I 2 3 (i + 1))) + (mAt I 2 3 (i + 2))) + ((((((x * 1103515245) + 12345) - ((x * 1103515245) + 12345) / 2147483648 * 2147483648) / 1024) - ((((x * 1103515245) + 12345) - ((x * 1103515245) + 12345) / 2147483648 * 2147483648) / 1024) / 3 * 3 : Int64).toInt32)))], [.ref 4], 0, 0, (mSH, I, L))) rfl ?_
          refine mCall (s2 := (d, 40, 0, [some (.ref 4)], [], 0, 0, (mSH, I, L))) rfl ?_
          refine mB 5 (s2 := (d, 40, 9, [some (.ref 4)], [.int 8, .int (I 4 1)], 0, 0, (mSH, I, L))) rfl ?_
          refine mBr (s2 := (d, 40, 16, [some (.ref 4)], [], 0, 0, (mSH, I, L))) (s3 := (d, 40, 12, [some (.ref 4)], [], 0, 0, (mSH, I, L))) rfl (fun c4 => ?_) (fun c4 => ?_)
          · refine mB 1 (s2 := (d, 40, 17, [some (.ref 4)], [.int 0], 0, 0, (mSH, I, L))) rfl ?_
            refine mRt (r := (some (.int 0))) (h := (mSH, I, L)) rfl rfl ?_
            show mWP mTb_ mFT ro (d + 1, 44, 4, [some (.ref 4), some (.int ((((0 + (mAt I 2 3 (i + 0))) + (mAt I 2 3 (i + 1))) + (mAt I 2 3 (i + 2))) + ((((((x * 1103515245) + 12345) - ((x * 1103515245) + 12345) / 2147483648 * 2147483648) / 1024) - ((((x * 1103515245) + 12345) - ((x * 1103515245) + 12345) / 2147483648 * 2147483648) / 1024) / 3 * 3 : Int64).toInt32)))], [.int 0], 0, 0, (mSH, I, L)) _
            refine mBT (s2 := (d + 1, 44, 7, [some (.ref 4), some (.int ((((0 + (mAt I 2 3 (i + 0))) + (mAt I 2 3 (i + 1))) + (mAt I 2 3 (i + 2))) + ((((((x * 1103515245) + 12345) - ((x * 1103515245) + 12345) / 2147483648 * 2147483648) / 1024) - ((((x * 1103515245) + 12345) - ((x * 1103515245) + 12345) / 2147483648 * 2147483648) / 1024) / 3 * 3 : Int64).toInt32)))], [], 0, 0, (mSH, I, L))) rfl (by decide) ?_
            refine mB 5 (s2 := (d + 1, 44, 16, [some (.ref 4), some (.int ((((0 + (mAt I 2 3 (i + 0))) + (mAt I 2 3 (i + 1))) + (mAt I 2 3 (i + 2))) + ((((((x * 1103515245) + 12345) - ((x * 1103515245) + 12345) / 2147483648 * 2147483648) / 1024) - ((((x * 1103515245) + 12345) - ((x * 1103515245) + 12345) / 2147483648 * 2147483648) / 1024) / 3 * 3 : Int64).toInt32)))], [.int ((((0 + (mAt I 2 3 (i + 0))) + (mAt I 2 3 (i + 1))) + (mAt I 2 3 (i + 2))) + ((((((x * 1103515245) + 12345) - ((x * 1103515245) + 12345) / 2147483648 * 2147483648) / 1024) - ((((x * 1103515245) + 12345) - ((x * 1103515245) + 12345) / 2147483648 * 2147483648) / 1024) / 3 * 3 : Int64).toInt32)), .int (I 4 1), .ref 5], 0, 0, (mSH, I, L))) rfl ?_
            refine mRq (s2 := (d + 1, 44, 17, [some (.ref 4), some (.int ((((0 + (mAt I 2 3 (i + 0))) + (mAt I 2 3 (i + 1))) + (mAt I 2 3 (i + 2))) + ((((((x * 1103515245) + 12345) - ((x * 1103515245) + 12345) / 2147483648 * 2147483648) / 1024) - ((((x * 1103515245) + 12345) - ((x * 1103515245) + 12345) / 2147483648 * 2147483648) / 1024) / 3 * 3 : Int64).toInt32)))], [], 0, 0, (mSH, (mUp I 5 ((I 4 1).toNatClampNeg) ((((0 + (mAt I 2 3 (i + 0))) + (mAt I 2 3 (i + 1))) + (mAt I 2 3 (i + 2))) + ((((((x * 1103515245) + 12345) - ((x * 1103515245) + 12345) / 2147483648 * 2147483648) / 1024) - ((((x * 1103515245) + 12345) - ((x * 1103515245) + 12345) / 2147483648 * 2147483648) / 1024) / 3 * 3 : Int64).toInt32))), L))) rfl (mVp_of (h6 (of_decide_eq_false c0) (of_decide_eq_false c1) (of_decide_eq_true c2) (of_decide_eq_false c3) (of_decide_eq_true c4))) ?_
            refine mB 6 (s2 := (d + 1, 44, 27, [some (.ref 4), some (.int ((((0 + (mAt I 2 3 (i + 0))) + (mAt I 2 3 (i + 1))) + (mAt I 2 3 (i + 2))) + ((((((x * 1103515245) + 12345) - ((x * 1103515245) + 12345) / 2147483648 * 2147483648) / 1024) - ((((x * 1103515245) + 12345) - ((x * 1103515245) + 12345) / 2147483648 * 2147483648) / 1024) / 3 * 3 : Int64).toInt32)))], [], 0, 0, (mSH, (mUp (mUp I 5 ((I 4 1).toNatClampNeg) ((((0 + (mAt I 2 3 (i + 0))) + (mAt I 2 3 (i + 1))) + (mAt I 2 3 (i + 2))) + ((((((x * 1103515245) + 12345) - ((x * 1103515245) + 12345) / 2147483648 * 2147483648) / 1024) - ((((x * 1103515245) + 12345) - ((x * 1103515245) + 12345) / 2147483648 * 2147483648) / 1024) / 3 * 3 : Int64).toInt32))) 4 1 ((I 4 1) + 1)), L))) rfl ?_
            refine mRt (r := none) (h := (mSH, (mUp (mUp I 5 ((I 4 1).toNatClampNeg) ((((0 + (mAt I 2 3 (i + 0))) + (mAt I 2 3 (i + 1))) + (mAt I 2 3 (i + 2))) + ((((((x * 1103515245) + 12345) - ((x * 1103515245) + 12345) / 2147483648 * 2147483648) / 1024) - ((((x * 1103515245) + 12345) - ((x * 1103515245) + 12345) / 2147483648 * 2147483648) / 1024) / 3 * 3 : Int64).toInt32))) 4 1 ((I 4 1) + 1)), L)) rfl rfl ?_
            show mWP mTb_ mFT ro (d + 2, 73, 113, [some (.ref 1), some (.long dr), none, some (.long (((x * 1103515245) + 12345) - ((x * 1103515245) + 12345) / 2147483648 * 2147483648)), none, some (.int i), some (.int j), some (.int 1), some (.int 3)], [], 0, 0, (mSH, (mUp (mUp I 5 ((I 4 1).toNatClampNeg) ((((0 + (mAt I 2 3 (i + 0))) + (mAt I 2 3 (i + 1))) + (mAt I 2 3 (i + 2))) + ((((((x * 1103515245) + 12345) - ((x * 1103515245) + 12345) / 2147483648 * 2147483648) / 1024) - ((((x * 1103515245) + 12345) - ((x * 1103515245) + 12345) / 2147483648 * 2147483648) / 1024) / 3 * 3 : Int64).toInt32))) 4 1 ((I 4 1) + 1)), L)) _
            refine mB 6 (s2 := (d + 2, 73, 16, [some (.ref 1), some (.long dr), none, some (.long (((x * 1103515245) + 12345) - ((x * 1103515245) + 12345) / 2147483648 * 2147483648)), none, some (.int (i + 3)), some (.int (j + 1)), some (.int 1), some (.int 3)], [], 0, 0, (mSH, (mUp (mUp I 5 ((I 4 1).toNatClampNeg) ((((0 + (mAt I 2 3 (i + 0))) + (mAt I 2 3 (i + 1))) + (mAt I 2 3 (i + 2))) + ((((((x * 1103515245) + 12345) - ((x * 1103515245) + 12345) / 2147483648 * 2147483648) / 1024) - ((((x * 1103515245) + 12345) - ((x * 1103515245) + 12345) / 2147483648 * 2147483648) / 1024) / 3 * 3 : Int64).toInt32))) 4 1 ((I 4 1) + 1)), L))) rfl ?_
            exact h7 (of_decide_eq_false c0) (of_decide_eq_false c1) (of_decide_eq_true c2) (of_decide_eq_false c3) (of_decide_eq_true c4)
          · refine mB 2 (s2 := (d, 40, 17, [some (.ref 4)], [.int 1], 0, 0, (mSH, I, L))) rfl ?_
            refine mRt (r := (some (.int 1))) (h := (mSH, I, L)) rfl rfl ?_
            show mWP mTb_ mFT ro (d + 1, 44, 4, [some (.ref 4), some (.int ((((0 + (mAt I 2 3 (i + 0))) + (mAt I 2 3 (i + 1))) + (mAt I 2 3 (i + 2))) + ((((((x * 1103515245) + 12345) - ((x * 1103515245) + 12345) / 2147483648 * 2147483648) / 1024) - ((((x * 1103515245) + 12345) - ((x * 1103515245) + 12345) / 2147483648 * 2147483648) / 1024) / 3 * 3 : Int64).toInt32)))], [.int 1], 0, 0, (mSH, I, L)) _
            refine mBF (s3 := (d + 1, 44, 27, [some (.ref 4), some (.int ((((0 + (mAt I 2 3 (i + 0))) + (mAt I 2 3 (i + 1))) + (mAt I 2 3 (i + 2))) + ((((((x * 1103515245) + 12345) - ((x * 1103515245) + 12345) / 2147483648 * 2147483648) / 1024) - ((((x * 1103515245) + 12345) - ((x * 1103515245) + 12345) / 2147483648 * 2147483648) / 1024) / 3 * 3 : Int64).toInt32)))], [], 0, 0, (mSH, I, L))) rfl (by decide) ?_
            refine mRt (r := none) (h := (mSH, I, L)) rfl rfl ?_
            show mWP mTb_ mFT ro (d + 2, 73, 113, [some (.ref 1), some (.long dr), none, some (.long (((x * 1103515245) + 12345) - ((x * 1103515245) + 12345) / 2147483648 * 2147483648)), none, some (.int i), some (.int j), some (.int 1), some (.int 3)], [], 0, 0, (mSH, I, L)) _
            refine mB 6 (s2 := (d + 2, 73, 16, [some (.ref 1), some (.long dr), none, some (.long (((x * 1103515245) + 12345) - ((x * 1103515245) + 12345) / 2147483648 * 2147483648)), none, some (.int (i + 3)), some (.int (j + 1)), some (.int 1), some (.int 3)], [], 0, 0, (mSH, I, L))) rfl ?_
            exact h8 (of_decide_eq_false c0) (of_decide_eq_false c1) (of_decide_eq_true c2) (of_decide_eq_false c3) (of_decide_eq_false c4)
      · refine mB 3 (s2 := (d + 2, 73, 77, [some (.ref 1), some (.long dr), none, some (.long (((x * 1103515245) + 12345) - ((x * 1103515245) + 12345) / 2147483648 * 2147483648)), none, some (.int i), some (.int j), some (.int 0), o8], [.int 0], 0, 0, (mSH, I, L))) rfl ?_
        refine mBT (s2 := (d + 2, 73, 84, [some (.ref 1), some (.long dr), none, some (.long (((x * 1103515245) + 12345) - ((x * 1103515245) + 12345) / 2147483648 * 2147483648)), none, some (.int i), some (.int j), some (.int 0), o8], [], 0, 0, (mSH, I, L))) rfl (by decide) ?_
        refine mB 7 (s2 := (d + 2, 73, 96, [some (.ref 1), some (.long dr), none, some (.long (((x * 1103515245) + 12345) - ((x * 1103515245) + 12345) / 2147483648 * 2147483648)), none, some (.int i), some (.int j), some (.int 0), some (.int 1)], [.int 1, .int i, .ref 1, .ref 4], 0, 0, (mSH, I, L))) rfl ?_
        refine mCall (s2 := (d + 1, 69, 0, [some (.ref 1), some (.int i), some (.int 1), none, none], [], 0, 0, (mSH, I, L))) rfl ?_
        refine mB 6 (s2 := (d + 1, 69, 8, [some (.ref 1), some (.int i), some (.int 1), some (.int 0), some (.int 0)], [.int 1, .int 0], 0, 0, (mSH, I, L))) rfl ?_
        refine mBF (s3 := (d + 1, 69, 11, [some (.ref 1), some (.int i), some (.int 1), some (.int 0), some (.int 0)], [], 0, 0, (mSH, I, L))) rfl (by decide) ?_
        refine mB 6 (s2 := (d + 1, 69, 20, [some (.ref 1), some (.int i), some (.int 1), some (.int 0), some (.int 0)], [.int (i + 0), .ref 2, .int 0], 0, 0, (mSH, I, L))) rfl ?_
        refine mCall (s2 := (d, 42, 0, [some (.ref 2), some (.int (i + 0))], [], 0, 0, (mSH, I, L))) rfl ?_
        refine w_at_2 n2 ?_
        show mWP mTb_ mFT ro (d + 1, 69, 23, [some (.ref 1), some (.int i), some (.int 1), some (.int 0), some (.int 0)], [.int (mAt I 2 3 (i + 0)), .int 0], 0, 0, (mSH, I, L)) _
        refine mB 6 (s2 := (d + 1, 69, 8, [some (.ref 1), some (.int i), some (.int 1), some (.int (0 + (mAt I 2 3 (i + 0)))), some (.int 1)], [.int 1, .int 1], 0, 0, (mSH, I, L))) rfl ?_
        refine mBT (s2 := (d + 1, 69, 31, [some (.ref 1), some (.int i), some (.int 1), some (.int (0 + (mAt I 2 3 (i + 0)))), some (.int 1)], [], 0, 0, (mSH, I, L))) rfl (by decide) ?_
        refine mB 1 (s2 := (d + 1, 69, 32, [some (.ref 1), some (.int i), some (.int 1), some (.int (0 + (mAt I 2 3 (i + 0)))), some (.int 1)], [.int (0 + (mAt I 2 3 (i + 0)))], 0, 0, (mSH, I, L))) rfl ?_
        refine mRt (r := (some (.int (0 + (mAt I 2 3 (i + 0)))))) (h := (mSH, I, L)) rfl (mRet_int rfl) ?_
        show mWP mTb_ mFT ro (d + 2, 73, 99, [some (.ref 1), some (.long dr), none, some (.long (((x * 1103515245) + 12345) - ((x * 1103515245) + 12345) / 2147483648 * 2147483648)), none, some (.int i), some (.int j), some (.int 0), some (.int 1)], [.int (0 + (mAt I 2 3 (i + 0))), .ref 4], 0, 0, (mSH, I, L)) _
        refine mB 2 (s2 := (d + 2, 73, 103, [some (.ref 1), some (.long dr), none, some (.long (((x * 1103515245) + 12345) - ((x * 1103515245) + 12345) / 2147483648 * 2147483648)), none, some (.int i), some (.int j), some (.int 0), some (.int 1)], [.long 1024, .long (((x * 1103515245) + 12345) - ((x * 1103515245) + 12345) / 2147483648 * 2147483648), .int (0 + (mAt I 2 3 (i + 0))), .ref 4], 0, 0, (mSH, I, L))) rfl ?_
        refine mRq (s2 := (d + 2, 73, 104, [some (.ref 1), some (.long dr), none, some (.long (((x * 1103515245) + 12345) - ((x * 1103515245) + 12345) / 2147483648 * 2147483648)), none, some (.int i), some (.int j), some (.int 0), some (.int 1)], [.long ((((x * 1103515245) + 12345) - ((x * 1103515245) + 12345) / 2147483648 * 2147483648) / 1024), .int (0 + (mAt I 2 3 (i + 0))), .ref 4], 0, 0, (mSH, I, L))) rfl (by decide) ?_
        refine mB 1 (s2 := (d + 2, 73, 107, [some (.ref 1), some (.long dr), none, some (.long (((x * 1103515245) + 12345) - ((x * 1103515245) + 12345) / 2147483648 * 2147483648)), none, some (.int i), some (.int j), some (.int 0), some (.int 1)], [.long 3, .long ((((x * 1103515245) + 12345) - ((x * 1103515245) + 12345) / 2147483648 * 2147483648) / 1024), .int (0 + (mAt I 2 3 (i + 0))), .ref 4], 0, 0, (mSH, I, L))) rfl ?_
        refine mRq (s2 := (d + 2, 73, 108, [some (.ref 1), some (.long dr), none, some (.long (((x * 1103515245) + 12345) - ((x * 1103515245) + 12345) / 2147483648 * 2147483648)), none, some (.int i), some (.int j), some (.int 0), some (.int 1)], [.long (((((x * 1103515245) + 12345) - ((x * 1103515245) + 12345) / 2147483648 * 2147483648) / 1024) - ((((x * 1103515245) + 12345) - ((x * 1103515245) + 12345) / 2147483648 * 2147483648) / 1024) / 3 * 3), .int (0 + (mAt I 2 3 (i + 0))), .ref 4], 0, 0, (mSH, I, L))) rfl (by decide) ?_
        refine mB 2 (s2 := (d + 2, 73, 110, [some (.ref 1), some (.long dr), none, some (.long (((x * 1103515245) + 12345) - ((x * 1103515245) + 12345) / 2147483648 * 2147483648)), none, some (.int i), some (.int j), some (.int 0), some (.int 1)], [.int ((0 + (mAt I 2 3 (i + 0))) + ((((((x * 1103515245) + 12345) - ((x * 1103515245) + 12345) / 2147483648 * 2147483648) / 1024) - ((((x * 1103515245) + 12345) - ((x * 1103515245) + 12345) / 2147483648 * 2147483648) / 1024) / 3 * 3 : Int64).toInt32)), .ref 4], 0, 0, (mSH, I, L))) rfl ?_
        refine mCall (s2 := (d + 1, 44, 0, [some (.ref 4), some (.int ((0 + (mAt I 2 3 (i + 0))) + ((((((x * 1103515245) + 12345) - ((x * 1103515245) + 12345) / 2147483648 * 2147483648) / 1024) - ((((x * 1103515245) + 12345) - ((x * 1103515245) + 12345) / 2147483648 * 2147483648) / 1024) / 3 * 3 : Int64).toInt32)))], [], 0, 0, (mSH, I, L))) rfl ?_
        refine mB 1 (s2 := (d + 1, 44, 1, [some (.ref 4), some (.int ((0 + (mAt I 2 3 (i + 0))) + ((((((x * 1103515245) + 12345) - ((x * 1103515245) + 12345) / 2147483648 * 2147483648) / 1024) - ((((x * 1103515245) + 12345) - ((x * 1103515245) + 12345) / 2147483648 * 2147483648) / 1024) / 3 * 3 : Int64).toInt32)))], [.ref 4], 0, 0, (mSH, I, L))) rfl ?_
        refine mCall (s2 := (d, 40, 0, [some (.ref 4)], [], 0, 0, (mSH, I, L))) rfl ?_
        refine mB 5 (s2 := (d, 40, 9, [some (.ref 4)], [.int 8, .int (I 4 1)], 0, 0, (mSH, I, L))) rfl ?_
        refine mBr (s2 := (d, 40, 16, [some (.ref 4)], [], 0, 0, (mSH, I, L))) (s3 := (d, 40, 12, [some (.ref 4)], [], 0, 0, (mSH, I, L))) rfl (fun c3 => ?_) (fun c3 => ?_)
        · refine mB 1 (s2 := (d, 40, 17, [some (.ref 4)], [.int 0], 0, 0, (mSH, I, L))) rfl ?_
          refine mRt (r := (some (.int 0))) (h := (mSH, I, L)) rfl rfl ?_
          show mWP mTb_ mFT ro (d + 1, 44, 4, [some (.ref 4), some (.int ((0 + (mAt I 2 3 (i + 0))) + ((((((x * 1103515245) + 12345) - ((x * 1103515245) + 12345) / 2147483648 * 2147483648) / 1024) - ((((x * 1103515245) + 12345) - ((x * 1103515245) + 12345) / 2147483648 * 2147483648) / 1024) / 3 * 3 : Int64).toInt32)))], [.int 0], 0, 0, (mSH, I, L)) _
          refine mBT (s2 := (d + 1, 44, 7, [some (.ref 4), some (.int ((0 + (mAt I 2 3 (i + 0))) + ((((((x * 1103515245) + 12345) - ((x * 1103515245) + 12345) / 2147483648 * 2147483648) / 1024) - ((((x * 1103515245) + 12345) - ((x * 1103515245) + 12345) / 2147483648 * 2147483648) / 1024) / 3 * 3 : Int64).toInt32)))], [], 0, 0, (mSH, I, L))) rfl (by decide) ?_
          refine mB 5 (s2 := (d + 1, 44, 16, [some (.ref 4), some (.int ((0 + (mAt I 2 3 (i + 0))) + ((((((x * 1103515245) + 12345) - ((x * 1103515245) + 12345) / 2147483648 * 2147483648) / 1024) - ((((x * 1103515245) + 12345) - ((x * 1103515245) + 12345) / 2147483648 * 2147483648) / 1024) / 3 * 3 : Int64).toInt32)))], [.int ((0 + (mAt I 2 3 (i + 0))) + ((((((x * 1103515245) + 12345) - ((x * 1103515245) + 12345) / 2147483648 * 2147483648) / 1024) - ((((x * 1103515245) + 12345) - ((x * 1103515245) + 12345) / 2147483648 * 2147483648) / 1024) / 3 * 3 : Int64).toInt32)), .int (I 4 1), .ref 5], 0, 0, (mSH, I, L))) rfl ?_
          refine mRq (s2 := (d + 1, 44, 17, [some (.ref 4), some (.int ((0 + (mAt I 2 3 (i + 0))) + ((((((x * 1103515245) + 12345) - ((x * 1103515245) + 12345) / 2147483648 * 2147483648) / 1024) - ((((x * 1103515245) + 12345) - ((x * 1103515245) + 12345) / 2147483648 * 2147483648) / 1024) / 3 * 3 : Int64).toInt32)))], [], 0, 0, (mSH, (mUp I 5 ((I 4 1).toNatClampNeg) ((0 + (mAt I 2 3 (i + 0))) + ((((((x * 1103515245) + 12345) - ((x * 1103515245) + 12345) / 2147483648 * 2147483648) / 1024) - ((((x * 1103515245) + 12345) - ((x * 1103515245) + 12345) / 2147483648 * 2147483648) / 1024) / 3 * 3 : Int64).toInt32))), L))) rfl (mVp_of (h9 (of_decide_eq_false c0) (of_decide_eq_false c1) (of_decide_eq_false c2) (of_decide_eq_true c3))) ?_
          refine mB 6 (s2 := (d + 1, 44, 27, [some (.ref 4), some (.int ((0 + (mAt I 2 3 (i + 0))) + ((((((x * 1103515245) + 12345) - ((x * 1103515245) + 12345) / 2147483648 * 2147483648) / 1024) - ((((x * 1103515245) + 12345) - ((x * 1103515245) + 12345) / 2147483648 * 2147483648) / 1024) / 3 * 3 : Int64).toInt32)))], [], 0, 0, (mSH, (mUp (mUp I 5 ((I 4 1).toNatClampNeg) ((0 + (mAt I 2 3 (i + 0))) + ((((((x * 1103515245) + 12345) - ((x * 1103515245) + 12345) / 2147483648 * 2147483648) / 1024) - ((((x * 1103515245) + 12345) - ((x * 1103515245) + 12345) / 2147483648 * 2147483648) / 1024) / 3 * 3 : Int64).toInt32))) 4 1 ((I 4 1) + 1)), L))) rfl ?_
          refine mRt (r := none) (h := (mSH, (mUp (mUp I 5 ((I 4 1).toNatClampNeg) ((0 + (mAt I 2 3 (i + 0))) + ((((((x * 1103515245) + 12345) - ((x * 1103515245) + 12345) / 2147483648 * 2147483648) / 1024) - ((((x * 1103515245) + 12345) - ((x * 1103515245) + 12345) / 2147483648 * 2147483648) / 1024) / 3 * 3 : Int64).toInt32))) 4 1 ((I 4 1) + 1)), L)) rfl rfl ?_
          show mWP mTb_ mFT ro (d + 2, 73, 113, [some (.ref 1), some (.long dr), none, some (.long (((x * 1103515245) + 12345) - ((x * 1103515245) + 12345) / 2147483648 * 2147483648)), none, some (.int i), some (.int j), some (.int 0), some (.int 1)], [], 0, 0, (mSH, (mUp (mUp I 5 ((I 4 1).toNatClampNeg) ((0 + (mAt I 2 3 (i + 0))) + ((((((x * 1103515245) + 12345) - ((x * 1103515245) + 12345) / 2147483648 * 2147483648) / 1024) - ((((x * 1103515245) + 12345) - ((x * 1103515245) + 12345) / 2147483648 * 2147483648) / 1024) / 3 * 3 : Int64).toInt32))) 4 1 ((I 4 1) + 1)), L)) _
          refine mB 6 (s2 := (d + 2, 73, 16, [some (.ref 1), some (.long dr), none, some (.long (((x * 1103515245) + 12345) - ((x * 1103515245) + 12345) / 2147483648 * 2147483648)), none, some (.int (i + 1)), some (.int (j + 1)), some (.int 0), some (.int 1)], [], 0, 0, (mSH, (mUp (mUp I 5 ((I 4 1).toNatClampNeg) ((0 + (mAt I 2 3 (i + 0))) + ((((((x * 1103515245) + 12345) - ((x * 1103515245) + 12345) / 2147483648 * 2147483648) / 1024) - ((((x * 1103515245) + 12345) - ((x * 1103515245) + 12345) / 2147483648 * 2147483648) / 1024) / 3 * 3 : Int64).toInt32))) 4 1 ((I 4 1) + 1)), L))) rfl ?_
          exact h10 (of_decide_eq_false c0) (of_decide_eq_false c1) (of_decide_eq_false c2) (of_decide_eq_true c3)
        · refine mB 2 (s2 := (d, 40, 17, [some (.ref 4)], [.int 1], 0, 0, (mSH, I, L))) rfl ?_
          refine mRt (r := (some (.int 1))) (h := (mSH, I, L)) rfl rfl ?_
          show mWP mTb_ mFT ro (d + 1, 44, 4, [some (.ref 4), some (.int ((0 + (mAt I 2 3 (i + 0))) + ((((((x * 1103515245) + 12345) - ((x * 1103515245) + 12345) / 2147483648 * 2147483648) / 1024) - ((((x * 1103515245) + 12345) - ((x * 1103515245) + 12345) / 2147483648 * 2147483648) / 1024) / 3 * 3 : Int64).toInt32)))], [.int 1], 0, 0, (mSH, I, L)) _
          refine mBF (s3 := (d + 1, 44, 27, [some (.ref 4), some (.int ((0 + (mAt I 2 3 (i + 0))) + ((((((x * 1103515245) + 12345) - ((x * 1103515245) + 12345) / 2147483648 * 2147483648) / 1024) - ((((x * 1103515245) + 12345) - ((x * 1103515245) + 12345) / 2147483648 * 2147483648) / 1024) / 3 * 3 : Int64).toInt32)))], [], 0, 0, (mSH, I, L))) rfl (by decide) ?_
          refine mRt (r := none) (h := (mSH, I, L)) rfl rfl ?_
          show mWP mTb_ mFT ro (d + 2, 73, 113, [some (.ref 1), some (.long dr), none, some (.long (((x * 1103515245) + 12345) - ((x * 1103515245) + 12345) / 2147483648 * 2147483648)), none, some (.int i), some (.int j), some (.int 0), some (.int 1)], [], 0, 0, (mSH, I, L)) _
          refine mB 6 (s2 := (d + 2, 73, 16, [some (.ref 1), some (.long dr), none, some (.long (((x * 1103515245) + 12345) - ((x * 1103515245) + 12345) / 2147483648 * 2147483648)), none, some (.int (i + 1)), some (.int (j + 1)), some (.int 0), some (.int 1)], [], 0, 0, (mSH, I, L))) rfl ?_
          exact h11 (of_decide_eq_false c0) (of_decide_eq_false c1) (of_decide_eq_false c2) (of_decide_eq_false c3)
def mNxt (x : Int64) : Int64 := ((x * 1103515245) + 12345) - ((x * 1103515245) + 12345) / 2147483648 * 2147483648
def mQ4 (x : Int64) : Int32 := lg_cmp ((mNxt x / 65536) - (mNxt x / 65536) / 4 * 4) 0
def mItG (g : Int64 → Int64) : Nat → Int64 → Int64
  | 0, x => x
  | m + 1, x => mItG g m (g x)
theorem mItG_s (g : Int64 → Int64) (m : Nat) (x : Int64) : mItG g (m + 1) x = mItG g m (g x) := rfl
theorem mItG_z (g : Int64 → Int64) (x : Int64) : mItG g 0 x = x := rfl
def mIt (m : Nat) (x : Int64) : Int64 := mItG mNxt m x
def mDL (n : Int32) : Nat → Int64 → Int32 → Int32 → Int32
  | 0, _, _, j => j
  | f + 1, x, i, j => if 8 ≤ j then j else if n ≤ i then j else if mQ4 x = 0 then (if n - i < 3 then mDL n f (mNxt x) (i + 1) (j + 1) else mDL n f (mNxt x) (i + 3) (j + 1)) else mDL n f (mNxt x) (i + 1) (j + 1)
theorem mDL_s (n : Int32) (f : Nat) (x : Int64) (i j : Int32) : mDL n (f + 1) x i j = if 8 ≤ j then j else if n ≤ i then j else if mQ4 x = 0 then (if n - i < 3 then mDL n f (mNxt x) (i + 1) (j + 1) else mDL n f (mNxt x) (i + 3) (j + 1)) else mDL n f (mNxt x) (i + 1) (j + 1) := rfl
theorem mIt_s (m : Nat) (x : Int64) : mIt (m + 1) x = mIt m (mNxt x) := mItG_s mNxt m x
theorem mIt_z (x : Int64) : mIt 0 x = x := mItG_z mNxt x
theorem mNxt_e (x : Int64) : mNxt x = ((x * 1103515245) + 12345) - ((x * 1103515245) + 12345) / 2147483648 * 2147483648 := rfl
theorem mQ4_e (x : Int64) : mQ4 x = lg_cmp ((mNxt x / 65536) - (mNxt x / 65536) / 4 * 4) 0 := rfl
section DR
variable {ro : Nat → Nat × (Nat → Int32)} {Q : mPo} {d : Nat} {L : Nat → Nat → Int64}
theorem w_drawSpans {N : Nat} (hN : N ≤ 16) {sd : Int32} (m : Nat) : ∀ (k : Nat) (x : Int64) (I : Nat → Nat → Int32), k + m = N → I 2 1 = nI k → (∀ I', I' 2 1 = nI N → (∀ r, r ≠ 2 → r ≠ 3 → I' r = I r) → Q (some (.long (mIt m x))) (mSH, I', L)) → mWP mTb_ mFT ro (d + 2, 72, 14, [some (.ref 1), some (.int sd), some (.int (nI N)), some (.long x), none, some (.int (nI k))], [], 0, 0, (mSH, I, L)) Q := by
  induction m with
  | zero =>
    intro k x I e hI hq
    simp only [mIt_z] at hq
    have e : k = N := by omega
    subst e
    refine s_drawSpans (fun _ => hq I hI (fun _ _ _ => rfl)) (fun c => absurd (nI_le (Nat.le_refl k) (by omega)) c) (fun c => absurd (nI_le (Nat.le_refl k) (by omega)) c) (fun c => absurd (nI_le (Nat.le_refl k) (by omega)) c)
  | succ m ih =>
    intro k x I e hI hq
    simp only [mIt_s] at hq
    have hlt : nI k < nI 16 := nI_lt (a := k) (b := 16) (by omega) (by omega)
    have hlt : nI k < 16 := hlt
    refine s_drawSpans (fun c => absurd c (nI_ge (by omega) (by omega))) (fun _ _ => by rw [hI]; exact vp_in_nI (by omega) (by omega)) (fun _ _ => ?_) (fun _ c => absurd (by rw [hI]; exact hlt) c)
    rw [nI_1, ← mNxt_e]
    have hu : ∀ z, (mUp (mUp I 3 (I 2 1).toNatClampNeg z) 2 1 (I 2 1 + 1)) 2 1 = nI (k + 1) := fun z => by
      show I 2 1 + 1 = _
      rw [hI, nI_1]
    refine ih (k + 1) (mNxt x) _ (by omega) (hu _) (fun I' h1 h2 => ?_)
    refine hq I' h1 (fun r n2 n3 => ?_)
    rw [h2 r n2 n3, mUp_row n2, mUp_row n3]
theorem w_drawLayers {N : Nat} (hN : N ≤ 16) {dr : Int64} (f : Nat) : ∀ (x : Int64) (i : Int32) (J : Nat) (I : Nat → Nat → Int32) (o7 o8 : Option Value), 8 - J < f → J ≤ 8 → I 2 1 = nI N → I 4 1 = nI J → (∀ I', I' 4 1 = mDL (nI N) f x i (nI J) → (∀ r, r ≠ 4 → r ≠ 5 → I' r = I r) → Q none (mSH, I', L)) → mWP mTb_ mFT ro (d + 2, 73, 16, [some (.ref 1), some (.long dr), none, some (.long x), none, some (.int i), some (.int (nI J)), o7, o8], [], 0, 0, (mSH, I, L)) Q := by
  induction f with
  | zero =>
    intro x i J I o7 o8 hf
    omega
  | succ f ih =>
    intro x i J I o7 o8 hf hJ h2 h4 hq
    have hle : (I 2 1).toInt ≤ (16 : Nat) := by
      rw [h2, nI_toInt (by omega)]
      omega
    have hj8 : ¬ ((8 : Int32) ≤ nI J) → J < 8 := fun c => by
      rcases Nat.lt_or_ge J 8 with g | g
      · exact g
      · exact absurd (nI_le (a := 8) (b := J) g (by omega)) c
    have hf8 : ¬ ((8 : Int32) ≤ nI J) → I 4 1 < 8 := fun c => by
      rw [h4]
      exact nI_lt (a := J) (b := 8) (hj8 c) (by omega)
    have hvp : ¬ ((8 : Int32) ≤ nI J) → vp_in (I 4 1) 8 := fun c => by
      rw [h4]
      exact vp_in_nI (hj8 c) (by omega)
    have hu : ∀ v, (mUp (mUp I 5 (I 4 1).toNatClampNeg v) 4 1 (I 4 1 + 1)) 4 1 = nI (J + 1) := fun v => by
      show I 4 1 + 1 = _
      rw [h4, nI_1]
    have go : ∀ (i' v : Int32) (a b : Option Value), ¬ ((8 : Int32) ≤ nI J) → mDL (nI N) (f + 1) x i (nI J) = mDL (nI N) f (mNxt x) i' (nI J + 1) → mWP mTb_ mFT ro (d + 2, 73, 16, [some (.ref 1), some (.long dr), none, some (.long (mNxt x)), none, some (.int i'), some (.int (nI J + 1)), a, b], [], 0, 0, (mSH, mUp (mUp I 5 (I 4 1).toNatClampNeg v) 4 1 (I 4 1 + 1), L)) Q := by
      intro i' v a b c e
      have := hj8 c
      rw [nI_1] at e ⊢
      refine ih (mNxt x) i' (J + 1) _ a b (by omega) (by omega) h2 (hu v) (fun I' g1 g2 => ?_)
      refine hq I' (by rw [g1, e]) (fun r n4 n5 => ?_)
      rw [g2 r n4 n5, mUp_row n4, mUp_row n5]
    have d1 : 8 ≤ nI J → mDL (nI N) (f + 1) x i (nI J) = nI J := fun c => by rw [mDL_s, if_pos c]
    have d2 : ¬ (8 ≤ nI J) → nI N ≤ i → mDL (nI N) (f + 1) x i (nI J) = nI J := fun c e => by rw [mDL_s, if_neg c, if_pos e]
    have d3 : ¬ (8 ≤ nI J) → ¬ (nI N ≤ i) → mQ4 x = 0 → nI N - i < 3 → mDL (nI N) (f + 1) x i (nI J) = mDL (nI N) f (mNxt x) (i + 1) (nI J + 1) := fun c e g z => by rw [mDL_s, if_neg c, if_neg e, if_pos g, if_pos z]
    have d4 : ¬ (8 ≤ nI J) → ¬ (nI N ≤ i) → mQ4 x = 0 → ¬ (nI N - i < 3) → mDL (nI N) (f + 1) x i (nI J) = mDL (nI N) f (mNxt x) (i + 3) (nI J + 1) := fun c e g z => by rw [mDL_s, if_neg c, if_neg e, if_pos g, if_neg z]
    have d5 : ¬ (8 ≤ nI J) → ¬ (nI N ≤ i) → ¬ (mQ4 x = 0) → mDL (nI N) (f + 1) x i (nI J) = mDL (nI N) f (mNxt x) (i + 1) (nI J + 1) := fun c e g => by rw [mDL_s, if_neg c, if_neg e, if_neg g]
    rw [← h2] at d2 d3 d4 d5
    have n2 : mCn I 2 16 := mCn.of h2 hN (by omega)
    apply s_drawLayers n2
    case h1 => exact fun c => hq I (by rw [h4, d1 c]) (fun _ _ _ => rfl)
    case h2 => exact fun c e => hq I (by rw [h4, ← h2, d2 c e]) (fun _ _ _ => rfl)
    case h3 => exact fun c _ _ _ _ => hvp c
    case h4 =>
      rw [← mNxt_e, ← mQ4_e]
      exact fun c e g z _ => go (i + 1) _ _ _ c (by rw [← h2]; exact d3 c e g z)
    case h5 => exact fun c _ _ _ z => absurd (hf8 c) z
    case h6 => exact fun c _ _ _ _ => hvp c
    case h7 =>
      rw [← mNxt_e, ← mQ4_e]
      exact fun c e g z _ => go (i + 3) _ _ _ c (by rw [← h2]; exact d4 c e g z)
    case h8 => exact fun c _ _ _ z => absurd (hf8 c) z
    case h9 => exact fun c _ _ _ => hvp c
    case h10 =>
      rw [← mNxt_e, ← mQ4_e]
      exact fun c e g _ => go (i + 1) _ _ _ c (by rw [← h2]; exact d5 c e g)
    case h11 => exact fun c _ _ z => absurd (hf8 c) z
theorem mDL_le {N : Nat} (f : Nat) : ∀ (x : Int64) (i : Int32) (J : Nat), J ≤ 8 → ∃ J', J' ≤ 8 ∧ mDL (nI N) f x i (nI J) = nI J' := by
  induction f with
  | zero => exact fun x i J h => ⟨J, h, rfl⟩
  | succ f ih =>
    intro x i J h
    rw [mDL_s]
    by_cases c : (8 : Int32) ≤ nI J
    · rw [if_pos c]; exact ⟨J, h, rfl⟩
    · have hJ : J < 8 := by
        rcases Nat.lt_or_ge J 8 with g | g
        · exact g
        · exact absurd (nI_le (a := 8) (b := J) g (by omega)) c
      rw [if_neg c, nI_1]
      by_cases e : nI N ≤ i
      · rw [if_pos e]; exact ⟨J, h, rfl⟩
      · rw [if_neg e]
        by_cases g : mQ4 x = 0
        · rw [if_pos g]
          by_cases z : nI N - i < 3
          · rw [if_pos z]; exact ih _ _ (J + 1) hJ
          · rw [if_neg z]; exact ih _ _ (J + 1) hJ
        · rw [if_neg g]; exact ih _ _ (J + 1) hJ
end DR

def mNine : Nat := 9
def mD (sd n : Int32) : Int32 := mDL n mNine (mIt n.toNatClampNeg sd.toInt64) (nI 0) (nI 0)
theorem s_ds0 {ro : Nat → Nat × (Nat → Int32)} {Q : mPo} {d : Nat} {I : Nat → Nat → Int32} {L : Nat → Nat → Int64} {sd n : Int32}  (h1 : mWP mTb_ mFT ro (d + 2, 72, 14, [some (.ref 1), some (.int sd), some (.int n), some (.long ((sd : Int32).toInt64)), none, some (.int 0)], [], 0, 0, (mSH, (mUp I 2 1 0), L)) Q) : mWP mTb_ mFT ro (d + 2, 72, 0, [some (.ref 1), some (.int sd), some (.int n), none, none, none], [], 0, 0, (mSH, I, L)) Q := by
  refine mB 5 (s2 := (d + 2, 72, 7, [some (.ref 1), some (.int sd), some (.int n), some (.long ((sd : Int32).toInt64)), none, none], [.ref 2], 0, 0, (mSH, I, L))) rfl ?_
  refine mCall (s2 := (d + 1, 45, 0, [some (.ref 2), none], [], 0, 0, (mSH, I, L))) rfl ?_
  refine mB 7 (s2 := (d + 1, 45, 11, [some (.ref 2), some (.int (I 2 1))], [.int (I 2 1)], 0, 0, (mSH, (mUp I 2 1 0), L))) rfl ?_
  refine mRt (r := (some (.int (I 2 1)))) (h := (mSH, (mUp I 2 1 0), L)) rfl (mRet_int rfl) ?_
  show mWP mTb_ mFT ro (d + 2, 72, 10, [some (.ref 1), some (.int sd), some (.int n), some (.long ((sd : Int32).toInt64)), none, none], [.int (I 2 1)], 0, 0, (mSH, (mUp I 2 1 0), L)) _
  refine mB 3 (s2 := (d + 2, 72, 14, [some (.ref 1), some (.int sd), some (.int n), some (.long ((sd : Int32).toInt64)), none, some (.int 0)], [], 0, 0, (mSH, (mUp I 2 1 0), L))) rfl ?_
  exact h1
theorem s_dl0 {ro : Nat → Nat × (Nat → Int32)} {Q : mPo} {d : Nat} {I : Nat → Nat → Int32} {L : Nat → Nat → Int64} {dr : Int64}  (h1 : mWP mTb_ mFT ro (d + 2, 73, 16, [some (.ref 1), some (.long dr), none, some (.long dr), none, some (.int 0), some (.int 0), none, none], [], 0, 0, (mSH, (mUp I 4 1 0), L)) Q) : mWP mTb_ mFT ro (d + 2, 73, 0, [some (.ref 1), some (.long dr), none, none, none, none, none, none, none], [], 0, 0, (mSH, I, L)) Q := by
  refine mB 6 (s2 := (d + 2, 73, 9, [some (.ref 1), some (.long dr), none, some (.long dr), none, some (.int 0), none, none, none], [.ref 4], 0, 0, (mSH, I, L))) rfl ?_
  refine mCall (s2 := (d + 1, 45, 0, [some (.ref 4), none], [], 0, 0, (mSH, I, L))) rfl ?_
  refine mB 7 (s2 := (d + 1, 45, 11, [some (.ref 4), some (.int (I 4 1))], [.int (I 4 1)], 0, 0, (mSH, (mUp I 4 1 0), L))) rfl ?_
  refine mRt (r := (some (.int (I 4 1)))) (h := (mSH, (mUp I 4 1 0), L)) rfl (mRet_int rfl) ?_
  show mWP mTb_ mFT ro (d + 2, 73, 12, [some (.ref 1), some (.long dr), none, some (.long dr), none, some (.int 0), none, none, none], [.int (I 4 1)], 0, 0, (mSH, (mUp I 4 1 0), L)) _
  refine mB 3 (s2 := (d + 2, 73, 16, [some (.ref 1), some (.long dr), none, some (.long dr), none, some (.int 0), some (.int 0), none, none], [], 0, 0, (mSH, (mUp I 4 1 0), L))) rfl ?_
  exact h1
section DR2
variable {ro : Nat → Nat × (Nat → Int32)} {Q : mPo} {d : Nat} {L : Nat → Nat → Int64} {I : Nat → Nat → Int32} {sd n : Int32}
theorem mNn (h1 : ¬ n < 1) (h2 : n ≤ 16) : n = nI n.toNatClampNeg ∧ n.toNatClampNeg ≤ 16 := by
  obtain ⟨j, hj, e⟩ := nI_of2 (x := n) (M := 16) (n := 16) rfl (fun c => h1 (Int32.lt_iff_toInt_lt.mpr (by have := Int32.lt_iff_toInt_lt.mp c; simp only [mLi0, mLi1] at *; omega))) h2
  subst e
  rw [nI_clamp (by omega)]
  exact ⟨rfl, hj⟩
theorem w_bd (h1 : ¬ n < 1) (h2 : n ≤ 16) (hq : ∀ J : Nat → Nat → Int32, (mCn J 2 16 ∧ mCn J 4 8 ∧ J 4 1 = mD sd n) → Q none (mSH, mMix [1, 2, 3, 4, 5] I J, L)) : mWP mTb_ mFT ro (d + 3, 71, 0, [some (.ref 1), some (.int sd), some (.int n), none, none], [], 0, 0, (mSH, I, L)) Q := by
  obtain ⟨hn, hN⟩ := mNn h1 h2
  unfold mD at hq
  generalize n.toNatClampNeg = N at hn hN hq
  subst hn
  generalize hf : mNine = f at hq
  have hf : 8 < f := by
    rw [← hf]
    exact (by decide : 8 < 9)
  refine mB 3 (s2 := (d + 3, 71, 3, [some (.ref 1), some (.int sd), some (.int (nI N)), none, none], [.int (nI N), .int sd, .ref 1], 0, 0, (mSH, I, L))) rfl ?_
  refine mCall (s2 := (d + 2, 72, 0, [some (.ref 1), some (.int sd), some (.int (nI N)), none, none, none], [], 0, 0, (mSH, I, L))) rfl ?_
  refine s_ds0 ?_
  refine w_drawSpans hN N 0 _ _ (by omega) rfl (fun I' g1 g2 => ?_)
  show mWP mTb_ mFT ro (d + 3, 71, 6, [some (.ref 1), some (.int sd), some (.int (nI N)), none, none], [.long (mIt N sd.toInt64)], 0, 0, (mSH, I', L)) _
  generalize mIt N sd.toInt64 = y at hq
  refine mB 3 (s2 := (d + 3, 71, 9, [some (.ref 1), some (.int sd), some (.int (nI N)), some (.long y), none], [.long y, .ref 1], 0, 0, (mSH, I', L))) rfl ?_
  refine mCall (s2 := (d + 2, 73, 0, [some (.ref 1), some (.long y), none, none, none, none, none, none, none], [], 0, 0, (mSH, I', L))) rfl ?_
  refine s_dl0 ?_
  refine w_drawLayers hN f y 0 0 _ _ _ (by omega) (by omega) g1 rfl (fun J k1 k2 => ?_)
  show mWP mTb_ mFT ro (d + 3, 71, 12, [some (.ref 1), some (.int sd), some (.int (nI N)), some (.long y), none], [], 0, 0, (mSH, J, L)) _
  refine mB 3 (s2 := (d + 3, 71, 17, [some (.ref 1), some (.int sd), some (.int (nI N)), some (.long y), none], [], 0, 0, (mSH, mUp J 1 2 0, L))) rfl ?_
  refine mRt (r := none) (h := (mSH, mUp J 1 2 0, L)) rfl rfl ?_
  have nN : mCn J 2 16 := by
    have e : J 2 = I' 2 := k2 2 (by omega) (by omega)
    refine mCn.of (k := N) ?_ hN (by omega)
    rw [e]
    exact g1
  obtain ⟨J', hJ', eJ⟩ := mDL_le (N := N) f y (nI 0) 0 (by omega)
  have n4 : mCn J 4 8 := mCn.of (k := J') (by rw [k1]; exact eJ) hJ' (by omega)
  have z := hq (mUp J 1 2 0) ⟨nN, n4, k1⟩
  have fr : mFr [1, 2, 3, 4, 5] I J := fun c hc => by
    have n1 : c ≠ 4 := mMem_ne hc rfl
    have n2 : c ≠ 5 := mMem_ne hc rfl
    have n3 : c ≠ 2 := mMem_ne hc rfl
    have n5 : c ≠ 3 := mMem_ne hc rfl
    rw [k2 c n1 n2, mUp_row n1, g2 c n3 n5, mUp_row n3]
  rw [(mFr.up (by rfl) fr).eq] at z
  exact z
end DR2
