/-! The model reads numbers. Written by a program (wip/mk_c.py). -/
def mTen : Nat → Int
  | 0 => 0
  | 1 => 9
  | 2 => 99
  | _ => 999
theorem mDig {v c : Int32} (h1 : 0 ≤ v.toInt) (h2 : v.toInt ≤ 99) (h3 : ¬ c < 48) (h4 : ¬ (57 : Int32) < c) : 0 ≤ (10 * v + c - 48).toInt ∧ (10 * v + c - 48).toInt ≤ 10 * v.toInt + 9 := by
  rw [Int32.lt_iff_toInt_lt, mLi48] at h3
  rw [Int32.lt_iff_toInt_lt, mLi57] at h4
  have e1 : (10 * v).toInt = 10 * v.toInt := by
    rw [Int32.toInt_mul, mLi10, Int.bmod_eq_of_le (by omega) (by omega)]
  have e2 : (10 * v + c).toInt = 10 * v.toInt + c.toInt := by
    rw [Int32.toInt_add, e1, Int.bmod_eq_of_le (by omega) (by omega)]
  have e3 : (10 * v + c - 48).toInt = 10 * v.toInt + c.toInt - 48 := by
    rw [Int32.toInt_sub, e2, mLi48, Int.bmod_eq_of_le (by omega) (by omega)]
  omega
theorem s_nb {ro : Nat → Nat × (Nat → Int32)} {Q : mPo} {d : Nat} {I : Nat → Nat → Int32} {L : Nat → Nat → Int64} {s n t : Nat} {a i : Nat} {v : Int32} {o3 : Option Value} (hm : mM s n t I) (hk : a + i ≤ 2000) (q0 : Q (some (.int 0)) (mSH, mUp (mUp I 34 13 v) 34 12 (I 34 12), L)) (q1 : ¬ (nI (a + i) ≤ I 34 12) → ¬ ((3 : Int32) ≤ nI (a + i) - I 34 12) → ¬ v ≤ 0 → Q (some (.int 1)) (mSH, mUp (mUp I 34 13 v) 34 12 (nI (a + i)), L)) (ih : a + i < t → ¬ (I 40 (a + i) < 48) → ¬ ((57 : Int32) < I 40 (a + i)) → ¬ ((3 : Int32) ≤ nI (a + i) - I 34 12) → mWP mTb_ mFT ro (d + 2, 153, 11, [some (.ref 34), some (.int ((nI (a + i)) + 1)), some (.int (((10 * v) + (I 40 ((nI (a + i)).toNatClampNeg))) - 48)), o3], [], 0, 0, (mSH, I, L)) Q)   : mWP mTb_ mFT ro (d + 2, 153, 11, [some (.ref 34), some (.int (nI (a + i))), some (.int v), o3], [], 0, 0, (mSH, I, L)) Q := by
  refine mB 2 (s2 := (d + 2, 153, 13, [some (.ref 34), some (.int (nI (a + i))), some (.int v), o3], [.int (nI (a + i)), .ref 34], 0, 0, (mSH, I, L))) rfl ?_
  refine mCall (s2 := (d + 1, 151, 0, [some (.ref 34), some (.int (nI (a + i)))], [], 0, 0, (mSH, I, L))) rfl ?_
  refine w_byte (k := a + i) (hm) rfl (by omega) ?_ ?_
  · show mWP mTb_ mFT ro (d + 2, 153, 16, [some (.ref 34), some (.int (nI (a + i))), some (.int v), o3], [.int (-1)], 0, 0, (mSH, I, L)) _
    refine mB 2 (s2 := (d + 2, 153, 20, [some (.ref 34), some (.int (nI (a + i))), some (.int v), o3], [.int 57, .int 48, .int (-1)], 0, 0, (mSH, I, L))) rfl ?_
    refine mCall (s2 := (d + 1, 112, 0, [some (.int (-1)), some (.int 48), some (.int 57)], [], 0, 0, (mSH, I, L))) rfl ?_
    refine mB 2 (s2 := (d + 1, 112, 2, [some (.int (-1)), some (.int 48), some (.int 57)], [.int 48, .int (-1)], 0, 0, (mSH, I, L))) rfl ?_
    refine mBT (s2 := (d + 1, 112, 14, [some (.int (-1)), some (.int 48), some (.int 57)], [], 0, 0, (mSH, I, L))) rfl (by decide) ?_
    refine mB 1 (s2 := (d + 1, 112, 15, [some (.int (-1)), some (.int 48), some (.int 57)], [.int 0], 0, 0, (mSH, I, L))) rfl ?_
    refine mRt (r := (some (.int 0))) (h := (mSH, I, L)) rfl rfl ?_
    show mWP mTb_ mFT ro (d + 2, 153, 23, [some (.ref 34), some (.int (nI (a + i))), some (.int v), o3], [.int 0], 0, 0, (mSH, I, L)) _
    refine mBT (s2 := (d + 2, 153, 57, [some (.ref 34), some (.int (nI (a + i))), some (.int v), o3], [], 0, 0, (mSH, I, L))) rfl (by decide) ?_
    refine mB 3 (s2 := (d + 2, 153, 62, [some (.ref 34), some (.int (nI (a + i))), some (.int v), o3], [.int (I 34 12), .int (nI (a + i))], 0, 0, (mSH, I, L))) rfl ?_
    refine mBr (s2 := (d + 2, 153, 83, [some (.ref 34), some (.int (nI (a + i))), some (.int v), o3], [], 0, 0, (mSH, I, L))) (s3 := (d + 2, 153, 65, [some (.ref 34), some (.int (nI (a + i))), some (.int v), o3], [], 0, 0, (mSH, I, L))) rfl (fun c0 => ?_) (fun c0 => ?_)
    · refine mB 7 (s2 := (d + 2, 153, 92, [some (.ref 34), some (.int (nI (a + i))), some (.int v), some (.int 0)], [.int 0, .ref 34], 0, 0, (mSH, (mUp I 34 13 v), L))) rfl ?_
      refine mBT (s2 := (d + 2, 153, 99, [some (.ref 34), some (.int (nI (a + i))), some (.int v), some (.int 0)], [.ref 34], 0, 0, (mSH, (mUp I 34 13 v), L))) rfl (by decide) ?_
      refine mB 4 (s2 := (d + 2, 153, 107, [some (.ref 34), some (.int (nI (a + i))), some (.int v), some (.int 0)], [.int 0], 0, 0, (mSH, (mUp (mUp I 34 13 v) 34 12 (I 34 12)), L))) rfl ?_
      refine mRt (r := (some (.int 0))) (h := (mSH, (mUp (mUp I 34 13 v) 34 12 (I 34 12)), L)) rfl rfl ?_
      exact q0
    · refine mB 5 (s2 := (d + 2, 153, 72, [some (.ref 34), some (.int (nI (a + i))), some (.int v), o3], [.int 3, .int ((nI (a + i)) - (I 34 12))], 0, 0, (mSH, I, L))) rfl ?_
      refine mBr (s2 := (d + 2, 153, 83, [some (.ref 34), some (.int (nI (a + i))), some (.int v), o3], [], 0, 0, (mSH, I, L))) (s3 := (d + 2, 153, 75, [some (.ref 34), some (.int (nI (a + i))), some (.int v), o3], [], 0, 0, (mSH, I, L))) rfl (fun c1 => ?_) (fun c1 => ?_)
      · refine mB 7 (s2 := (d + 2, 153, 92, [some (.ref 34), some (.int (nI (a + i))), some (.int v), some (.int 0)], [.int 0, .ref 34], 0, 0, (mSH, (mUp I 34 13 v), L))) rfl ?_
        refine mBT (s2 := (d + 2, 153, 99, [some (.ref 34), some (.int (nI (a + i))), some (.int v), some (.int 0)], [.ref 34], 0, 0, (mSH, (mUp I 34 13 v), L))) rfl (by decide) ?_
        refine mB 4 (s2 := (d + 2, 153, 107, [some (.ref 34), some (.int (nI (a + i))), some (.int v), some (.int 0)], [.int 0], 0, 0, (mSH, (mUp (mUp I 34 13 v) 34 12 (I 34 12)), L))) rfl ?_
        refine mRt (r := (some (.int 0))) (h := (mSH, (mUp (mUp I 34 13 v) 34 12 (I 34 12)), L)) rfl rfl ?_
        exact q0
      · refine mB 1 (s2 := (d + 2, 153, 76, [some (.ref 34), some (.int (nI (a + i))), some (.int v), o3], [.int v], 0, 0, (mSH, I, L))) rfl ?_
        refine mBr (s2 := (d + 2, 153, 83, [some (.ref 34), some (.int (nI (a + i))), some (.int v), o3], [], 0, 0, (mSH, I, L))) (s3 := (d + 2, 153, 79, [some (.ref 34), some (.int (nI (a + i))), some (.int v), o3], [], 0, 0, (mSH, I, L))) rfl (fun c2 => ?_) (fun c2 => ?_)
        · refine mB 7 (s2 := (d + 2, 153, 92, [some (.ref 34), some (.int (nI (a + i))), some (.int v), some (.int 0)], [.int 0, .ref 34], 0, 0, (mSH, (mUp I 34 13 v), L))) rfl ?_
          refine mBT (s2 := (d + 2, 153, 99, [some (.ref 34), some (.int (nI (a + i))), some (.int v), some (.int 0)], [.ref 34], 0, 0, (mSH, (mUp I 34 13 v), L))) rfl (by decide) ?_
          refine mB 4 (s2 := (d + 2, 153, 107, [some (.ref 34), some (.int (nI (a + i))), some (.int v), some (.int 0)], [.int 0], 0, 0, (mSH, (mUp (mUp I 34 13 v) 34 12 (I 34 12)), L))) rfl ?_
          refine mRt (r := (some (.int 0))) (h := (mSH, (mUp (mUp I 34 13 v) 34 12 (I 34 12)), L)) rfl rfl ?_
          exact q0
        · refine mB 8 (s2 := (d + 2, 153, 92, [some (.ref 34), some (.int (nI (a + i))), some (.int v), some (.int 1)], [.int 1, .ref 34], 0, 0, (mSH, (mUp I 34 13 v), L))) rfl ?_
          refine mBF (s3 := (d + 2, 153, 95, [some (.ref 34), some (.int (nI (a + i))), some (.int v), some (.int 1)], [.ref 34], 0, 0, (mSH, (mUp I 34 13 v), L))) rfl (by decide) ?_
          refine mB 4 (s2 := (d + 2, 153, 107, [some (.ref 34), some (.int (nI (a + i))), some (.int v), some (.int 1)], [.int 1], 0, 0, (mSH, (mUp (mUp I 34 13 v) 34 12 (nI (a + i))), L))) rfl ?_
          refine mRt (r := (some (.int 1))) (h := (mSH, (mUp (mUp I 34 13 v) 34 12 (nI (a + i))), L)) rfl rfl ?_
          exact q1 (of_decide_eq_false c0) (of_decide_eq_false c1) (of_decide_eq_false c2)
  · intro l1
    show mWP mTb_ mFT ro (d + 2, 153, 16, [some (.ref 34), some (.int (nI (a + i))), some (.int v), o3], [.int (I 40 (a + i))], 0, 0, (mSH, I, L)) _
    refine mB 2 (s2 := (d + 2, 153, 20, [some (.ref 34), some (.int (nI (a + i))), some (.int v), o3], [.int 57, .int 48, .int (I 40 (a + i))], 0, 0, (mSH, I, L))) rfl ?_
    refine mCall (s2 := (d + 1, 112, 0, [some (.int (I 40 (a + i))), some (.int 48), some (.int 57)], [], 0, 0, (mSH, I, L))) rfl ?_
    refine mB 2 (s2 := (d + 1, 112, 2, [some (.int (I 40 (a + i))), some (.int 48), some (.int 57)], [.int 48, .int (I 40 (a + i))], 0, 0, (mSH, I, L))) rfl ?_
    refine mBr (s2 := (d + 1, 112, 14, [some (.int (I 40 (a + i))), some (.int 48), some (.int 57)], [], 0, 0, (mSH, I, L))) (s3 := (d + 1, 112, 5, [some (.int (I 40 (a + i))), some (.int 48), some (.int 57)], [], 0, 0, (mSH, I, L))) rfl (fun c0 => ?_) (fun c0 => ?_)
    · refine mB 1 (s2 := (d + 1, 112, 15, [some (.int (I 40 (a + i))), some (.int 48), some (.int 57)], [.int 0], 0, 0, (mSH, I, L))) rfl ?_
      refine mRt (r := (some (.int 0))) (h := (mSH, I, L)) rfl rfl ?_
      show mWP mTb_ mFT ro (d + 2, 153, 23, [some (.ref 34), some (.int (nI (a + i))), some (.int v), o3], [.int 0], 0, 0, (mSH, I, L)) _
      refine mBT (s2 := (d + 2, 153, 57, [some (.ref 34), some (.int (nI (a + i))), some (.int v), o3], [], 0, 0, (mSH, I, L))) rfl (by decide) ?_
      refine mB 3 (s2 := (d + 2, 153, 62, [some (.ref 34), some (.int (nI (a + i))), some (.int v), o3], [.int (I 34 12), .int (nI (a + i))], 0, 0, (mSH, I, L))) rfl ?_
      refine mBr (s2 := (d + 2, 153, 83, [some (.ref 34), some (.int (nI (a + i))), some (.int v), o3], [], 0, 0, (mSH, I, L))) (s3 := (d + 2, 153, 65, [some (.ref 34), some (.int (nI (a + i))), some (.int v), o3], [], 0, 0, (mSH, I, L))) rfl (fun c1 => ?_) (fun c1 => ?_)
      · refine mB 7 (s2 := (d + 2, 153, 92, [some (.ref 34), some (.int (nI (a + i))), some (.int v), some (.int 0)], [.int 0, .ref 34], 0, 0, (mSH, (mUp I 34 13 v), L))) rfl ?_
        refine mBT (s2 := (d + 2, 153, 99, [some (.ref 34), some (.int (nI (a + i))), some (.int v), some (.int 0)], [.ref 34], 0, 0, (mSH, (mUp I 34 13 v), L))) rfl (by decide) ?_
        refine mB 4 (s2 := (d + 2, 153, 107, [some (.ref 34), some (.int (nI (a + i))), some (.int v), some (.int 0)], [.int 0], 0, 0, (mSH, (mUp (mUp I 34 13 v) 34 12 (I 34 12)), L))) rfl ?_
        refine mRt (r := (some (.int 0))) (h := (mSH, (mUp (mUp I 34 13 v) 34 12 (I 34 12)), L)) rfl rfl ?_
        exact q0
      · refine mB 5 (s2 := (d + 2, 153, 72, [some (.ref 34), some (.int (nI (a + i))), some (.int v), o3], [.int 3, .int ((nI (a + i)) - (I 34 12))], 0, 0, (mSH, I, L))) rfl ?_
        refine mBr (s2 := (d + 2, 153, 83, [some (.ref 34), some (.int (nI (a + i))), some (.int v), o3], [], 0, 0, (mSH, I, L))) (s3 := (d + 2, 153, 75, [some (.ref 34), some (.int (nI (a + i))), some (.int v), o3], [], 0, 0, (mSH, I, L))) rfl (fun c2 => ?_) (fun c2 => ?_)
        · refine mB 7 (s2 := (d + 2, 153, 92, [some (.ref 34), some (.int (nI (a + i))), some (.int v), some (.int 0)], [.int 0, .ref 34], 0, 0, (mSH, (mUp I 34 13 v), L))) rfl ?_
          refine mBT (s2 := (d + 2, 153, 99, [some (.ref 34), some (.int (nI (a + i))), some (.int v), some (.int 0)], [.ref 34], 0, 0, (mSH, (mUp I 34 13 v), L))) rfl (by decide) ?_
          refine mB 4 (s2 := (d + 2, 153, 107, [some (.ref 34), some (.int (nI (a + i))), some (.int v), some (.int 0)], [.int 0], 0, 0, (mSH, (mUp (mUp I 34 13 v) 34 12 (I 34 12)), L))) rfl ?_
          refine mRt (r := (some (.int 0))) (h := (mSH, (mUp (mUp I 34 13 v) 34 12 (I 34 12)), L)) rfl rfl ?_
          exact q0
        · refine mB 1 (s2 := (d + 2, 153, 76, [some (.ref 34), some (.int (nI (a + i))), some (.int v), o3], [.int v], 0, 0, (mSH, I, L))) rfl ?_
          refine mBr (s2 := (d + 2, 153, 83, [some (.ref 34), some (.int (nI (a + i))), some (.int v), o3], [], 0, 0, (mSH, I, L))) (s3 := (d + 2, 153, 79, [some (.ref 34), some (.int (nI (a + i))), some (.int v), o3], [], 0, 0, (mSH, I, L))) rfl (fun c3 => ?_) (fun c3 => ?_)
          · refine mB 7 (s2 := (d + 2, 153, 92, [some (.ref 34), some (.int (nI (a + i))), some (.int v), some (.int 0)], [.int 0, .ref 34], 0, 0, (mSH, (mUp I 34 13 v), L))) rfl ?_
            refine mBT (s2 := (d + 2, 153, 99, [some (.ref 34), some (.int (nI (a + i))), some (.int v), some (.int 0)], [.ref 34], 0, 0, (mSH, (mUp I 34 13 v), L))) rfl (by decide) ?_
            refine mB 4 (s2 := (d + 2, 153, 107, [some (.ref 34), some (.int (nI (a + i))), some (.int v), some (.int 0)], [.int 0], 0, 0, (mSH, (mUp (mUp I 34 13 v) 34 12 (I 34 12)), L))) rfl ?_
            refine mRt (r := (some (.int 0))) (h := (mSH, (mUp (mUp I 34 13 v) 34 12 (I 34 12)), L)) rfl rfl ?_
            exact q0
          · refine mB 8 (s2 := (d + 2, 153, 92, [some (.ref 34), some (.int (nI (a + i))), some (.int v), some (.int 1)], [.int 1, .ref 34], 0, 0, (mSH, (mUp I 34 13 v), L))) rfl ?_
            refine mBF (s3 := (d + 2, 153, 95, [some (.ref 34), some (.int (nI (a + i))), some (.int v), some (.int 1)], [.ref 34], 0, 0, (mSH, (mUp I 34 13 v), L))) rfl (by decide) ?_
            refine mB 4 (s2 := (d + 2, 153, 107, [some (.ref 34), some (.int (nI (a + i))), some (.int v), some (.int 1)], [.int 1], 0, 0, (mSH, (mUp (mUp I 34 13 v) 34 12 (nI (a + i))), L))) rfl ?_
            refine mRt (r := (some (.int 1))) (h := (mSH, (mUp (mUp I 34 13 v) 34 12 (nI (a + i))), L)) rfl rfl ?_
            exact q1 (of_decide_eq_false c1) (of_decide_eq_false c2) (of_decide_eq_false c3)
    · refine mB 2 (s2 := (d + 1, 112, 7, [some (.int (I 40 (a + i))), some (.int 48), some (.int 57)], [.int 57, .int (I 40 (a + i))], 0, 0, (mSH, I, L))) rfl ?_
      refine mBr (s2 := (d + 1, 112, 14, [some (.int (I 40 (a + i))), some (.int 48), some (.int 57)], [], 0, 0, (mSH, I, L))) (s3 := (d + 1, 112, 10, [some (.int (I 40 (a + i))), some (.int 48), some (.int 57)], [], 0, 0, (mSH, I, L))) rfl (fun c1 => ?_) (fun c1 => ?_)
      · refine mB 1 (s2 := (d + 1, 112, 15, [some (.int (I 40 (a + i))), some (.int 48), some (.int 57)], [.int 0], 0, 0, (mSH, I, L))) rfl ?_
        refine mRt (r := (some (.int 0))) (h := (mSH, I, L)) rfl rfl ?_
        show mWP mTb_ mFT ro (d + 2, 153, 23, [some (.ref 34), some (.int (nI (a + i))), some (.int v), o3], [.int 0], 0, 0, (mSH, I, L)) _
        refine mBT (s2 := (d + 2, 153, 57, [some (.ref 34), some (.int (nI (a + i))), some (.int v), o3], [], 0, 0, (mSH, I, L))) rfl (by decide) ?_
        refine mB 3 (s2 := (d + 2, 153, 62, [some (.ref 34), some (.int (nI (a + i))), some (.int v), o3], [.int (I 34 12), .int (nI (a + i))], 0, 0, (mSH, I, L))) rfl ?_
        refine mBr (s2 := (d + 2, 153, 83, [some (.ref 34), some (.int (nI (a + i))), some (.int v), o3], [], 0, 0, (mSH, I, L))) (s3 := (d + 2, 153, 65, [some (.ref 34), some (.int (nI (a + i))), some (.int v), o3], [], 0, 0, (mSH, I, L))) rfl (fun c2 => ?_) (fun c2 => ?_)
        · refine mB 7 (s2 := (d + 2, 153, 92, [some (.ref 34), some (.int (nI (a + i))), some (.int v), some (.int 0)], [.int 0, .ref 34], 0, 0, (mSH, (mUp I 34 13 v), L))) rfl ?_
          refine mBT (s2 := (d + 2, 153, 99, [some (.ref 34), some (.int (nI (a + i))), some (.int v), some (.int 0)], [.ref 34], 0, 0, (mSH, (mUp I 34 13 v), L))) rfl (by decide) ?_
          refine mB 4 (s2 := (d + 2, 153, 107, [some (.ref 34), some (.int (nI (a + i))), some (.int v), some (.int 0)], [.int 0], 0, 0, (mSH, (mUp (mUp I 34 13 v) 34 12 (I 34 12)), L))) rfl ?_
          refine mRt (r := (some (.int 0))) (h := (mSH, (mUp (mUp I 34 13 v) 34 12 (I 34 12)), L)) rfl rfl ?_
          exact q0
        · refine mB 5 (s2 := (d + 2, 153, 72, [some (.ref 34), some (.int (nI (a + i))), some (.int v), o3], [.int 3, .int ((nI (a + i)) - (I 34 12))], 0, 0, (mSH, I, L))) rfl ?_
          refine mBr (s2 := (d + 2, 153, 83, [some (.ref 34), some (.int (nI (a + i))), some (.int v), o3], [], 0, 0, (mSH, I, L))) (s3 := (d + 2, 153, 75, [some (.ref 34), some (.int (nI (a + i))), some (.int v), o3], [], 0, 0, (mSH, I, L))) rfl (fun c3 => ?_) (fun c3 => ?_)
          · refine mB 7 (s2 := (d + 2, 153, 92, [some (.ref 34), some (.int (nI (a + i))), some (.int v), some (.int 0)], [.int 0, .ref 34], 0, 0, (mSH, (mUp I 34 13 v), L))) rfl ?_
            refine mBT (s2 := (d + 2, 153, 99, [some (.ref 34), some (.int (nI (a + i))), some (.int v), some (.int 0)], [.ref 34], 0, 0, (mSH, (mUp I 34 13 v), L))) rfl (by decide) ?_
            refine mB 4 (s2 := (d + 2, 153, 107, [some (.ref 34), some (.int (nI (a + i))), some (.int v), some (.int 0)], [.int 0], 0, 0, (mSH, (mUp (mUp I 34 13 v) 34 12 (I 34 12)), L))) rfl ?_
            refine mRt (r := (some (.int 0))) (h := (mSH, (mUp (mUp I 34 13 v) 34 12 (I 34 12)), L)) rfl rfl ?_
            exact q0
          · refine mB 1 (s2 := (d + 2, 153, 76, [some (.ref 34), some (.int (nI (a + i))), some (.int v), o3], [.int v], 0, 0, (mSH, I, L))) rfl ?_
            refine mBr (s2 := (d + 2, 153, 83, [some (.ref 34), some (.int (nI (a + i))), some (.int v), o3], [], 0, 0, (mSH, I, L))) (s3 := (d + 2, 153, 79, [some (.ref 34), some (.int (nI (a + i))), some (.int v), o3], [], 0, 0, (mSH, I, L))) rfl (fun c4 => ?_) (fun c4 => ?_)
            · refine mB 7 (s2 := (d + 2, 153, 92, [some (.ref 34), some (.int (nI (a + i))), some (.int v), some (.int 0)], [.int 0, .ref 34], 0, 0, (mSH, (mUp I 34 13 v), L))) rfl ?_
              refine mBT (s2 := (d + 2, 153, 99, [some (.ref 34), some (.int (nI (a + i))), some (.int v), some (.int 0)], [.ref 34], 0, 0, (mSH, (mUp I 34 13 v), L))) rfl (by decide) ?_
              refine mB 4 (s2 := (d + 2, 153, 107, [some (.ref 34), some (.int (nI (a + i))), some (.int v), some (.int 0)], [.int 0], 0, 0, (mSH, (mUp (mUp I 34 13 v) 34 12 (I 34 12)), L))) rfl ?_
              refine mRt (r := (some (.int 0))) (h := (mSH, (mUp (mUp I 34 13 v) 34 12 (I 34 12)), L)) rfl rfl ?_
              exact q0
            · refine mB 8 (s2 := (d + 2, 153, 92, [some (.ref 34), some (.int (nI (a + i))), some (.int v), some (.int 1)], [.int 1, .ref 34], 0, 0, (mSH, (mUp I 34 13 v), L))) rfl ?_
              refine mBF (s3 := (d + 2, 153, 95, [some (.ref 34), some (.int (nI (a + i))), some (.int v), some (.int 1)], [.ref 34], 0, 0, (mSH, (mUp I 34 13 v), L))) rfl (by decide) ?_
              refine mB 4 (s2 := (d + 2, 153, 107, [some (.ref 34), some (.int (nI (a + i))), some (.int v), some (.int 1)], [.int 1], 0, 0, (mSH, (mUp (mUp I 34 13 v) 34 12 (nI (a + i))), L))) rfl ?_
              refine mRt (r := (some (.int 1))) (h := (mSH, (mUp (mUp I 34 13 v) 34 12 (nI (a + i))), L)) rfl rfl ?_
              exact q1 (of_decide_eq_false c2) (of_decide_eq_false c3) (of_decide_eq_false c4)
      · refine mB 2 (s2 := (d + 1, 112, 15, [some (.int (I 40 (a + i))), some (.int 48), some (.int 57)], [.int 1], 0, 0, (mSH, I, L))) rfl ?_
        refine mRt (r := (some (.int 1))) (h := (mSH, I, L)) rfl rfl ?_
        show mWP mTb_ mFT ro (d + 2, 153, 23, [some (.ref 34), some (.int (nI (a + i))), some (.int v), o3], [.int 1], 0, 0, (mSH, I, L)) _
        refine mBF (s3 := (d + 2, 153, 26, [some (.ref 34), some (.int (nI (a + i))), some (.int v), o3], [], 0, 0, (mSH, I, L))) rfl (by decide) ?_
        refine mB 5 (s2 := (d + 2, 153, 33, [some (.ref 34), some (.int (nI (a + i))), some (.int v), o3], [.int 3, .int ((nI (a + i)) - (I 34 12))], 0, 0, (mSH, I, L))) rfl ?_
        refine mBr (s2 := (d + 2, 153, 57, [some (.ref 34), some (.int (nI (a + i))), some (.int v), o3], [], 0, 0, (mSH, I, L))) (s3 := (d + 2, 153, 36, [some (.ref 34), some (.int (nI (a + i))), some (.int v), o3], [], 0, 0, (mSH, I, L))) rfl (fun c2 => ?_) (fun c2 => ?_)
        · refine mB 3 (s2 := (d + 2, 153, 62, [some (.ref 34), some (.int (nI (a + i))), some (.int v), o3], [.int (I 34 12), .int (nI (a + i))], 0, 0, (mSH, I, L))) rfl ?_
          refine mBr (s2 := (d + 2, 153, 83, [some (.ref 34), some (.int (nI (a + i))), some (.int v), o3], [], 0, 0, (mSH, I, L))) (s3 := (d + 2, 153, 65, [some (.ref 34), some (.int (nI (a + i))), some (.int v), o3], [], 0, 0, (mSH, I, L))) rfl (fun c3 => ?_) (fun c3 => ?_)
          · refine mB 7 (s2 := (d + 2, 153, 92, [some (.ref 34), some (.int (nI (a + i))), some (.int v), some (.int 0)], [.int 0, .ref 34], 0, 0, (mSH, (mUp I 34 13 v), L))) rfl ?_
            refine mBT (s2 := (d + 2, 153, 99, [some (.ref 34), some (.int (nI (a + i))), some (.int v), some (.int 0)], [.ref 34], 0, 0, (mSH, (mUp I 34 13 v), L))) rfl (by decide) ?_
            refine mB 4 (s2 := (d + 2, 153, 107, [some (.ref 34), some (.int (nI (a + i))), some (.int v), some (.int 0)], [.int 0], 0, 0, (mSH, (mUp (mUp I 34 13 v) 34 12 (I 34 12)), L))) rfl ?_
            refine mRt (r := (some (.int 0))) (h := (mSH, (mUp (mUp I 34 13 v) 34 12 (I 34 12)), L)) rfl rfl ?_
            exact q0
          · refine mB 5 (s2 := (d + 2, 153, 72, [some (.ref 34), some (.int (nI (a + i))), some (.int v), o3], [.int 3, .int ((nI (a + i)) - (I 34 12))], 0, 0, (mSH, I, L))) rfl ?_
            refine mBT (c := decide ((3 : Int32) ≤ ((nI (a + i)) - (I 34 12)))) (s2 := (d + 2, 153, 83, [some (.ref 34), some (.int (nI (a + i))), some (.int v), o3], [], 0, 0, (mSH, I, L))) rfl (decide_eq_true (by have a0 := of_decide_eq_false c0; have a1 := of_decide_eq_false c1; have a2 := of_decide_eq_true c2; simp only [Int32.lt_iff_toInt_lt, Int32.le_iff_toInt_le, ← Int32.toInt_inj, mLi0, mLi1, mLi2, mLi3, mLi4, mLi5, mLi6, mLi7, mLi8, mLi9, mLi10, mLi16, mLi32, mLi48, mLi57, mLi59, mLi65, mLi90, mLi97, mLi99, mLi120, mLi122, mLi127, mLi1584, mLi999999, mLim] at a0 a1 a2 ⊢; omega)) ?_
            refine mB 7 (s2 := (d + 2, 153, 92, [some (.ref 34), some (.int (nI (a + i))), some (.int v), some (.int 0)], [.int 0, .ref 34], 0, 0, (mSH, (mUp I 34 13 v), L))) rfl ?_
            refine mBT (s2 := (d + 2, 153, 99, [some (.ref 34), some (.int (nI (a + i))), some (.int v), some (.int 0)], [.ref 34], 0, 0, (mSH, (mUp I 34 13 v), L))) rfl (by decide) ?_
            refine mB 4 (s2 := (d + 2, 153, 107, [some (.ref 34), some (.int (nI (a + i))), some (.int v), some (.int 0)], [.int 0], 0, 0, (mSH, (mUp (mUp I 34 13 v) 34 12 (I 34 12)), L))) rfl ?_
            refine mRt (r := (some (.int 0))) (h := (mSH, (mUp (mUp I 34 13 v) 34 12 (I 34 12)), L)) rfl rfl ?_
            exact q0
        · refine mB 6 (s2 := (d + 2, 153, 45, [some (.ref 34), some (.int (nI (a + i))), some (.int v), o3], [.int (nI (a + i)), .ref 40, .int (10 * v)], 0, 0, (mSH, I, L))) rfl ?_
          refine mRq (s2 := (d + 2, 153, 46, [some (.ref 34), some (.int (nI (a + i))), some (.int v), o3], [.int (I 40 ((nI (a + i)).toNatClampNeg)), .int (10 * v)], 0, 0, (mSH, I, L))) rfl (mVp_of (vp_in_nI (by have := hm.2.2.1.2; omega) (by omega))) ?_
          refine mB 6 (s2 := (d + 2, 153, 11, [some (.ref 34), some (.int ((nI (a + i)) + 1)), some (.int (((10 * v) + (I 40 ((nI (a + i)).toNatClampNeg))) - 48)), o3], [], 0, 0, (mSH, I, L))) rfl ?_
          exact ih (by assumption) (of_decide_eq_false c0) (of_decide_eq_false c1) (of_decide_eq_false c2)
theorem l_nb {ro : Nat → Nat × (Nat → Int32)} {Q : mPo} {d : Nat} {I : Nat → Nat → Int32} {L : Nat → Nat → Int64} {s n t : Nat} {a : Nat} (hm : mM s n t I) (hat : I 34 12 = nI a) (ha : a ≤ 1000) (q0 : ∀ v, Q (some (.int 0)) (mSH, mUp (mUp I 34 13 v) 34 12 (nI a), L)) (q1 : ∀ v k, mYR v → k ≤ 120 → Q (some (.int 1)) (mSH, mUp (mUp I 34 13 v) 34 12 (nI k), L)) : ∀ (g i : Nat), i + g = 3 → ∀ (v : Int32) (o3 : Option Value), 0 ≤ v.toInt → v.toInt ≤ mTen i → (i = 0 ∨ a + i ≤ t) → mWP mTb_ mFT ro (d + 2, 153, 11, [some (.ref 34), some (.int (nI (a + i))), some (.int v), o3], [], 0, 0, (mSH, I, L)) Q := by
  have sub : ∀ i, nI (a + i) - I 34 12 = nI i := fun i => by
    rw [hat, pk_sub (by omega)]
    congr 1
    omega
  have le3 : ∀ i, i ≤ 3 → ¬ ((3 : Int32) ≤ nI i) → i < 3 := fun i hi z => by
    rcases Nat.lt_or_ge i 3 with g | g
    · exact g
    · exact absurd (nI_le (a := 3) (b := i) g (by omega)) z
  have fin : ∀ (i : Nat) (v : Int32), i ≤ 3 → 0 ≤ v.toInt → v.toInt ≤ mTen i → (i = 0 ∨ a + i ≤ t) → ¬ (nI (a + i) ≤ I 34 12) → ¬ ((3 : Int32) ≤ nI (a + i) - I 34 12) → ¬ v ≤ 0 → Q (some (.int 1)) (mSH, mUp (mUp I 34 13 v) 34 12 (nI (a + i)), L) := fun i v hi v0 v1 ht z1 z2 z3 => by
    rw [sub] at z2
    have i3 := le3 i hi z2
    have i0 : i ≠ 0 := fun e => z1 (by rw [hat, e]; exact nI_le (by omega) (by omega))
    have h120 := hm.2.2.1.2
    refine q1 v (a + i) ?_ (by omega)
    rw [Int32.le_iff_toInt_le, mLi0] at z3
    have c12 : i = 1 ∨ i = 2 := by omega
    rcases c12 with e | e <;> subst e
    · have v1 : v.toInt ≤ 9 := v1
      exact ⟨by omega, by omega⟩
    · have v1 : v.toInt ≤ 99 := v1
      exact ⟨by omega, by omega⟩
  have z0 : ∀ v, Q (some (.int 0)) (mSH, mUp (mUp I 34 13 v) 34 12 (I 34 12), L) := fun v => by rw [hat]; exact q0 v
  intro g
  induction g with
  | zero =>
    intro i hi v o3 v0 v1 ht
    refine s_nb hm (by omega) (z0 v) (fin i v (by omega) v0 v1 ht) (fun _ _ _ z => ?_)
    rw [sub] at z
    have := le3 i (by omega) z
    omega
  | succ g ih =>
    intro i hi v o3 v0 v1 ht
    refine s_nb hm (by omega) (z0 v) (fin i v (by omega) v0 v1 ht) (fun lt d1 d2 _ => ?_)
    rw [nI_clamp (by omega), nI_1]
    have v99 : v.toInt ≤ 99 := by
      have c : i = 0 ∨ i = 1 ∨ i = 2 := by omega
      rcases c with e | e | e <;> subst e
      · have v1 : v.toInt ≤ 0 := v1
        omega
      · have v1 : v.toInt ≤ 9 := v1
        omega
      · exact v1
    have dg := mDig v0 v99 d1 d2
    refine ih (i + 1) (by omega) _ _ dg.1 ?_ (Or.inr (by omega))
    have c : i = 0 ∨ i = 1 ∨ i = 2 := by omega
    rcases c with e | e | e <;> subst e
    · have v1 : v.toInt ≤ 0 := v1
      show _ ≤ (9 : Int)
      omega
    · have v1 : v.toInt ≤ 9 := v1
      show _ ≤ (99 : Int)
      omega
    · show _ ≤ (999 : Int)
      omega
theorem w_isn {ro : Nat → Nat × (Nat → Int32)} {Q : mPo} {d : Nat} {I : Nat → Nat → Int32} {L : Nat → Nat → Int64} {s n t : Nat} {a : Nat} {B : Nat} (hB : 120 ≤ B) (hB2 : B ≤ 1000) (hm : mM s n t I) (hat : I 34 12 = nI a) (ha : a ≤ B) (q0 : ∀ v a', a' ≤ B → Q (some (.int 0)) (mSH, mUp (mUp I 34 13 v) 34 12 (nI a'), L)) (q1 : ∀ v a', mYR v → a' ≤ B → Q (some (.int 1)) (mSH, mUp (mUp I 34 13 v) 34 12 (nI a'), L))   : mWP mTb_ mFT ro (d + 2, 153, 0, [some (.ref 34), none, none, none], [], 0, 0, (mSH, I, L)) Q := by
  refine mB 1 (s2 := (d + 2, 153, 1, [some (.ref 34), none, none, none], [.ref 34], 0, 0, (mSH, I, L))) rfl ?_
  refine mCall (s2 := (d + 1, 152, 0, [some (.ref 34)], [], 0, 0, (mSH, I, L))) rfl ?_
  refine w_skips hB hB2 (hm) hat ha (fun a1 hla1 => ?_)
  show mWP mTb_ mFT ro (d + 2, 153, 4, [some (.ref 34), none, none, none], [], 0, 0, (mSH, (mUp I 34 12 (nI a1)), L)) _
  refine mB 5 (s2 := (d + 2, 153, 11, [some (.ref 34), some (.int (nI a1)), some (.int 0), none], [], 0, 0, (mSH, (mUp I 34 12 (nI a1)), L))) rfl ?_
  exact l_nb (I := mUp I 34 12 (nI a1)) (a := a1) hm rfl (by omega) (fun v => by rw [mUp_312]; exact q0 v a1 hla1) (fun v k hv hk => by rw [mUp_312]; exact q1 v k hv (by omega)) 3 0 rfl 0 _ (by decide) (by decide) (Or.inl rfl)
def mNr (q : Nat) (I I1 : Nat → Nat → Int32) : Prop := (∀ z, z ≠ 34 → z ≠ q → I1 z = I z) ∧ (∀ j, j ≠ 12 → j ≠ 13 → I1 34 j = I 34 j)
theorem mLt0 {c : Nat} (hc : c ≤ 16) (h : nI c ≤ 0) : c < 8 := by
  rcases Nat.eq_zero_or_pos c with e | e
  · omega
  · exact absurd h (nI_nle e (by omega))
section NR
variable {q c j : Nat} {I J K : Nat → Nat → Int32} {v : Int32} {s n t : Nat}
theorem mNr.rf : mNr q I I := ⟨fun _ _ _ => rfl, fun _ _ _ => rfl⟩
theorem mNr.tr (h : mNr q I J) (g : mNr q J K) : mNr q I K := ⟨fun z a b => (g.1 z a b).trans (h.1 z a b), fun j a b => (g.2 j a b).trans (h.2 j a b)⟩
theorem mNr.uf (h : j = 12 ∨ j = 13) (g : mNr q I J) : mNr q I (mUp J 34 j v) := ⟨fun z a b => by rw [mUp_row a]; exact g.1 z a b, fun i a b => by rw [mUp_oth (by omega)]; exact g.2 i a b⟩
theorem mNr.uq (hq : q ≠ 34) (g : mNr q I J) : mNr q I (mUp J q j v) := ⟨fun z a b => by rw [mUp_row b]; exact g.1 z a b, fun i a b => by rw [mUp_row (fun e => hq e.symm)]; exact g.2 i a b⟩
theorem mNr.m (g : mNr q I J) (hq : q = 42 ∨ q = 43) (h : mM s n t I) : mM s n t J := by
  obtain ⟨h1, h2, h3, h4, h5, h6⟩ := h
  refine ⟨⟨(g.2 1 (by omega) (by omega)).trans h1.1, h1.2⟩, ⟨(g.2 3 (by omega) (by omega)).trans h2.1, h2.2⟩, ⟨(g.2 11 (by omega) (by omega)).trans h3.1, h3.2⟩, ?_, ?_, ?_⟩
  · rw [g.1 35 (by omega) (by omega)]; exact h4
  · rw [g.1 36 (by omega) (by omega)]; exact h5
  · rw [g.1 41 (by omega) (by omega)]; exact h6
theorem mGr.nr (hq : q = 42 ∨ q = 43) (h : mNr q J K) (g : mGr I J) : mGr I K := by
  refine ⟨fun z hz => ?_, fun z hz => ?_⟩
  · rw [h.1 z (mMem_ne hz rfl) (by rcases hq with e | e <;> subst e <;> exact mMem_ne hz rfl)]
    exact g.1 z hz
  · rw [h.2 z (mMem_ne hz rfl) (mMem_ne hz rfl)]
    exact g.2 z hz
end NR
theorem s_ns_42 {ro : Nat → Nat × (Nat → Int32)} {Q : mPo} {d : Nat} {I : Nat → Nat → Int32} {L : Nat → Nat → Int64} {s n t : Nat} {a c : Nat} {B : Nat} (hB : 120 ≤ B) (hB2 : B ≤ 1000) (hm : mM s n t I) (hat : I 34 12 = nI a) (ha : a ≤ B) (hc : c ≤ 16) (p0 : ∀ I1, mNr 42 I I1 → (∃ a', a' ≤ B ∧ I1 34 12 = nI a') → I1 42 = I 42 → Q (some (.int (-1))) (mSH, I1, L)) (p1 : ∀ I1, mNr 42 I I1 → (∃ a', a' ≤ B ∧ I1 34 12 = nI a') → I1 42 = I 42 → Q (some (.int (nI c))) (mSH, I1, L)) (ih : c < 16 → ∀ I1 v, mNr 42 I I1 → (∃ a', a' ≤ B ∧ I1 34 12 = nI a') → mYR v → I1 42 = (mUp I 42 c v) 42 → mWP mTb_ mFT ro (d + 3, 155, 2, [some (.ref 34), some (.ref 42), some (.int 16), some (.int ((nI c) + 1))], [], 0, 0, (mSH, I1, L)) Q)   : mWP mTb_ mFT ro (d + 3, 155, 2, [some (.ref 34), some (.ref 42), some (.int 16), some (.int (nI c))], [], 0, 0, (mSH, I, L)) Q := by
  refine mB 1 (s2 := (d + 3, 155, 3, [some (.ref 34), some (.ref 42), some (.int 16), some (.int (nI c))], [.ref 34], 0, 0, (mSH, I, L))) rfl ?_
  refine mCall (s2 := (d + 2, 152, 0, [some (.ref 34)], [], 0, 0, (mSH, I, L))) rfl ?_
  refine w_skips hB hB2 (hm) hat ha (fun a1 hla1 => ?_)
  show mWP mTb_ mFT ro (d + 3, 155, 6, [some (.ref 34), some (.ref 42), some (.int 16), some (.int (nI c))], [], 0, 0, (mSH, (mUp I 34 12 (nI a1)), L)) _
  refine mB 1 (s2 := (d + 3, 155, 7, [some (.ref 34), some (.ref 42), some (.int 16), some (.int (nI c))], [.int (nI c)], 0, 0, (mSH, (mUp I 34 12 (nI a1)), L))) rfl ?_
  refine mBr (s2 := (d + 3, 155, 35, [some (.ref 34), some (.ref 42), some (.int 16), some (.int (nI c))], [], 0, 0, (mSH, (mUp I 34 12 (nI a1)), L))) (s3 := (d + 3, 155, 10, [some (.ref 34), some (.ref 42), some (.int 16), some (.int (nI c))], [], 0, 0, (mSH, (mUp I 34 12 (nI a1)), L))) rfl (fun c1 => ?_) (fun c1 => ?_)
  · refine mB 2 (s2 := (d + 3, 155, 37, [some (.ref 34), some (.ref 42), some (.int 16), some (.int (nI c))], [.int 16, .int (nI c)], 0, 0, (mSH, (mUp I 34 12 (nI a1)), L))) rfl ?_
    refine mBF (c := decide ((nI c) = 16)) (s3 := (d + 3, 155, 40, [some (.ref 34), some (.ref 42), some (.int 16), some (.int (nI c))], [], 0, 0, (mSH, (mUp I 34 12 (nI a1)), L))) rfl (decide_eq_false (by have a0 := of_decide_eq_true c1; simp only [Int32.lt_iff_toInt_lt, Int32.le_iff_toInt_le, ← Int32.toInt_inj, mLi0, mLi1, mLi2, mLi3, mLi4, mLi5, mLi6, mLi7, mLi8, mLi9, mLi10, mLi16, mLi32, mLi48, mLi57, mLi59, mLi65, mLi90, mLi97, mLi99, mLi120, mLi122, mLi127, mLi1584, mLi999999, mLim] at a0 ⊢; omega)) ?_
    refine mB 1 (s2 := (d + 3, 155, 41, [some (.ref 34), some (.ref 42), some (.int 16), some (.int (nI c))], [.ref 34], 0, 0, (mSH, (mUp I 34 12 (nI a1)), L))) rfl ?_
    refine mCall (s2 := (d + 2, 153, 0, [some (.ref 34), none, none, none], [], 0, 0, (mSH, (mUp I 34 12 (nI a1)), L))) rfl ?_
    refine w_isn hB hB2 (hm) rfl hla1 ?_ ?_
    · intro w2 a2 hla2
      show mWP mTb_ mFT ro (d + 3, 155, 44, [some (.ref 34), some (.ref 42), some (.int 16), some (.int (nI c))], [.int 0], 0, 0, (mSH, (mUp (mUp (mUp I 34 12 (nI a1)) 34 13 w2) 34 12 (nI a2)), L)) _
      refine mBT (s2 := (d + 3, 155, 47, [some (.ref 34), some (.ref 42), some (.int 16), some (.int (nI c))], [], 0, 0, (mSH, (mUp (mUp (mUp I 34 12 (nI a1)) 34 13 w2) 34 12 (nI a2)), L))) rfl (by decide) ?_
      refine mB 1 (s2 := (d + 3, 155, 48, [some (.ref 34), some (.ref 42), some (.int 16), some (.int (nI c))], [.int (-1)], 0, 0, (mSH, (mUp (mUp (mUp I 34 12 (nI a1)) 34 13 w2) 34 12 (nI a2)), L))) rfl ?_
      refine mRt (r := (some (.int (-1)))) (h := (mSH, (mUp (mUp (mUp I 34 12 (nI a1)) 34 13 w2) 34 12 (nI a2)), L)) rfl (mRet_int rfl) ?_
      exact p0 _ (mNr.uf (by omega) (mNr.uf (by omega) (mNr.uf (by omega) mNr.rf))) ⟨a2, hla2, rfl⟩ rfl
    · intro w2 a2 yw2 hla2
      show mWP mTb_ mFT ro (d + 3, 155, 44, [some (.ref 34), some (.ref 42), some (.int 16), some (.int (nI c))], [.int 1], 0, 0, (mSH, (mUp (mUp (mUp I 34 12 (nI a1)) 34 13 w2) 34 12 (nI a2)), L)) _
      refine mBF (s3 := (d + 3, 155, 49, [some (.ref 34), some (.ref 42), some (.int 16), some (.int (nI c))], [], 0, 0, (mSH, (mUp (mUp (mUp I 34 12 (nI a1)) 34 13 w2) 34 12 (nI a2)), L))) rfl (by decide) ?_
      refine mB 4 (s2 := (d + 3, 155, 55, [some (.ref 34), some (.ref 42), some (.int 16), some (.int (nI c))], [.int w2, .int (nI c), .ref 42], 0, 0, (mSH, (mUp (mUp (mUp I 34 12 (nI a1)) 34 13 w2) 34 12 (nI a2)), L))) rfl ?_
      refine mRq (s2 := (d + 3, 155, 56, [some (.ref 34), some (.ref 42), some (.int 16), some (.int (nI c))], [], 0, 0, (mSH, (mUp (mUp (mUp (mUp I 34 12 (nI a1)) 34 13 w2) 34 12 (nI a2)) 42 ((nI c).toNatClampNeg) w2), L))) rfl (mVp_of (vp_in_nI (Nat.lt_of_lt_of_le (mLt0 (by omega) (of_decide_eq_true c1)) (by omega)) (by omega))) ?_
      refine mB 2 (s2 := (d + 3, 155, 2, [some (.ref 34), some (.ref 42), some (.int 16), some (.int ((nI c) + 1))], [], 0, 0, (mSH, (mUp (mUp (mUp (mUp I 34 12 (nI a1)) 34 13 w2) 34 12 (nI a2)) 42 ((nI c).toNatClampNeg) w2), L))) rfl ?_
      exact ih (Nat.lt_of_lt_of_le (mLt0 (by omega) (of_decide_eq_true c1)) (by omega)) _ _ (mNr.uq (by omega) (mNr.uf (by omega) (mNr.uf (by omega) (mNr.uf (by omega) mNr.rf)))) ⟨a2, hla2, rfl⟩ yw2 (by rw [nI_clamp (by omega)]; rfl)
  · refine mB 3 (s2 := (d + 3, 155, 15, [some (.ref 34), some (.ref 42), some (.int 16), some (.int (nI c))], [.int (nI a1), .ref 34], 0, 0, (mSH, (mUp I 34 12 (nI a1)), L))) rfl ?_
    refine mCall (s2 := (d + 2, 151, 0, [some (.ref 34), some (.int (nI a1))], [], 0, 0, (mSH, (mUp I 34 12 (nI a1)), L))) rfl ?_
    refine w_byte (k := a1) (hm) rfl (by omega) ?_ ?_
    · show mWP mTb_ mFT ro (d + 3, 155, 18, [some (.ref 34), some (.ref 42), some (.int 16), some (.int (nI c))], [.int (-1)], 0, 0, (mSH, (mUp I 34 12 (nI a1)), L)) _
      refine mB 1 (s2 := (d + 3, 155, 20, [some (.ref 34), some (.ref 42), some (.int 16), some (.int (nI c))], [.int 59, .int (-1)], 0, 0, (mSH, (mUp I 34 12 (nI a1)), L))) rfl ?_
      refine mBF (s3 := (d + 3, 155, 35, [some (.ref 34), some (.ref 42), some (.int 16), some (.int (nI c))], [], 0, 0, (mSH, (mUp I 34 12 (nI a1)), L))) rfl (by decide) ?_
      refine mB 2 (s2 := (d + 3, 155, 37, [some (.ref 34), some (.ref 42), some (.int 16), some (.int (nI c))], [.int 16, .int (nI c)], 0, 0, (mSH, (mUp I 34 12 (nI a1)), L))) rfl ?_
      refine mBr (s2 := (d + 3, 155, 47, [some (.ref 34), some (.ref 42), some (.int 16), some (.int (nI c))], [], 0, 0, (mSH, (mUp I 34 12 (nI a1)), L))) (s3 := (d + 3, 155, 40, [some (.ref 34), some (.ref 42), some (.int 16), some (.int (nI c))], [], 0, 0, (mSH, (mUp I 34 12 (nI a1)), L))) rfl (fun c2 => ?_) (fun c2 => ?_)
      · refine mB 1 (s2 := (d + 3, 155, 48, [some (.ref 34), some (.ref 42), some (.int 16), some (.int (nI c))], [.int (-1)], 0, 0, (mSH, (mUp I 34 12 (nI a1)), L))) rfl ?_
        refine mRt (r := (some (.int (-1)))) (h := (mSH, (mUp I 34 12 (nI a1)), L)) rfl (mRet_int rfl) ?_
        exact p0 _ (mNr.uf (by omega) mNr.rf) ⟨a1, hla1, rfl⟩ rfl
      · refine mB 1 (s2 := (d + 3, 155, 41, [some (.ref 34), some (.ref 42), some (.int 16), some (.int (nI c))], [.ref 34], 0, 0, (mSH, (mUp I 34 12 (nI a1)), L))) rfl ?_
        refine mCall (s2 := (d + 2, 153, 0, [some (.ref 34), none, none, none], [], 0, 0, (mSH, (mUp I 34 12 (nI a1)), L))) rfl ?_
        refine w_isn hB hB2 (hm) rfl hla1 ?_ ?_
        · intro w4 a4 hla4
          show mWP mTb_ mFT ro (d + 3, 155, 44, [some (.ref 34), some (.ref 42), some (.int 16), some (.int (nI c))], [.int 0], 0, 0, (mSH, (mUp (mUp (mUp I 34 12 (nI a1)) 34 13 w4) 34 12 (nI a4)), L)) _
          refine mBT (s2 := (d + 3, 155, 47, [some (.ref 34), some (.ref 42), some (.int 16), some (.int (nI c))], [], 0, 0, (mSH, (mUp (mUp (mUp I 34 12 (nI a1)) 34 13 w4) 34 12 (nI a4)), L))) rfl (by decide) ?_
          refine mB 1 (s2 := (d + 3, 155, 48, [some (.ref 34), some (.ref 42), some (.int 16), some (.int (nI c))], [.int (-1)], 0, 0, (mSH, (mUp (mUp (mUp I 34 12 (nI a1)) 34 13 w4) 34 12 (nI a4)), L))) rfl ?_
          refine mRt (r := (some (.int (-1)))) (h := (mSH, (mUp (mUp (mUp I 34 12 (nI a1)) 34 13 w4) 34 12 (nI a4)), L)) rfl (mRet_int rfl) ?_
          exact p0 _ (mNr.uf (by omega) (mNr.uf (by omega) (mNr.uf (by omega) mNr.rf))) ⟨a4, hla4, rfl⟩ rfl
        · intro w4 a4 yw4 hla4
          show mWP mTb_ mFT ro (d + 3, 155, 44, [some (.ref 34), some (.ref 42), some (.int 16), some (.int (nI c))], [.int 1], 0, 0, (mSH, (mUp (mUp (mUp I 34 12 (nI a1)) 34 13 w4) 34 12 (nI a4)), L)) _
          refine mBF (s3 := (d + 3, 155, 49, [some (.ref 34), some (.ref 42), some (.int 16), some (.int (nI c))], [], 0, 0, (mSH, (mUp (mUp (mUp I 34 12 (nI a1)) 34 13 w4) 34 12 (nI a4)), L))) rfl (by decide) ?_
          refine mB 4 (s2 := (d + 3, 155, 55, [some (.ref 34), some (.ref 42), some (.int 16), some (.int (nI c))], [.int w4, .int (nI c), .ref 42], 0, 0, (mSH, (mUp (mUp (mUp I 34 12 (nI a1)) 34 13 w4) 34 12 (nI a4)), L))) rfl ?_
          refine mRq (s2 := (d + 3, 155, 56, [some (.ref 34), some (.ref 42), some (.int 16), some (.int (nI c))], [], 0, 0, (mSH, (mUp (mUp (mUp (mUp I 34 12 (nI a1)) 34 13 w4) 34 12 (nI a4)) 42 ((nI c).toNatClampNeg) w4), L))) rfl (mVp_of (vp_in_nI (mLtn (k := c) (N := 16) rfl hc (by omega) (of_decide_eq_false c2)) (by omega))) ?_
          refine mB 2 (s2 := (d + 3, 155, 2, [some (.ref 34), some (.ref 42), some (.int 16), some (.int ((nI c) + 1))], [], 0, 0, (mSH, (mUp (mUp (mUp (mUp I 34 12 (nI a1)) 34 13 w4) 34 12 (nI a4)) 42 ((nI c).toNatClampNeg) w4), L))) rfl ?_
          exact ih (mLtn (k := c) (N := 16) rfl hc (by omega) (of_decide_eq_false c2)) _ _ (mNr.uq (by omega) (mNr.uf (by omega) (mNr.uf (by omega) (mNr.uf (by omega) mNr.rf)))) ⟨a4, hla4, rfl⟩ yw4 (by rw [nI_clamp (by omega)]; rfl)
    · intro l3
      show mWP mTb_ mFT ro (d + 3, 155, 18, [some (.ref 34), some (.ref 42), some (.int 16), some (.int (nI c))], [.int (I 40 (a1))], 0, 0, (mSH, (mUp I 34 12 (nI a1)), L)) _
      refine mB 1 (s2 := (d + 3, 155, 20, [some (.ref 34), some (.ref 42), some (.int 16), some (.int (nI c))], [.int 59, .int (I 40 (a1))], 0, 0, (mSH, (mUp I 34 12 (nI a1)), L))) rfl ?_
      refine mBr (s2 := (d + 3, 155, 23, [some (.ref 34), some (.ref 42), some (.int 16), some (.int (nI c))], [], 0, 0, (mSH, (mUp I 34 12 (nI a1)), L))) (s3 := (d + 3, 155, 35, [some (.ref 34), some (.ref 42), some (.int 16), some (.int (nI c))], [], 0, 0, (mSH, (mUp I 34 12 (nI a1)), L))) rfl (fun c2 => ?_) (fun c2 => ?_)
      · refine mB 7 (s2 := (d + 3, 155, 34, [some (.ref 34), some (.ref 42), some (.int 16), some (.int (nI c))], [.int (nI c)], 0, 0, (mSH, (mUp (mUp I 34 12 (nI a1)) 34 12 ((nI a1) + 1)), L))) rfl ?_
        refine mRt (r := (some (.int (nI c)))) (h := (mSH, (mUp (mUp I 34 12 (nI a1)) 34 12 ((nI a1) + 1)), L)) rfl (mRet_int rfl) ?_
        exact p1 _ (mNr.uf (by omega) (mNr.uf (by omega) mNr.rf)) ⟨a1 + 1, by have := hm.2.2.1.2; omega, nI_1 a1⟩ rfl
      · refine mB 2 (s2 := (d + 3, 155, 37, [some (.ref 34), some (.ref 42), some (.int 16), some (.int (nI c))], [.int 16, .int (nI c)], 0, 0, (mSH, (mUp I 34 12 (nI a1)), L))) rfl ?_
        refine mBr (s2 := (d + 3, 155, 47, [some (.ref 34), some (.ref 42), some (.int 16), some (.int (nI c))], [], 0, 0, (mSH, (mUp I 34 12 (nI a1)), L))) (s3 := (d + 3, 155, 40, [some (.ref 34), some (.ref 42), some (.int 16), some (.int (nI c))], [], 0, 0, (mSH, (mUp I 34 12 (nI a1)), L))) rfl (fun c3 => ?_) (fun c3 => ?_)
        · refine mB 1 (s2 := (d + 3, 155, 48, [some (.ref 34), some (.ref 42), some (.int 16), some (.int (nI c))], [.int (-1)], 0, 0, (mSH, (mUp I 34 12 (nI a1)), L))) rfl ?_
          refine mRt (r := (some (.int (-1)))) (h := (mSH, (mUp I 34 12 (nI a1)), L)) rfl (mRet_int rfl) ?_
          exact p0 _ (mNr.uf (by omega) mNr.rf) ⟨a1, hla1, rfl⟩ rfl
        · refine mB 1 (s2 := (d + 3, 155, 41, [some (.ref 34), some (.ref 42), some (.int 16), some (.int (nI c))], [.ref 34], 0, 0, (mSH, (mUp I 34 12 (nI a1)), L))) rfl ?_
          refine mCall (s2 := (d + 2, 153, 0, [some (.ref 34), none, none, none], [], 0, 0, (mSH, (mUp I 34 12 (nI a1)), L))) rfl ?_
          refine w_isn hB hB2 (hm) rfl hla1 ?_ ?_
          · intro w5 a5 hla5
            show mWP mTb_ mFT ro (d + 3, 155, 44, [some (.ref 34), some (.ref 42), some (.int 16), some (.int (nI c))], [.int 0], 0, 0, (mSH, (mUp (mUp (mUp I 34 12 (nI a1)) 34 13 w5) 34 12 (nI a5)), L)) _
            refine mBT (s2 := (d + 3, 155, 47, [some (.ref 34), some (.ref 42), some (.int 16), some (.int (nI c))], [], 0, 0, (mSH, (mUp (mUp (mUp I 34 12 (nI a1)) 34 13 w5) 34 12 (nI a5)), L))) rfl (by decide) ?_
            refine mB 1 (s2 := (d + 3, 155, 48, [some (.ref 34), some (.ref 42), some (.int 16), some (.int (nI c))], [.int (-1)], 0, 0, (mSH, (mUp (mUp (mUp I 34 12 (nI a1)) 34 13 w5) 34 12 (nI a5)), L))) rfl ?_
            refine mRt (r := (some (.int (-1)))) (h := (mSH, (mUp (mUp (mUp I 34 12 (nI a1)) 34 13 w5) 34 12 (nI a5)), L)) rfl (mRet_int rfl) ?_
            exact p0 _ (mNr.uf (by omega) (mNr.uf (by omega) (mNr.uf (by omega) mNr.rf))) ⟨a5, hla5, rfl⟩ rfl
          · intro w5 a5 yw5 hla5
            show mWP mTb_ mFT ro (d + 3, 155, 44, [some (.ref 34), some (.ref 42), some (.int 16), some (.int (nI c))], [.int 1], 0, 0, (mSH, (mUp (mUp (mUp I 34 12 (nI a1)) 34 13 w5) 34 12 (nI a5)), L)) _
            refine mBF (s3 := (d + 3, 155, 49, [some (.ref 34), some (.ref 42), some (.int 16), some (.int (nI c))], [], 0, 0, (mSH, (mUp (mUp (mUp I 34 12 (nI a1)) 34 13 w5) 34 12 (nI a5)), L))) rfl (by decide) ?_
            refine mB 4 (s2 := (d + 3, 155, 55, [some (.ref 34), some (.ref 42), some (.int 16), some (.int (nI c))], [.int w5, .int (nI c), .ref 42], 0, 0, (mSH, (mUp (mUp (mUp I 34 12 (nI a1)) 34 13 w5) 34 12 (nI a5)), L))) rfl ?_
            refine mRq (s2 := (d + 3, 155, 56, [some (.ref 34), some (.ref 42), some (.int 16), some (.int (nI c))], [], 0, 0, (mSH, (mUp (mUp (mUp (mUp I 34 12 (nI a1)) 34 13 w5) 34 12 (nI a5)) 42 ((nI c).toNatClampNeg) w5), L))) rfl (mVp_of (vp_in_nI (mLtn (k := c) (N := 16) rfl hc (by omega) (of_decide_eq_false c3)) (by omega))) ?_
            refine mB 2 (s2 := (d + 3, 155, 2, [some (.ref 34), some (.ref 42), some (.int 16), some (.int ((nI c) + 1))], [], 0, 0, (mSH, (mUp (mUp (mUp (mUp I 34 12 (nI a1)) 34 13 w5) 34 12 (nI a5)) 42 ((nI c).toNatClampNeg) w5), L))) rfl ?_
            exact ih (mLtn (k := c) (N := 16) rfl hc (by omega) (of_decide_eq_false c3)) _ _ (mNr.uq (by omega) (mNr.uf (by omega) (mNr.uf (by omega) (mNr.uf (by omega) mNr.rf)))) ⟨a5, hla5, rfl⟩ yw5 (by rw [nI_clamp (by omega)]; rfl)
theorem w_ns_42 {ro : Nat → Nat × (Nat → Int32)} {Q : mPo} {d : Nat} {I : Nat → Nat → Int32} {L : Nat → Nat → Int64} {s n t : Nat} {B : Nat} (hB : 120 ≤ B) (hB2 : B ≤ 1000) {a : Nat} (hm : mM s n t I) (hat : I 34 12 = nI a) (ha : a ≤ B) (q0 : ∀ I1 a', mNr 42 I I1 → a' ≤ B → I1 34 12 = nI a' → Q (some (.int (-1))) (mSH, I1, L)) (q1 : ∀ I1 a' c, mNr 42 I I1 → a' ≤ B → I1 34 12 = nI a' → c ≤ 16 → (∀ j, j < c → mYR (I1 42 j)) → Q (some (.int (nI c))) (mSH, I1, L)) : mWP mTb_ mFT ro (d + 3, 155, 0, [some (.ref 34), some (.ref 42), some (.int 16), none], [], 0, 0, (mSH, I, L)) Q := by
  have go : ∀ (m c : Nat), c + m = 16 → ∀ J a, mNr 42 I J → J 34 12 = nI a → a ≤ B → (∀ j, j < c → mYR (J 42 j)) → mWP mTb_ mFT ro (d + 3, 155, 2, [some (.ref 34), some (.ref 42), some (.int 16), some (.int (nI c))], [], 0, 0, (mSH, J, L)) Q := by
    intro m
    induction m with
    | zero =>
      intro c hc J a gJ hat ha hy
      exact s_ns_42 hB hB2 (gJ.m (by omega) hm) hat ha (by omega) (fun I1 g1 ⟨a', l1, e1⟩ e2 => q0 I1 a' (gJ.tr g1) l1 e1) (fun I1 g1 ⟨a', l1, e1⟩ e2 => q1 I1 a' c (gJ.tr g1) l1 e1 (by omega) (by rw [e2]; exact hy)) (fun z => by omega)
    | succ m ih =>
      intro c hc J a gJ hat ha hy
      refine s_ns_42 hB hB2 (gJ.m (by omega) hm) hat ha (by omega) (fun I1 g1 ⟨a', l1, e1⟩ e2 => q0 I1 a' (gJ.tr g1) l1 e1) (fun I1 g1 ⟨a', l1, e1⟩ e2 => q1 I1 a' c (gJ.tr g1) l1 e1 (by omega) (by rw [e2]; exact hy)) (fun z I1 v g1 ⟨a', l1, e1⟩ hv e2 => ?_)
      rw [nI_1]
      refine ih (c + 1) (by omega) I1 a' (gJ.tr g1) e1 l1 (fun j hj => ?_)
      rw [e2]
      rcases Nat.lt_or_ge j c with z | z
      · rw [mUp_oth (by omega)]
        exact hy j z
      · have e : j = c := by omega
        rw [e, mUp_same]
        exact hv
  exact mB 2 (s2 := (d + 3, 155, 2, [some (.ref 34), some (.ref 42), some (.int 16), some (.int (nI 0))], [], 0, 0, (mSH, I, L))) rfl (go 16 0 rfl I a mNr.rf hat ha (fun j hj => absurd hj (Nat.not_lt_zero j)))
theorem s_ns_43 {ro : Nat → Nat × (Nat → Int32)} {Q : mPo} {d : Nat} {I : Nat → Nat → Int32} {L : Nat → Nat → Int64} {s n t : Nat} {a c : Nat} {B : Nat} (hB : 120 ≤ B) (hB2 : B ≤ 1000) (hm : mM s n t I) (hat : I 34 12 = nI a) (ha : a ≤ B) (hc : c ≤ 8) (p0 : ∀ I1, mNr 43 I I1 → (∃ a', a' ≤ B ∧ I1 34 12 = nI a') → I1 43 = I 43 → Q (some (.int (-1))) (mSH, I1, L)) (p1 : ∀ I1, mNr 43 I I1 → (∃ a', a' ≤ B ∧ I1 34 12 = nI a') → I1 43 = I 43 → Q (some (.int (nI c))) (mSH, I1, L)) (ih : c < 8 → ∀ I1 v, mNr 43 I I1 → (∃ a', a' ≤ B ∧ I1 34 12 = nI a') → mYR v → I1 43 = (mUp I 43 c v) 43 → mWP mTb_ mFT ro (d + 3, 155, 2, [some (.ref 34), some (.ref 43), some (.int 8), some (.int ((nI c) + 1))], [], 0, 0, (mSH, I1, L)) Q)   : mWP mTb_ mFT ro (d + 3, 155, 2, [some (.ref 34), some (.ref 43), some (.int 8), some (.int (nI c))], [], 0, 0, (mSH, I, L)) Q := by
  refine mB 1 (s2 := (d + 3, 155, 3, [some (.ref 34), some (.ref 43), some (.int 8), some (.int (nI c))], [.ref 34], 0, 0, (mSH, I, L))) rfl ?_
  refine mCall (s2 := (d + 2, 152, 0, [some (.ref 34)], [], 0, 0, (mSH, I, L))) rfl ?_
  refine w_skips hB hB2 (hm) hat ha (fun a1 hla1 => ?_)
  show mWP mTb_ mFT ro (d + 3, 155, 6, [some (.ref 34), some (.ref 43), some (.int 8), some (.int (nI c))], [], 0, 0, (mSH, (mUp I 34 12 (nI a1)), L)) _
  refine mB 1 (s2 := (d + 3, 155, 7, [some (.ref 34), some (.ref 43), some (.int 8), some (.int (nI c))], [.int (nI c)], 0, 0, (mSH, (mUp I 34 12 (nI a1)), L))) rfl ?_
  refine mBr (s2 := (d + 3, 155, 35, [some (.ref 34), some (.ref 43), some (.int 8), some (.int (nI c))], [], 0, 0, (mSH, (mUp I 34 12 (nI a1)), L))) (s3 := (d + 3, 155, 10, [some (.ref 34), some (.ref 43), some (.int 8), some (.int (nI c))], [], 0, 0, (mSH, (mUp I 34 12 (nI a1)), L))) rfl (fun c1 => ?_) (fun c1 => ?_)
  · refine mB 2 (s2 := (d + 3, 155, 37, [some (.ref 34), some (.ref 43), some (.int 8), some (.int (nI c))], [.int 8, .int (nI c)], 0, 0, (mSH, (mUp I 34 12 (nI a1)), L))) rfl ?_
    refine mBF (c := decide ((nI c) = 8)) (s3 := (d + 3, 155, 40, [some (.ref 34), some (.ref 43), some (.int 8), some (.int (nI c))], [], 0, 0, (mSH, (mUp I 34 12 (nI a1)), L))) rfl (decide_eq_false (by have a0 := of_decide_eq_true c1; simp only [Int32.lt_iff_toInt_lt, Int32.le_iff_toInt_le, ← Int32.toInt_inj, mLi0, mLi1, mLi2, mLi3, mLi4, mLi5, mLi6, mLi7, mLi8, mLi9, mLi10, mLi16, mLi32, mLi48, mLi57, mLi59, mLi65, mLi90, mLi97, mLi99, mLi120, mLi122, mLi127, mLi1584, mLi999999, mLim] at a0 ⊢; omega)) ?_
    refine mB 1 (s2 := (d + 3, 155, 41, [some (.ref 34), some (.ref 43), some (.int 8), some (.int (nI c))], [.ref 34], 0, 0, (mSH, (mUp I 34 12 (nI a1)), L))) rfl ?_
    refine mCall (s2 := (d + 2, 153, 0, [some (.ref 34), none, none, none], [], 0, 0, (mSH, (mUp I 34 12 (nI a1)), L))) rfl ?_
    refine w_isn hB hB2 (hm) rfl hla1 ?_ ?_
    · intro w2 a2 hla2
      show mWP mTb_ mFT ro (d + 3, 155, 44, [some (.ref 34), some (.ref 43), some (.int 8), some (.int (nI c))], [.int 0], 0, 0, (mSH, (mUp (mUp (mUp I 34 12 (nI a1)) 34 13 w2) 34 12 (nI a2)), L)) _
      refine mBT (s2 := (d + 3, 155, 47, [some (.ref 34), some (.ref 43), some (.int 8), some (.int (nI c))], [], 0, 0, (mSH, (mUp (mUp (mUp I 34 12 (nI a1)) 34 13 w2) 34 12 (nI a2)), L))) rfl (by decide) ?_
      refine mB 1 (s2 := (d + 3, 155, 48, [some (.ref 34), some (.ref 43), some (.int 8), some (.int (nI c))], [.int (-1)], 0, 0, (mSH, (mUp (mUp (mUp I 34 12 (nI a1)) 34 13 w2) 34 12 (nI a2)), L))) rfl ?_
      refine mRt (r := (some (.int (-1)))) (h := (mSH, (mUp (mUp (mUp I 34 12 (nI a1)) 34 13 w2) 34 12 (nI a2)), L)) rfl (mRet_int rfl) ?_
      exact p0 _ (mNr.uf (by omega) (mNr.uf (by omega) (mNr.uf (by omega) mNr.rf))) ⟨a2, hla2, rfl⟩ rfl
    · intro w2 a2 yw2 hla2
      show mWP mTb_ mFT ro (d + 3, 155, 44, [some (.ref 34), some (.ref 43), some (.int 8), some (.int (nI c))], [.int 1], 0, 0, (mSH, (mUp (mUp (mUp I 34 12 (nI a1)) 34 13 w2) 34 12 (nI a2)), L)) _
      refine mBF (s3 := (d + 3, 155, 49, [some (.ref 34), some (.ref 43), some (.int 8), some (.int (nI c))], [], 0, 0, (mSH, (mUp (mUp (mUp I 34 12 (nI a1)) 34 13 w2) 34 12 (nI a2)), L))) rfl (by decide) ?_
      refine mB 4 (s2 := (d + 3, 155, 55, [some (.ref 34), some (.ref 43), some (.int 8), some (.int (nI c))], [.int w2, .int (nI c), .ref 43], 0, 0, (mSH, (mUp (mUp (mUp I 34 12 (nI a1)) 34 13 w2) 34 12 (nI a2)), L))) rfl ?_
      refine mRq (s2 := (d + 3, 155, 56, [some (.ref 34), some (.ref 43), some (.int 8), some (.int (nI c))], [], 0, 0, (mSH, (mUp (mUp (mUp (mUp I 34 12 (nI a1)) 34 13 w2) 34 12 (nI a2)) 43 ((nI c).toNatClampNeg) w2), L))) rfl (mVp_of (vp_in_nI (Nat.lt_of_lt_of_le (mLt0 (by omega) (of_decide_eq_true c1)) (by omega)) (by omega))) ?_
      refine mB 2 (s2 := (d + 3, 155, 2, [some (.ref 34), some (.ref 43), some (.int 8), some (.int ((nI c) + 1))], [], 0, 0, (mSH, (mUp (mUp (mUp (mUp I 34 12 (nI a1)) 34 13 w2) 34 12 (nI a2)) 43 ((nI c).toNatClampNeg) w2), L))) rfl ?_
      exact ih (Nat.lt_of_lt_of_le (mLt0 (by omega) (of_decide_eq_true c1)) (by omega)) _ _ (mNr.uq (by omega) (mNr.uf (by omega) (mNr.uf (by omega) (mNr.uf (by omega) mNr.rf)))) ⟨a2, hla2, rfl⟩ yw2 (by rw [nI_clamp (by omega)]; rfl)
  · refine mB 3 (s2 := (d + 3, 155, 15, [some (.ref 34), some (.ref 43), some (.int 8), some (.int (nI c))], [.int (nI a1), .ref 34], 0, 0, (mSH, (mUp I 34 12 (nI a1)), L))) rfl ?_
    refine mCall (s2 := (d + 2, 151, 0, [some (.ref 34), some (.int (nI a1))], [], 0, 0, (mSH, (mUp I 34 12 (nI a1)), L))) rfl ?_
    refine w_byte (k := a1) (hm) rfl (by omega) ?_ ?_
    · show mWP mTb_ mFT ro (d + 3, 155, 18, [some (.ref 34), some (.ref 43), some (.int 8), some (.int (nI c))], [.int (-1)], 0, 0, (mSH, (mUp I 34 12 (nI a1)), L)) _
      refine mB 1 (s2 := (d + 3, 155, 20, [some (.ref 34), some (.ref 43), some (.int 8), some (.int (nI c))], [.int 59, .int (-1)], 0, 0, (mSH, (mUp I 34 12 (nI a1)), L))) rfl ?_
      refine mBF (s3 := (d + 3, 155, 35, [some (.ref 34), some (.ref 43), some (.int 8), some (.int (nI c))], [], 0, 0, (mSH, (mUp I 34 12 (nI a1)), L))) rfl (by decide) ?_
      refine mB 2 (s2 := (d + 3, 155, 37, [some (.ref 34), some (.ref 43), some (.int 8), some (.int (nI c))], [.int 8, .int (nI c)], 0, 0, (mSH, (mUp I 34 12 (nI a1)), L))) rfl ?_
      refine mBr (s2 := (d + 3, 155, 47, [some (.ref 34), some (.ref 43), some (.int 8), some (.int (nI c))], [], 0, 0, (mSH, (mUp I 34 12 (nI a1)), L))) (s3 := (d + 3, 155, 40, [some (.ref 34), some (.ref 43), some (.int 8), some (.int (nI c))], [], 0, 0, (mSH, (mUp I 34 12 (nI a1)), L))) rfl (fun c2 => ?_) (fun c2 => ?_)
      · refine mB 1 (s2 := (d + 3, 155, 48, [some (.ref 34), some (.ref 43), some (.int 8), some (.int (nI c))], [.int (-1)], 0, 0, (mSH, (mUp I 34 12 (nI a1)), L))) rfl ?_
        refine mRt (r := (some (.int (-1)))) (h := (mSH, (mUp I 34 12 (nI a1)), L)) rfl (mRet_int rfl) ?_
        exact p0 _ (mNr.uf (by omega) mNr.rf) ⟨a1, hla1, rfl⟩ rfl
      · refine mB 1 (s2 := (d + 3, 155, 41, [some (.ref 34), some (.ref 43), some (.int 8), some (.int (nI c))], [.ref 34], 0, 0, (mSH, (mUp I 34 12 (nI a1)), L))) rfl ?_
        refine mCall (s2 := (d + 2, 153, 0, [some (.ref 34), none, none, none], [], 0, 0, (mSH, (mUp I 34 12 (nI a1)), L))) rfl ?_
        refine w_isn hB hB2 (hm) rfl hla1 ?_ ?_
        · intro w4 a4 hla4
          show mWP mTb_ mFT ro (d + 3, 155, 44, [some (.ref 34), some (.ref 43), some (.int 8), some (.int (nI c))], [.int 0], 0, 0, (mSH, (mUp (mUp (mUp I 34 12 (nI a1)) 34 13 w4) 34 12 (nI a4)), L)) _
          refine mBT (s2 := (d + 3, 155, 47, [some (.ref 34), some (.ref 43), some (.int 8), some (.int (nI c))], [], 0, 0, (mSH, (mUp (mUp (mUp I 34 12 (nI a1)) 34 13 w4) 34 12 (nI a4)), L))) rfl (by decide) ?_
          refine mB 1 (s2 := (d + 3, 155, 48, [some (.ref 34), some (.ref 43), some (.int 8), some (.int (nI c))], [.int (-1)], 0, 0, (mSH, (mUp (mUp (mUp I 34 12 (nI a1)) 34 13 w4) 34 12 (nI a4)), L))) rfl ?_
          refine mRt (r := (some (.int (-1)))) (h := (mSH, (mUp (mUp (mUp I 34 12 (nI a1)) 34 13 w4) 34 12 (nI a4)), L)) rfl (mRet_int rfl) ?_
          exact p0 _ (mNr.uf (by omega) (mNr.uf (by omega) (mNr.uf (by omega) mNr.rf))) ⟨a4, hla4, rfl⟩ rfl
        · intro w4 a4 yw4 hla4
          show mWP mTb_ mFT ro (d + 3, 155, 44, [some (.ref 34), some (.ref 43), some (.int 8), some (.int (nI c))], [.int 1], 0, 0, (mSH, (mUp (mUp (mUp I 34 12 (nI a1)) 34 13 w4) 34 12 (nI a4)), L)) _
          refine mBF (s3 := (d + 3, 155, 49, [some (.ref 34), some (.ref 43), some (.int 8), some (.int (nI c))], [], 0, 0, (mSH, (mUp (mUp (mUp I 34 12 (nI a1)) 34 13 w4) 34 12 (nI a4)), L))) rfl (by decide) ?_
          refine mB 4 (s2 := (d + 3, 155, 55, [some (.ref 34), some (.ref 43), some (.int 8), some (.int (nI c))], [.int w4, .int (nI c), .ref 43], 0, 0, (mSH, (mUp (mUp (mUp I 34 12 (nI a1)) 34 13 w4) 34 12 (nI a4)), L))) rfl ?_
          refine mRq (s2 := (d + 3, 155, 56, [some (.ref 34), some (.ref 43), some (.int 8), some (.int (nI c))], [], 0, 0, (mSH, (mUp (mUp (mUp (mUp I 34 12 (nI a1)) 34 13 w4) 34 12 (nI a4)) 43 ((nI c).toNatClampNeg) w4), L))) rfl (mVp_of (vp_in_nI (mLtn (k := c) (N := 8) rfl hc (by omega) (of_decide_eq_false c2)) (by omega))) ?_
          refine mB 2 (s2 := (d + 3, 155, 2, [some (.ref 34), some (.ref 43), some (.int 8), some (.int ((nI c) + 1))], [], 0, 0, (mSH, (mUp (mUp (mUp (mUp I 34 12 (nI a1)) 34 13 w4) 34 12 (nI a4)) 43 ((nI c).toNatClampNeg) w4), L))) rfl ?_
          exact ih (mLtn (k := c) (N := 8) rfl hc (by omega) (of_decide_eq_false c2)) _ _ (mNr.uq (by omega) (mNr.uf (by omega) (mNr.uf (by omega) (mNr.uf (by omega) mNr.rf)))) ⟨a4, hla4, rfl⟩ yw4 (by rw [nI_clamp (by omega)]; rfl)
    · intro l3
      show mWP mTb_ mFT ro (d + 3, 155, 18, [some (.ref 34), some (.ref 43), some (.int 8), some (.int (nI c))], [.int (I 40 (a1))], 0, 0, (mSH, (mUp I 34 12 (nI a1)), L)) _
      refine mB 1 (s2 := (d + 3, 155, 20, [some (.ref 34), some (.ref 43), some (.int 8), some (.int (nI c))], [.int 59, .int (I 40 (a1))], 0, 0, (mSH, (mUp I 34 12 (nI a1)), L))) rfl ?_
      refine mBr (s2 := (d + 3, 155, 23, [some (.ref 34), some (.ref 43), some (.int 8), some (.int (nI c))], [], 0, 0, (mSH, (mUp I 34 12 (nI a1)), L))) (s3 := (d + 3, 155, 35, [some (.ref 34), some (.ref 43), some (.int 8), some (.int (nI c))], [], 0, 0, (mSH, (mUp I 34 12 (nI a1)), L))) rfl (fun c2 => ?_) (fun c2 => ?_)
      · refine mB 7 (s2 := (d + 3, 155, 34, [some (.ref 34), some (.ref 43), some (.int 8), some (.int (nI c))], [.int (nI c)], 0, 0, (mSH, (mUp (mUp I 34 12 (nI a1)) 34 12 ((nI a1) + 1)), L))) rfl ?_
        refine mRt (r := (some (.int (nI c)))) (h := (mSH, (mUp (mUp I 34 12 (nI a1)) 34 12 ((nI a1) + 1)), L)) rfl (mRet_int rfl) ?_
        exact p1 _ (mNr.uf (by omega) (mNr.uf (by omega) mNr.rf)) ⟨a1 + 1, by have := hm.2.2.1.2; omega, nI_1 a1⟩ rfl
      · refine mB 2 (s2 := (d + 3, 155, 37, [some (.ref 34), some (.ref 43), some (.int 8), some (.int (nI c))], [.int 8, .int (nI c)], 0, 0, (mSH, (mUp I 34 12 (nI a1)), L))) rfl ?_
        refine mBr (s2 := (d + 3, 155, 47, [some (.ref 34), some (.ref 43), some (.int 8), some (.int (nI c))], [], 0, 0, (mSH, (mUp I 34 12 (nI a1)), L))) (s3 := (d + 3, 155, 40, [some (.ref 34), some (.ref 43), some (.int 8), some (.int (nI c))], [], 0, 0, (mSH, (mUp I 34 12 (nI a1)), L))) rfl (fun c3 => ?_) (fun c3 => ?_)
        · refine mB 1 (s2 := (d + 3, 155, 48, [some (.ref 34), some (.ref 43), some (.int 8), some (.int (nI c))], [.int (-1)], 0, 0, (mSH, (mUp I 34 12 (nI a1)), L))) rfl ?_
          refine mRt (r := (some (.int (-1)))) (h := (mSH, (mUp I 34 12 (nI a1)), L)) rfl (mRet_int rfl) ?_
          exact p0 _ (mNr.uf (by omega) mNr.rf) ⟨a1, hla1, rfl⟩ rfl
        · refine mB 1 (s2 := (d + 3, 155, 41, [some (.ref 34), some (.ref 43), some (.int 8), some (.int (nI c))], [.ref 34], 0, 0, (mSH, (mUp I 34 12 (nI a1)), L))) rfl ?_
          refine mCall (s2 := (d + 2, 153, 0, [some (.ref 34), none, none, none], [], 0, 0, (mSH, (mUp I 34 12 (nI a1)), L))) rfl ?_
          refine w_isn hB hB2 (hm) rfl hla1 ?_ ?_
          · intro w5 a5 hla5
            show mWP mTb_ mFT ro (d + 3, 155, 44, [some (.ref 34), some (.ref 43), some (.int 8), some (.int (nI c))], [.int 0], 0, 0, (mSH, (mUp (mUp (mUp I 34 12 (nI a1)) 34 13 w5) 34 12 (nI a5)), L)) _
            refine mBT (s2 := (d + 3, 155, 47, [some (.ref 34), some (.ref 43), some (.int 8), some (.int (nI c))], [], 0, 0, (mSH, (mUp (mUp (mUp I 34 12 (nI a1)) 34 13 w5) 34 12 (nI a5)), L))) rfl (by decide) ?_
            refine mB 1 (s2 := (d + 3, 155, 48, [some (.ref 34), some (.ref 43), some (.int 8), some (.int (nI c))], [.int (-1)], 0, 0, (mSH, (mUp (mUp (mUp I 34 12 (nI a1)) 34 13 w5) 34 12 (nI a5)), L))) rfl ?_
            refine mRt (r := (some (.int (-1)))) (h := (mSH, (mUp (mUp (mUp I 34 12 (nI a1)) 34 13 w5) 34 12 (nI a5)), L)) rfl (mRet_int rfl) ?_
            exact p0 _ (mNr.uf (by omega) (mNr.uf (by omega) (mNr.uf (by omega) mNr.rf))) ⟨a5, hla5, rfl⟩ rfl
          · intro w5 a5 yw5 hla5
            show mWP mTb_ mFT ro (d + 3, 155, 44, [some (.ref 34), some (.ref 43), some (.int 8), some (.int (nI c))], [.int 1], 0, 0, (mSH, (mUp (mUp (mUp I 34 12 (nI a1)) 34 13 w5) 34 12 (nI a5)), L)) _
            refine mBF (s3 := (d + 3, 155, 49, [some (.ref 34), some (.ref 43), some (.int 8), some (.int (nI c))], [], 0, 0, (mSH, (mUp (mUp (mUp I 34 12 (nI a1)) 34 13 w5) 34 12 (nI a5)), L))) rfl (by decide) ?_
            refine mB 4 (s2 := (d + 3, 155, 55, [some (.ref 34), some (.ref 43), some (.int 8), some (.int (nI c))], [.int w5, .int (nI c), .ref 43], 0, 0, (mSH, (mUp (mUp (mUp I 34 12 (nI a1)) 34 13 w5) 34 12 (nI a5)), L))) rfl ?_
            refine mRq (s2 := (d + 3, 155, 56, [some (.ref 34), some (.ref 43), some (.int 8), some (.int (nI c))], [], 0, 0, (mSH, (mUp (mUp (mUp (mUp I 34 12 (nI a1)) 34 13 w5) 34 12 (nI a5)) 43 ((nI c).toNatClampNeg) w5), L))) rfl (mVp_of (vp_in_nI (mLtn (k := c) (N := 8) rfl hc (by omega) (of_decide_eq_false c3)) (by omega))) ?_
            refine mB 2 (s2 := (d + 3, 155, 2, [some (.ref 34), some (.ref 43), some (.int 8), some (.int ((nI c) + 1))], [], 0, 0, (mSH, (mUp (mUp (mUp (mUp I 34 12 (nI a1)) 34 13 w5) 34 12 (nI a5)) 43 ((nI c).toNatClampNeg) w5), L))) rfl ?_
            exact ih (mLtn (k := c) (N := 8) rfl hc (by omega) (of_decide_eq_false c3)) _ _ (mNr.uq (by omega) (mNr.uf (by omega) (mNr.uf (by omega) (mNr.uf (by omega) mNr.rf)))) ⟨a5, hla5, rfl⟩ yw5 (by rw [nI_clamp (by omega)]; rfl)
theorem w_ns_43 {ro : Nat → Nat × (Nat → Int32)} {Q : mPo} {d : Nat} {I : Nat → Nat → Int32} {L : Nat → Nat → Int64} {s n t : Nat} {B : Nat} (hB : 120 ≤ B) (hB2 : B ≤ 1000) {a : Nat} (hm : mM s n t I) (hat : I 34 12 = nI a) (ha : a ≤ B) (q0 : ∀ I1 a', mNr 43 I I1 → a' ≤ B → I1 34 12 = nI a' → Q (some (.int (-1))) (mSH, I1, L)) (q1 : ∀ I1 a' c, mNr 43 I I1 → a' ≤ B → I1 34 12 = nI a' → c ≤ 8 → (∀ j, j < c → mYR (I1 43 j)) → Q (some (.int (nI c))) (mSH, I1, L)) : mWP mTb_ mFT ro (d + 3, 155, 0, [some (.ref 34), some (.ref 43), some (.int 8), none], [], 0, 0, (mSH, I, L)) Q := by
  have go : ∀ (m c : Nat), c + m = 8 → ∀ J a, mNr 43 I J → J 34 12 = nI a → a ≤ B → (∀ j, j < c → mYR (J 43 j)) → mWP mTb_ mFT ro (d + 3, 155, 2, [some (.ref 34), some (.ref 43), some (.int 8), some (.int (nI c))], [], 0, 0, (mSH, J, L)) Q := by
    intro m
    induction m with
    | zero =>
      intro c hc J a gJ hat ha hy
      exact s_ns_43 hB hB2 (gJ.m (by omega) hm) hat ha (by omega) (fun I1 g1 ⟨a', l1, e1⟩ e2 => q0 I1 a' (gJ.tr g1) l1 e1) (fun I1 g1 ⟨a', l1, e1⟩ e2 => q1 I1 a' c (gJ.tr g1) l1 e1 (by omega) (by rw [e2]; exact hy)) (fun z => by omega)
    | succ m ih =>
      intro c hc J a gJ hat ha hy
      refine s_ns_43 hB hB2 (gJ.m (by omega) hm) hat ha (by omega) (fun I1 g1 ⟨a', l1, e1⟩ e2 => q0 I1 a' (gJ.tr g1) l1 e1) (fun I1 g1 ⟨a', l1, e1⟩ e2 => q1 I1 a' c (gJ.tr g1) l1 e1 (by omega) (by rw [e2]; exact hy)) (fun z I1 v g1 ⟨a', l1, e1⟩ hv e2 => ?_)
      rw [nI_1]
      refine ih (c + 1) (by omega) I1 a' (gJ.tr g1) e1 l1 (fun j hj => ?_)
      rw [e2]
      rcases Nat.lt_or_ge j c with z | z
      · rw [mUp_oth (by omega)]
        exact hy j z
      · have e : j = c := by omega
        rw [e, mUp_same]
        exact hv
  exact mB 2 (s2 := (d + 3, 155, 2, [some (.ref 34), some (.ref 43), some (.int 8), some (.int (nI 0))], [], 0, 0, (mSH, I, L))) rfl (go 8 0 rfl I a mNr.rf hat ha (fun j hj => absurd hj (Nat.not_lt_zero j)))
