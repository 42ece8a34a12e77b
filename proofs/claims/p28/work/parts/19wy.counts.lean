/-! Every call of the class with its counts. Written by a program (wip/mk_c.py). -/
/-- how the class's counts of refusals go up -/
def kC (c : Nat) (I I1 : Nat → Nat → Int32) : Prop := I1 0 9 = I 0 9 + (if c = 1 then 1 else 0) ∧ I1 0 10 = I 0 10 + (if c = 2 then 1 else 0) ∧ I1 0 11 = I 0 11 + (if c = 3 then 1 else 0)
def kM (c : Nat) (I I1 : Nat → Nat → Int32) : Prop := I1 39 0 = I 39 0 + (if c = 1 then 1 else 0) ∧ I1 39 1 = I 39 1 + (if c = 2 then 1 else 0) ∧ I1 39 2 = I 39 2 + (if c = 3 then 1 else 0)
def cdN (k l : Prop) [Decidable k] [Decidable l] : Nat := if k then (if l then 0 else 2) else 1
def cdF (k l : Prop) [Decidable k] [Decidable l] : Nat := if k then (if l then 0 else 3) else 1
section KC
variable {k l : Prop} {I X : Nat → Nat → Int32}
theorem cdN_1 [Decidable k] [Decidable l] (h : ¬ k) : cdN k l = 1 := if_neg h
theorem cdN_2 [Decidable k] [Decidable l] (h : k) (g : ¬ l) : cdN k l = 2 := (if_pos h).trans (if_neg g)
theorem cdN_0 [Decidable k] [Decidable l] (h : k) (g : l) : cdN k l = 0 := (if_pos h).trans (if_pos g)
theorem cdF_1 [Decidable k] [Decidable l] (h : ¬ k) : cdF k l = 1 := if_neg h
theorem cdF_3 [Decidable k] [Decidable l] (h : k) (g : ¬ l) : cdF k l = 3 := (if_pos h).trans (if_neg g)
theorem cdF_0 [Decidable k] [Decidable l] (h : k) (g : l) : cdF k l = 0 := (if_pos h).trans (if_pos g)
theorem kC0 (e : X 0 = I 0) : kC 0 I X := by
  unfold kC
  rw [e]
  exact ⟨(Int32.add_zero _).symm, (Int32.add_zero _).symm, (Int32.add_zero _).symm⟩
theorem kC1 (e : X 0 = I 0) : kC 1 I (mUp X 0 9 (X 0 9 + 1)) := by
  refine ⟨?_, ?_, ?_⟩
  · rw [mUp_same, e]; rfl
  · rw [mUp_oth (by omega), e]; exact (Int32.add_zero _).symm
  · rw [mUp_oth (by omega), e]; exact (Int32.add_zero _).symm
theorem kC2 (e : X 0 = I 0) : kC 2 I (mUp X 0 10 (X 0 10 + 1)) := by
  refine ⟨?_, ?_, ?_⟩
  · rw [mUp_oth (by omega), e]; exact (Int32.add_zero _).symm
  · rw [mUp_same, e]; rfl
  · rw [mUp_oth (by omega), e]; exact (Int32.add_zero _).symm
theorem kC3 (e : X 0 = I 0) : kC 3 I (mUp X 0 11 (X 0 11 + 1)) := by
  refine ⟨?_, ?_, ?_⟩
  · rw [mUp_oth (by omega), e]; exact (Int32.add_zero _).symm
  · rw [mUp_oth (by omega), e]; exact (Int32.add_zero _).symm
  · rw [mUp_same, e]; rfl
theorem kc_1 [Decidable k] [Decidable l] (h : ¬ k) (e : X 0 = I 0) : kC (cdN k l) I (mUp X 0 9 (X 0 9 + 1)) := by rw [cdN_1 h]; exact kC1 e
theorem kc_2 [Decidable k] [Decidable l] (h : k) (g : ¬ l) (e : X 0 = I 0) : kC (cdN k l) I (mUp X 0 10 (X 0 10 + 1)) := by rw [cdN_2 h g]; exact kC2 e
theorem kc_0 [Decidable k] [Decidable l] (h : k) (g : l) (e : X 0 = I 0) : kC (cdN k l) I X := by rw [cdN_0 h g]; exact kC0 e
theorem kf_1 [Decidable k] [Decidable l] (h : ¬ k) (e : X 0 = I 0) : kC (cdF k l) I (mUp X 0 9 (X 0 9 + 1)) := by rw [cdF_1 h]; exact kC1 e
theorem kf_3 [Decidable k] [Decidable l] (h : k) (g : ¬ l) (e : X 0 = I 0) : kC (cdF k l) I (mUp X 0 11 (X 0 11 + 1)) := by rw [cdF_3 h g]; exact kC3 e
theorem kf_0 [Decidable k] [Decidable l] (h : k) (g : l) (e : X 0 = I 0) : kC (cdF k l) I X := by rw [cdF_0 h g]; exact kC0 e
end KC
theorem z_span {ro : Nat → Nat × (Nat → Int32)} {Q : mPo} {d : Nat} {I : Nat → Nat → Int32} {L : Nat → Nat → Int64} {v0 : Int32} (hI : mIC I) (hq : ∀ r I1, mFr [0, 2, 3] I I1 → mIC I1 → r = kAdR (I 2 1) 16 v0 → I1 2 1 = kAdN (I 2 1) 16 v0 → I1 3 = kAdF (I 2 1) 16 v0 (I 3) → kC (cdF (kOk v0) ((I 2 1).toInt < 16)) I I1 → Q (some (.int r)) (mSH, I1, L))   : mWP mTb_ mFT ro (d + 7, 76, 0, [some (.ref 0), some (.int v0)], [], 0, 0, (mSH, I, L)) Q := by
  refine mB 5 (s2 := (d + 7, 76, 9, [some (.ref 0), some (.int v0)], [.int v0, .ref 2, .ref 0], 0, 0, (mSH, I, L))) rfl ?_
  refine mCall (s2 := (d + 6, 104, 0, [some (.ref 0), some (.ref 2), some (.int v0)], [], 0, 0, (mSH, I, L))) rfl ?_
  refine mB 1 (s2 := (d + 6, 104, 1, [some (.ref 0), some (.ref 2), some (.int v0)], [.int v0], 0, 0, (mSH, I, L))) rfl ?_
  refine mCall (s2 := (d + 5, 109, 0, [some (.int v0)], [], 0, 0, (mSH, I, L))) rfl ?_
  refine mB 2 (s2 := (d + 5, 109, 2, [some (.int v0)], [.int 1, .int v0], 0, 0, (mSH, I, L))) rfl ?_
  refine mBr (s2 := (d + 5, 109, 15, [some (.int v0)], [], 0, 0, (mSH, I, L))) (s3 := (d + 5, 109, 5, [some (.int v0)], [], 0, 0, (mSH, I, L))) rfl (fun c0 => ?_) (fun c0 => ?_)
  · refine mB 1 (s2 := (d + 5, 109, 16, [some (.int v0)], [.int 0], 0, 0, (mSH, I, L))) rfl ?_
    refine mRt (r := (some (.int 0))) (h := (mSH, I, L)) rfl rfl ?_
    show mWP mTb_ mFT ro (d + 6, 104, 4, [some (.ref 0), some (.ref 2), some (.int v0)], [.int 0], 0, 0, (mSH, I, L)) _
    refine mBT (s2 := (d + 6, 104, 7, [some (.ref 0), some (.ref 2), some (.int v0)], [], 0, 0, (mSH, I, L))) rfl (by decide) ?_
    refine mB 2 (s2 := (d + 6, 104, 10, [some (.ref 0), some (.ref 2), some (.int v0)], [.int (-2), .ref 0], 0, 0, (mSH, I, L))) rfl ?_
    refine mCall (s2 := (d + 5, 103, 0, [some (.ref 0), some (.int (-2))], [], 0, 0, (mSH, I, L))) rfl ?_
    refine mB 2 (s2 := (d + 5, 103, 3, [some (.ref 0), some (.int (-2))], [.int (-2), .int (-2)], 0, 0, (mSH, I, L))) rfl ?_
    refine mBT (s2 := (d + 5, 103, 6, [some (.ref 0), some (.int (-2))], [], 0, 0, (mSH, I, L))) rfl (by decide) ?_
    refine mB 8 (s2 := (d + 5, 103, 49, [some (.ref 0), some (.int (-2))], [.int (-2)], 0, 0, (mSH, (mUp I 0 9 ((I 0 9) + 1)), L))) rfl ?_
    refine mRt (r := (some (.int (-2)))) (h := (mSH, (mUp I 0 9 ((I 0 9) + 1)), L)) rfl (mRet_int rfl) ?_
    show mWP mTb_ mFT ro (d + 6, 104, 13, [some (.ref 0), some (.ref 2), some (.int v0)], [.int (-2)], 0, 0, (mSH, (mUp I 0 9 ((I 0 9) + 1)), L)) _
    refine mRt (r := (some (.int (-2)))) (h := (mSH, (mUp I 0 9 ((I 0 9) + 1)), L)) rfl (mRet_int rfl) ?_
    show mWP mTb_ mFT ro (d + 7, 76, 12, [some (.ref 0), some (.int v0)], [.int (-2)], 0, 0, (mSH, (mUp I 0 9 ((I 0 9) + 1)), L)) _
    refine mRt (r := (some (.int (-2)))) (h := (mSH, (mUp I 0 9 ((I 0 9) + 1)), L)) rfl (mRet_int rfl) ?_
    exact hq _ _ (mFr.up (by rfl) mFr.rf) ⟨hI.1, hI.2.1, hI.2.2.1, hI.2.2.2.1, hI.2.2.2.2.1, hI.2.2.2.2.2.1, (mRk.up hI.2.2.2.2.2.2 (by rfl) (by rfl))⟩ (kAd0 (n := I 2 1) (N := 16) (v := v0) (f := I 3) (by have a0 := of_decide_eq_true c0; simp only [Int32.lt_iff_toInt_lt, Int32.le_iff_toInt_le, ← Int32.toInt_inj, mLi0, mLi1, mLi2, mLi3, mLi4, mLi5, mLi6, mLi7, mLi8, mLi9, mLi10, mLi16, mLi32, mLi48, mLi57, mLi59, mLi65, mLi90, mLi97, mLi99, mLi120, mLi122, mLi127, mLi1584, mLi999999, mLim] at a0 <;> omega)).1 (kAd0 (n := I 2 1) (N := 16) (v := v0) (f := I 3) (by have a0 := of_decide_eq_true c0; simp only [Int32.lt_iff_toInt_lt, Int32.le_iff_toInt_le, ← Int32.toInt_inj, mLi0, mLi1, mLi2, mLi3, mLi4, mLi5, mLi6, mLi7, mLi8, mLi9, mLi10, mLi16, mLi32, mLi48, mLi57, mLi59, mLi65, mLi90, mLi97, mLi99, mLi120, mLi122, mLi127, mLi1584, mLi999999, mLim] at a0 <;> omega)).2.1 (kAd0 (n := I 2 1) (N := 16) (v := v0) (f := I 3) (by have a0 := of_decide_eq_true c0; simp only [Int32.lt_iff_toInt_lt, Int32.le_iff_toInt_le, ← Int32.toInt_inj, mLi0, mLi1, mLi2, mLi3, mLi4, mLi5, mLi6, mLi7, mLi8, mLi9, mLi10, mLi16, mLi32, mLi48, mLi57, mLi59, mLi65, mLi90, mLi97, mLi99, mLi120, mLi122, mLi127, mLi1584, mLi999999, mLim] at a0 <;> omega)).2.2 (kf_1 (by have a0 := of_decide_eq_true c0; simp only [Int32.lt_iff_toInt_lt, Int32.le_iff_toInt_le, ← Int32.toInt_inj, mLi0, mLi1, mLi2, mLi3, mLi4, mLi5, mLi6, mLi7, mLi8, mLi9, mLi10, mLi16, mLi32, mLi48, mLi57, mLi59, mLi65, mLi90, mLi97, mLi99, mLi120, mLi122, mLi127, mLi1584, mLi999999, mLim] at a0 <;> omega) (by rfl))
  · refine mB 2 (s2 := (d + 5, 109, 8, [some (.int v0)], [.int 99, .int v0], 0, 0, (mSH, I, L))) rfl ?_
    refine mBr (s2 := (d + 5, 109, 15, [some (.int v0)], [], 0, 0, (mSH, I, L))) (s3 := (d + 5, 109, 11, [some (.int v0)], [], 0, 0, (mSH, I, L))) rfl (fun c1 => ?_) (fun c1 => ?_)
    · refine mB 1 (s2 := (d + 5, 109, 16, [some (.int v0)], [.int 0], 0, 0, (mSH, I, L))) rfl ?_
      refine mRt (r := (some (.int 0))) (h := (mSH, I, L)) rfl rfl ?_
      show mWP mTb_ mFT ro (d + 6, 104, 4, [some (.ref 0), some (.ref 2), some (.int v0)], [.int 0], 0, 0, (mSH, I, L)) _
      refine mBT (s2 := (d + 6, 104, 7, [some (.ref 0), some (.ref 2), some (.int v0)], [], 0, 0, (mSH, I, L))) rfl (by decide) ?_
      refine mB 2 (s2 := (d + 6, 104, 10, [some (.ref 0), some (.ref 2), some (.int v0)], [.int (-2), .ref 0], 0, 0, (mSH, I, L))) rfl ?_
      refine mCall (s2 := (d + 5, 103, 0, [some (.ref 0), some (.int (-2))], [], 0, 0, (mSH, I, L))) rfl ?_
      refine mB 2 (s2 := (d + 5, 103, 3, [some (.ref 0), some (.int (-2))], [.int (-2), .int (-2)], 0, 0, (mSH, I, L))) rfl ?_
      refine mBT (s2 := (d + 5, 103, 6, [some (.ref 0), some (.int (-2))], [], 0, 0, (mSH, I, L))) rfl (by decide) ?_
      refine mB 8 (s2 := (d + 5, 103, 49, [some (.ref 0), some (.int (-2))], [.int (-2)], 0, 0, (mSH, (mUp I 0 9 ((I 0 9) + 1)), L))) rfl ?_
      refine mRt (r := (some (.int (-2)))) (h := (mSH, (mUp I 0 9 ((I 0 9) + 1)), L)) rfl (mRet_int rfl) ?_
      show mWP mTb_ mFT ro (d + 6, 104, 13, [some (.ref 0), some (.ref 2), some (.int v0)], [.int (-2)], 0, 0, (mSH, (mUp I 0 9 ((I 0 9) + 1)), L)) _
      refine mRt (r := (some (.int (-2)))) (h := (mSH, (mUp I 0 9 ((I 0 9) + 1)), L)) rfl (mRet_int rfl) ?_
      show mWP mTb_ mFT ro (d + 7, 76, 12, [some (.ref 0), some (.int v0)], [.int (-2)], 0, 0, (mSH, (mUp I 0 9 ((I 0 9) + 1)), L)) _
      refine mRt (r := (some (.int (-2)))) (h := (mSH, (mUp I 0 9 ((I 0 9) + 1)), L)) rfl (mRet_int rfl) ?_
      exact hq _ _ (mFr.up (by rfl) mFr.rf) ⟨hI.1, hI.2.1, hI.2.2.1, hI.2.2.2.1, hI.2.2.2.2.1, hI.2.2.2.2.2.1, (mRk.up hI.2.2.2.2.2.2 (by rfl) (by rfl))⟩ (kAd0 (n := I 2 1) (N := 16) (v := v0) (f := I 3) (by have a0 := of_decide_eq_false c0; have a1 := of_decide_eq_true c1; simp only [Int32.lt_iff_toInt_lt, Int32.le_iff_toInt_le, ← Int32.toInt_inj, mLi0, mLi1, mLi2, mLi3, mLi4, mLi5, mLi6, mLi7, mLi8, mLi9, mLi10, mLi16, mLi32, mLi48, mLi57, mLi59, mLi65, mLi90, mLi97, mLi99, mLi120, mLi122, mLi127, mLi1584, mLi999999, mLim] at a0 a1 <;> omega)).1 (kAd0 (n := I 2 1) (N := 16) (v := v0) (f := I 3) (by have a0 := of_decide_eq_false c0; have a1 := of_decide_eq_true c1; simp only [Int32.lt_iff_toInt_lt, Int32.le_iff_toInt_le, ← Int32.toInt_inj, mLi0, mLi1, mLi2, mLi3, mLi4, mLi5, mLi6, mLi7, mLi8, mLi9, mLi10, mLi16, mLi32, mLi48, mLi57, mLi59, mLi65, mLi90, mLi97, mLi99, mLi120, mLi122, mLi127, mLi1584, mLi999999, mLim] at a0 a1 <;> omega)).2.1 (kAd0 (n := I 2 1) (N := 16) (v := v0) (f := I 3) (by have a0 := of_decide_eq_false c0; have a1 := of_decide_eq_true c1; simp only [Int32.lt_iff_toInt_lt, Int32.le_iff_toInt_le, ← Int32.toInt_inj, mLi0, mLi1, mLi2, mLi3, mLi4, mLi5, mLi6, mLi7, mLi8, mLi9, mLi10, mLi16, mLi32, mLi48, mLi57, mLi59, mLi65, mLi90, mLi97, mLi99, mLi120, mLi122, mLi127, mLi1584, mLi999999, mLim] at a0 a1 <;> omega)).2.2 (kf_1 (by have a0 := of_decide_eq_false c0; have a1 := of_decide_eq_true c1; simp only [Int32.lt_iff_toInt_lt, Int32.le_iff_toInt_le, ← Int32.toInt_inj, mLi0, mLi1, mLi2, mLi3, mLi4, mLi5, mLi6, mLi7, mLi8, mLi9, mLi10, mLi16, mLi32, mLi48, mLi57, mLi59, mLi65, mLi90, mLi97, mLi99, mLi120, mLi122, mLi127, mLi1584, mLi999999, mLim] at a0 a1 <;> omega) (by rfl))
    · refine mB 2 (s2 := (d + 5, 109, 16, [some (.int v0)], [.int 1], 0, 0, (mSH, I, L))) rfl ?_
      refine mRt (r := (some (.int 1))) (h := (mSH, I, L)) rfl rfl ?_
      show mWP mTb_ mFT ro (d + 6, 104, 4, [some (.ref 0), some (.ref 2), some (.int v0)], [.int 1], 0, 0, (mSH, I, L)) _
      refine mBF (s3 := (d + 6, 104, 14, [some (.ref 0), some (.ref 2), some (.int v0)], [], 0, 0, (mSH, I, L))) rfl (by decide) ?_
      refine mB 1 (s2 := (d + 6, 104, 15, [some (.ref 0), some (.ref 2), some (.int v0)], [.ref 2], 0, 0, (mSH, I, L))) rfl ?_
      refine mCall (s2 := (d + 5, 40, 0, [some (.ref 2)], [], 0, 0, (mSH, I, L))) rfl ?_
      refine mB 5 (s2 := (d + 5, 40, 9, [some (.ref 2)], [.int 16, .int (I 2 1)], 0, 0, (mSH, I, L))) rfl ?_
      refine mBr (s2 := (d + 5, 40, 16, [some (.ref 2)], [], 0, 0, (mSH, I, L))) (s3 := (d + 5, 40, 12, [some (.ref 2)], [], 0, 0, (mSH, I, L))) rfl (fun c2 => ?_) (fun c2 => ?_)
      · refine mB 1 (s2 := (d + 5, 40, 17, [some (.ref 2)], [.int 0], 0, 0, (mSH, I, L))) rfl ?_
        refine mRt (r := (some (.int 0))) (h := (mSH, I, L)) rfl rfl ?_
        show mWP mTb_ mFT ro (d + 6, 104, 18, [some (.ref 0), some (.ref 2), some (.int v0)], [.int 0], 0, 0, (mSH, I, L)) _
        refine mBT (s2 := (d + 6, 104, 28, [some (.ref 0), some (.ref 2), some (.int v0)], [], 0, 0, (mSH, I, L))) rfl (by decide) ?_
        refine mB 2 (s2 := (d + 6, 104, 30, [some (.ref 0), some (.ref 2), some (.int v0)], [.int v0, .ref 2], 0, 0, (mSH, I, L))) rfl ?_
        refine mCall (s2 := (d + 5, 44, 0, [some (.ref 2), some (.int v0)], [], 0, 0, (mSH, I, L))) rfl ?_
        refine mB 1 (s2 := (d + 5, 44, 1, [some (.ref 2), some (.int v0)], [.ref 2], 0, 0, (mSH, I, L))) rfl ?_
        refine mCall (s2 := (d + 4, 40, 0, [some (.ref 2)], [], 0, 0, (mSH, I, L))) rfl ?_
        refine mB 5 (s2 := (d + 4, 40, 9, [some (.ref 2)], [.int 16, .int (I 2 1)], 0, 0, (mSH, I, L))) rfl ?_
        refine mBT (c := decide ((I 2 1) < 16)) (s2 := (d + 4, 40, 16, [some (.ref 2)], [], 0, 0, (mSH, I, L))) rfl (decide_eq_true (by have a0 := of_decide_eq_false c0; have a1 := of_decide_eq_false c1; have a2 := of_decide_eq_true c2; simp only [Int32.lt_iff_toInt_lt, Int32.le_iff_toInt_le, ← Int32.toInt_inj, mLi0, mLi1, mLi2, mLi3, mLi4, mLi5, mLi6, mLi7, mLi8, mLi9, mLi10, mLi16, mLi32, mLi48, mLi57, mLi59, mLi65, mLi90, mLi97, mLi99, mLi120, mLi122, mLi127, mLi1584, mLi999999, mLim] at a0 a1 a2 ⊢; omega)) ?_
        refine mB 1 (s2 := (d + 4, 40, 17, [some (.ref 2)], [.int 0], 0, 0, (mSH, I, L))) rfl ?_
        refine mRt (r := (some (.int 0))) (h := (mSH, I, L)) rfl rfl ?_
        show mWP mTb_ mFT ro (d + 5, 44, 4, [some (.ref 2), some (.int v0)], [.int 0], 0, 0, (mSH, I, L)) _
        refine mBT (s2 := (d + 5, 44, 7, [some (.ref 2), some (.int v0)], [], 0, 0, (mSH, I, L))) rfl (by decide) ?_
        refine mB 5 (s2 := (d + 5, 44, 16, [some (.ref 2), some (.int v0)], [.int v0, .int (I 2 1), .ref 3], 0, 0, (mSH, I, L))) rfl ?_
        refine mRq (s2 := (d + 5, 44, 17, [some (.ref 2), some (.int v0)], [], 0, 0, (mSH, (mUp I 3 ((I 2 1).toNatClampNeg) v0), L))) rfl (mVp_of (mVpC (m := 16) hI.1 ((by rw [Int32.lt_iff_toInt_lt, mLi16]; exact (by have a0 := of_decide_eq_true c2; simp only [Int32.lt_iff_toInt_lt, Int32.le_iff_toInt_le, ← Int32.toInt_inj, mLi0, mLi1, mLi2, mLi3, mLi4, mLi5, mLi6, mLi7, mLi8, mLi9, mLi10, mLi16, mLi32, mLi48, mLi57, mLi59, mLi65, mLi90, mLi97, mLi99, mLi120, mLi122, mLi127, mLi1584, mLi999999, mLim] at a0 <;> omega))) rfl)) ?_
        refine mB 6 (s2 := (d + 5, 44, 27, [some (.ref 2), some (.int v0)], [], 0, 0, (mSH, (mUp (mUp I 3 ((I 2 1).toNatClampNeg) v0) 2 1 ((I 2 1) + 1)), L))) rfl ?_
        refine mRt (r := none) (h := (mSH, (mUp (mUp I 3 ((I 2 1).toNatClampNeg) v0) 2 1 ((I 2 1) + 1)), L)) rfl rfl ?_
        show mWP mTb_ mFT ro (d + 6, 104, 33, [some (.ref 0), some (.ref 2), some (.int v0)], [], 0, 0, (mSH, (mUp (mUp I 3 ((I 2 1).toNatClampNeg) v0) 2 1 ((I 2 1) + 1)), L)) _
        refine mB 1 (s2 := (d + 6, 104, 34, [some (.ref 0), some (.ref 2), some (.int v0)], [.ref 2], 0, 0, (mSH, (mUp (mUp I 3 ((I 2 1).toNatClampNeg) v0) 2 1 ((I 2 1) + 1)), L))) rfl ?_
        refine mCall (s2 := (d + 5, 39, 0, [some (.ref 2)], [], 0, 0, (mSH, (mUp (mUp I 3 ((I 2 1).toNatClampNeg) v0) 2 1 ((I 2 1) + 1)), L))) rfl ?_
        refine mB 2 (s2 := (d + 5, 39, 4, [some (.ref 2)], [.int ((I 2 1) + 1)], 0, 0, (mSH, (mUp (mUp I 3 ((I 2 1).toNatClampNeg) v0) 2 1 ((I 2 1) + 1)), L))) rfl ?_
        refine mRt (r := (some (.int ((I 2 1) + 1)))) (h := (mSH, (mUp (mUp I 3 ((I 2 1).toNatClampNeg) v0) 2 1 ((I 2 1) + 1)), L)) rfl (mRet_int rfl) ?_
        show mWP mTb_ mFT ro (d + 6, 104, 37, [some (.ref 0), some (.ref 2), some (.int v0)], [.int ((I 2 1) + 1)], 0, 0, (mSH, (mUp (mUp I 3 ((I 2 1).toNatClampNeg) v0) 2 1 ((I 2 1) + 1)), L)) _
        refine mB 2 (s2 := (d + 6, 104, 39, [some (.ref 0), some (.ref 2), some (.int v0)], [.int (((I 2 1) + 1) - 1)], 0, 0, (mSH, (mUp (mUp I 3 ((I 2 1).toNatClampNeg) v0) 2 1 ((I 2 1) + 1)), L))) rfl ?_
        refine mRt (r := (some (.int (((I 2 1) + 1) - 1)))) (h := (mSH, (mUp (mUp I 3 ((I 2 1).toNatClampNeg) v0) 2 1 ((I 2 1) + 1)), L)) rfl (mRet_int rfl) ?_
        show mWP mTb_ mFT ro (d + 7, 76, 12, [some (.ref 0), some (.int v0)], [.int (((I 2 1) + 1) - 1)], 0, 0, (mSH, (mUp (mUp I 3 ((I 2 1).toNatClampNeg) v0) 2 1 ((I 2 1) + 1)), L)) _
        refine mRt (r := (some (.int (((I 2 1) + 1) - 1)))) (h := (mSH, (mUp (mUp I 3 ((I 2 1).toNatClampNeg) v0) 2 1 ((I 2 1) + 1)), L)) rfl (mRet_int rfl) ?_
        exact hq _ _ (mFr.up (by rfl) (mFr.up (by rfl) mFr.rf)) ⟨mCn_add hI.1 (m := 16) ((by rw [Int32.lt_iff_toInt_lt, mLi16]; exact (by have a0 := of_decide_eq_true c2; simp only [Int32.lt_iff_toInt_lt, Int32.le_iff_toInt_le, ← Int32.toInt_inj, mLi0, mLi1, mLi2, mLi3, mLi4, mLi5, mLi6, mLi7, mLi8, mLi9, mLi10, mLi16, mLi32, mLi48, mLi57, mLi59, mLi65, mLi90, mLi97, mLi99, mLi120, mLi122, mLi127, mLi1584, mLi999999, mLim] at a0 <;> omega))) rfl, hI.2.1, hI.2.2.1, hI.2.2.2.1, hI.2.2.2.2.1, hI.2.2.2.2.2.1, hI.2.2.2.2.2.2⟩ (kAd2 (n := I 2 1) (N := 16) (v := v0) (f := I 3) (by have a0 := of_decide_eq_false c0; have a1 := of_decide_eq_false c1; simp only [Int32.lt_iff_toInt_lt, Int32.le_iff_toInt_le, ← Int32.toInt_inj, mLi0, mLi1, mLi2, mLi3, mLi4, mLi5, mLi6, mLi7, mLi8, mLi9, mLi10, mLi16, mLi32, mLi48, mLi57, mLi59, mLi65, mLi90, mLi97, mLi99, mLi120, mLi122, mLi127, mLi1584, mLi999999, mLim] at a0 a1 <;> omega) (by have a0 := of_decide_eq_true c2; simp only [Int32.lt_iff_toInt_lt, Int32.le_iff_toInt_le, ← Int32.toInt_inj, mLi0, mLi1, mLi2, mLi3, mLi4, mLi5, mLi6, mLi7, mLi8, mLi9, mLi10, mLi16, mLi32, mLi48, mLi57, mLi59, mLi65, mLi90, mLi97, mLi99, mLi120, mLi122, mLi127, mLi1584, mLi999999, mLim] at a0 <;> omega)).1 (kAd2 (n := I 2 1) (N := 16) (v := v0) (f := I 3) (by have a0 := of_decide_eq_false c0; have a1 := of_decide_eq_false c1; simp only [Int32.lt_iff_toInt_lt, Int32.le_iff_toInt_le, ← Int32.toInt_inj, mLi0, mLi1, mLi2, mLi3, mLi4, mLi5, mLi6, mLi7, mLi8, mLi9, mLi10, mLi16, mLi32, mLi48, mLi57, mLi59, mLi65, mLi90, mLi97, mLi99, mLi120, mLi122, mLi127, mLi1584, mLi999999, mLim] at a0 a1 <;> omega) (by have a0 := of_decide_eq_true c2; simp only [Int32.lt_iff_toInt_lt, Int32.le_iff_toInt_le, ← Int32.toInt_inj, mLi0, mLi1, mLi2, mLi3, mLi4, mLi5, mLi6, mLi7, mLi8, mLi9, mLi10, mLi16, mLi32, mLi48, mLi57, mLi59, mLi65, mLi90, mLi97, mLi99, mLi120, mLi122, mLi127, mLi1584, mLi999999, mLim] at a0 <;> omega)).2.1 (kPut_e.trans (kAd2 (n := I 2 1) (N := 16) (v := v0) (f := I 3) (by have a0 := of_decide_eq_false c0; have a1 := of_decide_eq_false c1; simp only [Int32.lt_iff_toInt_lt, Int32.le_iff_toInt_le, ← Int32.toInt_inj, mLi0, mLi1, mLi2, mLi3, mLi4, mLi5, mLi6, mLi7, mLi8, mLi9, mLi10, mLi16, mLi32, mLi48, mLi57, mLi59, mLi65, mLi90, mLi97, mLi99, mLi120, mLi122, mLi127, mLi1584, mLi999999, mLim] at a0 a1 <;> omega) (by have a0 := of_decide_eq_true c2; simp only [Int32.lt_iff_toInt_lt, Int32.le_iff_toInt_le, ← Int32.toInt_inj, mLi0, mLi1, mLi2, mLi3, mLi4, mLi5, mLi6, mLi7, mLi8, mLi9, mLi10, mLi16, mLi32, mLi48, mLi57, mLi59, mLi65, mLi90, mLi97, mLi99, mLi120, mLi122, mLi127, mLi1584, mLi999999, mLim] at a0 <;> omega)).2.2) (kf_0 (by have a0 := of_decide_eq_false c0; have a1 := of_decide_eq_false c1; simp only [Int32.lt_iff_toInt_lt, Int32.le_iff_toInt_le, ← Int32.toInt_inj, mLi0, mLi1, mLi2, mLi3, mLi4, mLi5, mLi6, mLi7, mLi8, mLi9, mLi10, mLi16, mLi32, mLi48, mLi57, mLi59, mLi65, mLi90, mLi97, mLi99, mLi120, mLi122, mLi127, mLi1584, mLi999999, mLim] at a0 a1 <;> omega) (by have a0 := of_decide_eq_true c2; simp only [Int32.lt_iff_toInt_lt, Int32.le_iff_toInt_le, ← Int32.toInt_inj, mLi0, mLi1, mLi2, mLi3, mLi4, mLi5, mLi6, mLi7, mLi8, mLi9, mLi10, mLi16, mLi32, mLi48, mLi57, mLi59, mLi65, mLi90, mLi97, mLi99, mLi120, mLi122, mLi127, mLi1584, mLi999999, mLim] at a0 <;> omega) (by rfl))
      · refine mB 2 (s2 := (d + 5, 40, 17, [some (.ref 2)], [.int 1], 0, 0, (mSH, I, L))) rfl ?_
        refine mRt (r := (some (.int 1))) (h := (mSH, I, L)) rfl rfl ?_
        show mWP mTb_ mFT ro (d + 6, 104, 18, [some (.ref 0), some (.ref 2), some (.int v0)], [.int 1], 0, 0, (mSH, I, L)) _
        refine mBF (s3 := (d + 6, 104, 21, [some (.ref 0), some (.ref 2), some (.int v0)], [], 0, 0, (mSH, I, L))) rfl (by decide) ?_
        refine mB 2 (s2 := (d + 6, 104, 24, [some (.ref 0), some (.ref 2), some (.int v0)], [.int (-4), .ref 0], 0, 0, (mSH, I, L))) rfl ?_
        refine mCall (s2 := (d + 5, 103, 0, [some (.ref 0), some (.int (-4))], [], 0, 0, (mSH, I, L))) rfl ?_
        refine mB 2 (s2 := (d + 5, 103, 3, [some (.ref 0), some (.int (-4))], [.int (-2), .int (-4)], 0, 0, (mSH, I, L))) rfl ?_
        refine mBF (s3 := (d + 5, 103, 19, [some (.ref 0), some (.int (-4))], [], 0, 0, (mSH, I, L))) rfl (by decide) ?_
        refine mB 2 (s2 := (d + 5, 103, 22, [some (.ref 0), some (.int (-4))], [.int (-3), .int (-4)], 0, 0, (mSH, I, L))) rfl ?_
        refine mBF (s3 := (d + 5, 103, 38, [some (.ref 0), some (.int (-4))], [], 0, 0, (mSH, I, L))) rfl (by decide) ?_
        refine mB 7 (s2 := (d + 5, 103, 49, [some (.ref 0), some (.int (-4))], [.int (-4)], 0, 0, (mSH, (mUp I 0 11 ((I 0 11) + 1)), L))) rfl ?_
        refine mRt (r := (some (.int (-4)))) (h := (mSH, (mUp I 0 11 ((I 0 11) + 1)), L)) rfl (mRet_int rfl) ?_
        show mWP mTb_ mFT ro (d + 6, 104, 27, [some (.ref 0), some (.ref 2), some (.int v0)], [.int (-4)], 0, 0, (mSH, (mUp I 0 11 ((I 0 11) + 1)), L)) _
        refine mRt (r := (some (.int (-4)))) (h := (mSH, (mUp I 0 11 ((I 0 11) + 1)), L)) rfl (mRet_int rfl) ?_
        show mWP mTb_ mFT ro (d + 7, 76, 12, [some (.ref 0), some (.int v0)], [.int (-4)], 0, 0, (mSH, (mUp I 0 11 ((I 0 11) + 1)), L)) _
        refine mRt (r := (some (.int (-4)))) (h := (mSH, (mUp I 0 11 ((I 0 11) + 1)), L)) rfl (mRet_int rfl) ?_
        exact hq _ _ (mFr.up (by rfl) mFr.rf) ⟨hI.1, hI.2.1, hI.2.2.1, hI.2.2.2.1, hI.2.2.2.2.1, hI.2.2.2.2.2.1, (mRk.up hI.2.2.2.2.2.2 (by rfl) (by rfl))⟩ (kAd1 (n := I 2 1) (N := 16) (v := v0) (f := I 3) (by have a0 := of_decide_eq_false c0; have a1 := of_decide_eq_false c1; simp only [Int32.lt_iff_toInt_lt, Int32.le_iff_toInt_le, ← Int32.toInt_inj, mLi0, mLi1, mLi2, mLi3, mLi4, mLi5, mLi6, mLi7, mLi8, mLi9, mLi10, mLi16, mLi32, mLi48, mLi57, mLi59, mLi65, mLi90, mLi97, mLi99, mLi120, mLi122, mLi127, mLi1584, mLi999999, mLim] at a0 a1 <;> omega) (by have a0 := of_decide_eq_false c2; simp only [Int32.lt_iff_toInt_lt, Int32.le_iff_toInt_le, ← Int32.toInt_inj, mLi0, mLi1, mLi2, mLi3, mLi4, mLi5, mLi6, mLi7, mLi8, mLi9, mLi10, mLi16, mLi32, mLi48, mLi57, mLi59, mLi65, mLi90, mLi97, mLi99, mLi120, mLi122, mLi127, mLi1584, mLi999999, mLim] at a0 <;> omega)).1 (kAd1 (n := I 2 1) (N := 16) (v := v0) (f := I 3) (by have a0 := of_decide_eq_false c0; have a1 := of_decide_eq_false c1; simp only [Int32.lt_iff_toInt_lt, Int32.le_iff_toInt_le, ← Int32.toInt_inj, mLi0, mLi1, mLi2, mLi3, mLi4, mLi5, mLi6, mLi7, mLi8, mLi9, mLi10, mLi16, mLi32, mLi48, mLi57, mLi59, mLi65, mLi90, mLi97, mLi99, mLi120, mLi122, mLi127, mLi1584, mLi999999, mLim] at a0 a1 <;> omega) (by have a0 := of_decide_eq_false c2; simp only [Int32.lt_iff_toInt_lt, Int32.le_iff_toInt_le, ← Int32.toInt_inj, mLi0, mLi1, mLi2, mLi3, mLi4, mLi5, mLi6, mLi7, mLi8, mLi9, mLi10, mLi16, mLi32, mLi48, mLi57, mLi59, mLi65, mLi90, mLi97, mLi99, mLi120, mLi122, mLi127, mLi1584, mLi999999, mLim] at a0 <;> omega)).2.1 (kAd1 (n := I 2 1) (N := 16) (v := v0) (f := I 3) (by have a0 := of_decide_eq_false c0; have a1 := of_decide_eq_false c1; simp only [Int32.lt_iff_toInt_lt, Int32.le_iff_toInt_le, ← Int32.toInt_inj, mLi0, mLi1, mLi2, mLi3, mLi4, mLi5, mLi6, mLi7, mLi8, mLi9, mLi10, mLi16, mLi32, mLi48, mLi57, mLi59, mLi65, mLi90, mLi97, mLi99, mLi120, mLi122, mLi127, mLi1584, mLi999999, mLim] at a0 a1 <;> omega) (by have a0 := of_decide_eq_false c2; simp only [Int32.lt_iff_toInt_lt, Int32.le_iff_toInt_le, ← Int32.toInt_inj, mLi0, mLi1, mLi2, mLi3, mLi4, mLi5, mLi6, mLi7, mLi8, mLi9, mLi10, mLi16, mLi32, mLi48, mLi57, mLi59, mLi65, mLi90, mLi97, mLi99, mLi120, mLi122, mLi127, mLi1584, mLi999999, mLim] at a0 <;> omega)).2.2 (kf_3 (by have a0 := of_decide_eq_false c0; have a1 := of_decide_eq_false c1; simp only [Int32.lt_iff_toInt_lt, Int32.le_iff_toInt_le, ← Int32.toInt_inj, mLi0, mLi1, mLi2, mLi3, mLi4, mLi5, mLi6, mLi7, mLi8, mLi9, mLi10, mLi16, mLi32, mLi48, mLi57, mLi59, mLi65, mLi90, mLi97, mLi99, mLi120, mLi122, mLi127, mLi1584, mLi999999, mLim] at a0 a1 <;> omega) (by have a0 := of_decide_eq_false c2; simp only [Int32.lt_iff_toInt_lt, Int32.le_iff_toInt_le, ← Int32.toInt_inj, mLi0, mLi1, mLi2, mLi3, mLi4, mLi5, mLi6, mLi7, mLi8, mLi9, mLi10, mLi16, mLi32, mLi48, mLi57, mLi59, mLi65, mLi90, mLi97, mLi99, mLi120, mLi122, mLi127, mLi1584, mLi999999, mLim] at a0 <;> omega) (by rfl))
theorem z_layer {ro : Nat → Nat × (Nat → Int32)} {Q : mPo} {d : Nat} {I : Nat → Nat → Int32} {L : Nat → Nat → Int64} {v0 : Int32} (hI : mIC I) (hq : ∀ r I1, mFr [0, 4, 5] I I1 → mIC I1 → r = kAdR (I 4 1) 8 v0 → I1 4 1 = kAdN (I 4 1) 8 v0 → I1 5 = kAdF (I 4 1) 8 v0 (I 5) → kC (cdF (kOk v0) ((I 4 1).toInt < 8)) I I1 → Q (some (.int r)) (mSH, I1, L))   : mWP mTb_ mFT ro (d + 7, 77, 0, [some (.ref 0), some (.int v0)], [], 0, 0, (mSH, I, L)) Q := by
  refine mB 5 (s2 := (d + 7, 77, 9, [some (.ref 0), some (.int v0)], [.int v0, .ref 4, .ref 0], 0, 0, (mSH, I, L))) rfl ?_
  refine mCall (s2 := (d + 6, 104, 0, [some (.ref 0), some (.ref 4), some (.int v0)], [], 0, 0, (mSH, I, L))) rfl ?_
  refine mB 1 (s2 := (d + 6, 104, 1, [some (.ref 0), some (.ref 4), some (.int v0)], [.int v0], 0, 0, (mSH, I, L))) rfl ?_
  refine mCall (s2 := (d + 5, 109, 0, [some (.int v0)], [], 0, 0, (mSH, I, L))) rfl ?_
  refine mB 2 (s2 := (d + 5, 109, 2, [some (.int v0)], [.int 1, .int v0], 0, 0, (mSH, I, L))) rfl ?_
  refine mBr (s2 := (d + 5, 109, 15, [some (.int v0)], [], 0, 0, (mSH, I, L))) (s3 := (d + 5, 109, 5, [some (.int v0)], [], 0, 0, (mSH, I, L))) rfl (fun c0 => ?_) (fun c0 => ?_)
  · refine mB 1 (s2 := (d + 5, 109, 16, [some (.int v0)], [.int 0], 0, 0, (mSH, I, L))) rfl ?_
    refine mRt (r := (some (.int 0))) (h := (mSH, I, L)) rfl rfl ?_
    show mWP mTb_ mFT ro (d + 6, 104, 4, [some (.ref 0), some (.ref 4), some (.int v0)], [.int 0], 0, 0, (mSH, I, L)) _
    refine mBT (s2 := (d + 6, 104, 7, [some (.ref 0), some (.ref 4), some (.int v0)], [], 0, 0, (mSH, I, L))) rfl (by decide) ?_
    refine mB 2 (s2 := (d + 6, 104, 10, [some (.ref 0), some (.ref 4), some (.int v0)], [.int (-2), .ref 0], 0, 0, (mSH, I, L))) rfl ?_
    refine mCall (s2 := (d + 5, 103, 0, [some (.ref 0), some (.int (-2))], [], 0, 0, (mSH, I, L))) rfl ?_
    refine mB 2 (s2 := (d + 5, 103, 3, [some (.ref 0), some (.int (-2))], [.int (-2), .int (-2)], 0, 0, (mSH, I, L))) rfl ?_
    refine mBT (s2 := (d + 5, 103, 6, [some (.ref 0), some (.int (-2))], [], 0, 0, (mSH, I, L))) rfl (by decide) ?_
    refine mB 8 (s2 := (d + 5, 103, 49, [some (.ref 0), some (.int (-2))], [.int (-2)], 0, 0, (mSH, (mUp I 0 9 ((I 0 9) + 1)), L))) rfl ?_
    refine mRt (r := (some (.int (-2)))) (h := (mSH, (mUp I 0 9 ((I 0 9) + 1)), L)) rfl (mRet_int rfl) ?_
    show mWP mTb_ mFT ro (d + 6, 104, 13, [some (.ref 0), some (.ref 4), some (.int v0)], [.int (-2)], 0, 0, (mSH, (mUp I 0 9 ((I 0 9) + 1)), L)) _
    refine mRt (r := (some (.int (-2)))) (h := (mSH, (mUp I 0 9 ((I 0 9) + 1)), L)) rfl (mRet_int rfl) ?_
    show mWP mTb_ mFT ro (d + 7, 77, 12, [some (.ref 0), some (.int v0)], [.int (-2)], 0, 0, (mSH, (mUp I 0 9 ((I 0 9) + 1)), L)) _
    refine mRt (r := (some (.int (-2)))) (h := (mSH, (mUp I 0 9 ((I 0 9) + 1)), L)) rfl (mRet_int rfl) ?_
    exact hq _ _ (mFr.up (by rfl) mFr.rf) ⟨hI.1, hI.2.1, hI.2.2.1, hI.2.2.2.1, hI.2.2.2.2.1, hI.2.2.2.2.2.1, (mRk.up hI.2.2.2.2.2.2 (by rfl) (by rfl))⟩ (kAd0 (n := I 4 1) (N := 8) (v := v0) (f := I 5) (by have a0 := of_decide_eq_true c0; simp only [Int32.lt_iff_toInt_lt, Int32.le_iff_toInt_le, ← Int32.toInt_inj, mLi0, mLi1, mLi2, mLi3, mLi4, mLi5, mLi6, mLi7, mLi8, mLi9, mLi10, mLi16, mLi32, mLi48, mLi57, mLi59, mLi65, mLi90, mLi97, mLi99, mLi120, mLi122, mLi127, mLi1584, mLi999999, mLim] at a0 <;> omega)).1 (kAd0 (n := I 4 1) (N := 8) (v := v0) (f := I 5) (by have a0 := of_decide_eq_true c0; simp only [Int32.lt_iff_toInt_lt, Int32.le_iff_toInt_le, ← Int32.toInt_inj, mLi0, mLi1, mLi2, mLi3, mLi4, mLi5, mLi6, mLi7, mLi8, mLi9, mLi10, mLi16, mLi32, mLi48, mLi57, mLi59, mLi65, mLi90, mLi97, mLi99, mLi120, mLi122, mLi127, mLi1584, mLi999999, mLim] at a0 <;> omega)).2.1 (kAd0 (n := I 4 1) (N := 8) (v := v0) (f := I 5) (by have a0 := of_decide_eq_true c0; simp only [Int32.lt_iff_toInt_lt, Int32.le_iff_toInt_le, ← Int32.toInt_inj, mLi0, mLi1, mLi2, mLi3, mLi4, mLi5, mLi6, mLi7, mLi8, mLi9, mLi10, mLi16, mLi32, mLi48, mLi57, mLi59, mLi65, mLi90, mLi97, mLi99, mLi120, mLi122, mLi127, mLi1584, mLi999999, mLim] at a0 <;> omega)).2.2 (kf_1 (by have a0 := of_decide_eq_true c0; simp only [Int32.lt_iff_toInt_lt, Int32.le_iff_toInt_le, ← Int32.toInt_inj, mLi0, mLi1, mLi2, mLi3, mLi4, mLi5, mLi6, mLi7, mLi8, mLi9, mLi10, mLi16, mLi32, mLi48, mLi57, mLi59, mLi65, mLi90, mLi97, mLi99, mLi120, mLi122, mLi127, mLi1584, mLi999999, mLim] at a0 <;> omega) (by rfl))
  · refine mB 2 (s2 := (d + 5, 109, 8, [some (.int v0)], [.int 99, .int v0], 0, 0, (mSH, I, L))) rfl ?_
    refine mBr (s2 := (d + 5, 109, 15, [some (.int v0)], [], 0, 0, (mSH, I, L))) (s3 := (d + 5, 109, 11, [some (.int v0)], [], 0, 0, (mSH, I, L))) rfl (fun c1 => ?_) (fun c1 => ?_)
    · refine mB 1 (s2 := (d + 5, 109, 16, [some (.int v0)], [.int 0], 0, 0, (mSH, I, L))) rfl ?_
      refine mRt (r := (some (.int 0))) (h := (mSH, I, L)) rfl rfl ?_
      show mWP mTb_ mFT ro (d + 6, 104, 4, [some (.ref 0), some (.ref 4), some (.int v0)], [.int 0], 0, 0, (mSH, I, L)) _
      refine mBT (s2 := (d + 6, 104, 7, [some (.ref 0), some (.ref 4), some (.int v0)], [], 0, 0, (mSH, I, L))) rfl (by decide) ?_
      refine mB 2 (s2 := (d + 6, 104, 10, [some (.ref 0), some (.ref 4), some (.int v0)], [.int (-2), .ref 0], 0, 0, (mSH, I, L))) rfl ?_
      refine mCall (s2 := (d + 5, 103, 0, [some (.ref 0), some (.int (-2))], [], 0, 0, (mSH, I, L))) rfl ?_
      refine mB 2 (s2 := (d + 5, 103, 3, [some (.ref 0), some (.int (-2))], [.int (-2), .int (-2)], 0, 0, (mSH, I, L))) rfl ?_
      refine mBT (s2 := (d + 5, 103, 6, [some (.ref 0), some (.int (-2))], [], 0, 0, (mSH, I, L))) rfl (by decide) ?_
      refine mB 8 (s2 := (d + 5, 103, 49, [some (.ref 0), some (.int (-2))], [.int (-2)], 0, 0, (mSH, (mUp I 0 9 ((I 0 9) + 1)), L))) rfl ?_
      refine mRt (r := (some (.int (-2)))) (h := (mSH, (mUp I 0 9 ((I 0 9) + 1)), L)) rfl (mRet_int rfl) ?_
      show mWP mTb_ mFT ro (d + 6, 104, 13, [some (.ref 0), some (.ref 4), some (.int v0)], [.int (-2)], 0, 0, (mSH, (mUp I 0 9 ((I 0 9) + 1)), L)) _
      refine mRt (r := (some (.int (-2)))) (h := (mSH, (mUp I 0 9 ((I 0 9) + 1)), L)) rfl (mRet_int rfl) ?_
      show mWP mTb_ mFT ro (d + 7, 77, 12, [some (.ref 0), some (.int v0)], [.int (-2)], 0, 0, (mSH, (mUp I 0 9 ((I 0 9) + 1)), L)) _
      refine mRt (r := (some (.int (-2)))) (h := (mSH, (mUp I 0 9 ((I 0 9) + 1)), L)) rfl (mRet_int rfl) ?_
      exact hq _ _ (mFr.up (by rfl) mFr.rf) ⟨hI.1, hI.2.1, hI.2.2.1, hI.2.2.2.1, hI.2.2.2.2.1, hI.2.2.2.2.2.1, (mRk.up hI.2.2.2.2.2.2 (by rfl) (by rfl))⟩ (kAd0 (n := I 4 1) (N := 8) (v := v0) (f := I 5) (by have a0 := of_decide_eq_false c0; have a1 := of_decide_eq_true c1; simp only [Int32.lt_iff_toInt_lt, Int32.le_iff_toInt_le, ← Int32.toInt_inj, mLi0, mLi1, mLi2, mLi3, mLi4, mLi5, mLi6, mLi7, mLi8, mLi9, mLi10, mLi16, mLi32, mLi48, mLi57, mLi59, mLi65, mLi90, mLi97, mLi99, mLi120, mLi122, mLi127, mLi1584, mLi999999, mLim] at a0 a1 <;> omega)).1 (kAd0 (n := I 4 1) (N := 8) (v := v0) (f := I 5) (by have a0 := of_decide_eq_false c0; have a1 := of_decide_eq_true c1; simp only [Int32.lt_iff_toInt_lt, Int32.le_iff_toInt_le, ← Int32.toInt_inj, mLi0, mLi1, mLi2, mLi3, mLi4, mLi5, mLi6, mLi7, mLi8, mLi9, mLi10, mLi16, mLi32, mLi48, mLi57, mLi59, mLi65, mLi90, mLi97, mLi99, mLi120, mLi122, mLi127, mLi1584, mLi999999, mLim] at a0 a1 <;> omega)).2.1 (kAd0 (n := I 4 1) (N := 8) (v := v0) (f := I 5) (by have a0 := of_decide_eq_false c0; have a1 := of_decide_eq_true c1; simp only [Int32.lt_iff_toInt_lt, Int32.le_iff_toInt_le, ← Int32.toInt_inj, mLi0, mLi1, mLi2, mLi3, mLi4, mLi5, mLi6, mLi7, mLi8, mLi9, mLi10, mLi16, mLi32, mLi48, mLi57, mLi59, mLi65, mLi90, mLi97, mLi99, mLi120, mLi122, mLi127, mLi1584, mLi999999, mLim] at a0 a1 <;> omega)).2.2 (kf_1 (by have a0 := of_decide_eq_false c0; have a1 := of_decide_eq_true c1; simp only [Int32.lt_iff_toInt_lt, Int32.le_iff_toInt_le, ← Int32.toInt_inj, mLi0, mLi1, mLi2, mLi3, mLi4, mLi5, mLi6, mLi7, mLi8, mLi9, mLi10, mLi16, mLi32, mLi48, mLi57, mLi59, mLi65, mLi90, mLi97, mLi99, mLi120, mLi122, mLi127, mLi1584, mLi999999, mLim] at a0 a1 <;> omega) (by rfl))
    · refine mB 2 (s2 := (d + 5, 109, 16, [some (.int v0)], [.int 1], 0, 0, (mSH, I, L))) rfl ?_
      refine mRt (r := (some (.int 1))) (h := (mSH, I, L)) rfl rfl ?_
      show mWP mTb_ mFT ro (d + 6, 104, 4, [some (.ref 0), some (.ref 4), some (.int v0)], [.int 1], 0, 0, (mSH, I, L)) _
      refine mBF (s3 := (d + 6, 104, 14, [some (.ref 0), some (.ref 4), some (.int v0)], [], 0, 0, (mSH, I, L))) rfl (by decide) ?_
      refine mB 1 (s2 := (d + 6, 104, 15, [some (.ref 0), some (.ref 4), some (.int v0)], [.ref 4], 0, 0, (mSH, I, L))) rfl ?_
      refine mCall (s2 := (d + 5, 40, 0, [some (.ref 4)], [], 0, 0, (mSH, I, L))) rfl ?_
      refine mB 5 (s2 := (d + 5, 40, 9, [some (.ref 4)], [.int 8, .int (I 4 1)], 0, 0, (mSH, I, L))) rfl ?_
      refine mBr (s2 := (d + 5, 40, 16, [some (.ref 4)], [], 0, 0, (mSH, I, L))) (s3 := (d + 5, 40, 12, [some (.ref 4)], [], 0, 0, (mSH, I, L))) rfl (fun c2 => ?_) (fun c2 => ?_)
      · refine mB 1 (s2 := (d + 5, 40, 17, [some (.ref 4)], [.int 0], 0, 0, (mSH, I, L))) rfl ?_
        refine mRt (r := (some (.int 0))) (h := (mSH, I, L)) rfl rfl ?_
        show mWP mTb_ mFT ro (d + 6, 104, 18, [some (.ref 0), some (.ref 4), some (.int v0)], [.int 0], 0, 0, (mSH, I, L)) _
        refine mBT (s2 := (d + 6, 104, 28, [some (.ref 0), some (.ref 4), some (.int v0)], [], 0, 0, (mSH, I, L))) rfl (by decide) ?_
        refine mB 2 (s2 := (d + 6, 104, 30, [some (.ref 0), some (.ref 4), some (.int v0)], [.int v0, .ref 4], 0, 0, (mSH, I, L))) rfl ?_
        refine mCall (s2 := (d + 5, 44, 0, [some (.ref 4), some (.int v0)], [], 0, 0, (mSH, I, L))) rfl ?_
        refine mB 1 (s2 := (d + 5, 44, 1, [some (.ref 4), some (.int v0)], [.ref 4], 0, 0, (mSH, I, L))) rfl ?_
        refine mCall (s2 := (d + 4, 40, 0, [some (.ref 4)], [], 0, 0, (mSH, I, L))) rfl ?_
        refine mB 5 (s2 := (d + 4, 40, 9, [some (.ref 4)], [.int 8, .int (I 4 1)], 0, 0, (mSH, I, L))) rfl ?_
        refine mBT (c := decide ((I 4 1) < 8)) (s2 := (d + 4, 40, 16, [some (.ref 4)], [], 0, 0, (mSH, I, L))) rfl (decide_eq_true (by have a0 := of_decide_eq_false c0; have a1 := of_decide_eq_false c1; have a2 := of_decide_eq_true c2; simp only [Int32.lt_iff_toInt_lt, Int32.le_iff_toInt_le, ← Int32.toInt_inj, mLi0, mLi1, mLi2, mLi3, mLi4, mLi5, mLi6, mLi7, mLi8, mLi9, mLi10, mLi16, mLi32, mLi48, mLi57, mLi59, mLi65, mLi90, mLi97, mLi99, mLi120, mLi122, mLi127, mLi1584, mLi999999, mLim] at a0 a1 a2 ⊢; omega)) ?_
        refine mB 1 (s2 := (d + 4, 40, 17, [some (.ref 4)], [.int 0], 0, 0, (mSH, I, L))) rfl ?_
        refine mRt (r := (some (.int 0))) (h := (mSH, I, L)) rfl rfl ?_
        show mWP mTb_ mFT ro (d + 5, 44, 4, [some (.ref 4), some (.int v0)], [.int 0], 0, 0, (mSH, I, L)) _
        refine mBT (s2 := (d + 5, 44, 7, [some (.ref 4), some (.int v0)], [], 0, 0, (mSH, I, L))) rfl (by decide) ?_
        refine mB 5 (s2 := (d + 5, 44, 16, [some (.ref 4), some (.int v0)], [.int v0, .int (I 4 1), .ref 5], 0, 0, (mSH, I, L))) rfl ?_
        refine mRq (s2 := (d + 5, 44, 17, [some (.ref 4), some (.int v0)], [], 0, 0, (mSH, (mUp I 5 ((I 4 1).toNatClampNeg) v0), L))) rfl (mVp_of (mVpC (m := 8) hI.2.1 ((by rw [Int32.lt_iff_toInt_lt, mLi8]; exact (by have a0 := of_decide_eq_true c2; simp only [Int32.lt_iff_toInt_lt, Int32.le_iff_toInt_le, ← Int32.toInt_inj, mLi0, mLi1, mLi2, mLi3, mLi4, mLi5, mLi6, mLi7, mLi8, mLi9, mLi10, mLi16, mLi32, mLi48, mLi57, mLi59, mLi65, mLi90, mLi97, mLi99, mLi120, mLi122, mLi127, mLi1584, mLi999999, mLim] at a0 <;> omega))) rfl)) ?_
        refine mB 6 (s2 := (d + 5, 44, 27, [some (.ref 4), some (.int v0)], [], 0, 0, (mSH, (mUp (mUp I 5 ((I 4 1).toNatClampNeg) v0) 4 1 ((I 4 1) + 1)), L))) rfl ?_
        refine mRt (r := none) (h := (mSH, (mUp (mUp I 5 ((I 4 1).toNatClampNeg) v0) 4 1 ((I 4 1) + 1)), L)) rfl rfl ?_
        show mWP mTb_ mFT ro (d + 6, 104, 33, [some (.ref 0), some (.ref 4), some (.int v0)], [], 0, 0, (mSH, (mUp (mUp I 5 ((I 4 1).toNatClampNeg) v0) 4 1 ((I 4 1) + 1)), L)) _
        refine mB 1 (s2 := (d + 6, 104, 34, [some (.ref 0), some (.ref 4), some (.int v0)], [.ref 4], 0, 0, (mSH, (mUp (mUp I 5 ((I 4 1).toNatClampNeg) v0) 4 1 ((I 4 1) + 1)), L))) rfl ?_
        refine mCall (s2 := (d + 5, 39, 0, [some (.ref 4)], [], 0, 0, (mSH, (mUp (mUp I 5 ((I 4 1).toNatClampNeg) v0) 4 1 ((I 4 1) + 1)), L))) rfl ?_
        refine mB 2 (s2 := (d + 5, 39, 4, [some (.ref 4)], [.int ((I 4 1) + 1)], 0, 0, (mSH, (mUp (mUp I 5 ((I 4 1).toNatClampNeg) v0) 4 1 ((I 4 1) + 1)), L))) rfl ?_
        refine mRt (r := (some (.int ((I 4 1) + 1)))) (h := (mSH, (mUp (mUp I 5 ((I 4 1).toNatClampNeg) v0) 4 1 ((I 4 1) + 1)), L)) rfl (mRet_int rfl) ?_
        show mWP mTb_ mFT ro (d + 6, 104, 37, [some (.ref 0), some (.ref 4), some (.int v0)], [.int ((I 4 1) + 1)], 0, 0, (mSH, (mUp (mUp I 5 ((I 4 1).toNatClampNeg) v0) 4 1 ((I 4 1) + 1)), L)) _
        refine mB 2 (s2 := (d + 6, 104, 39, [some (.ref 0), some (.ref 4), some (.int v0)], [.int (((I 4 1) + 1) - 1)], 0, 0, (mSH, (mUp (mUp I 5 ((I 4 1).toNatClampNeg) v0) 4 1 ((I 4 1) + 1)), L))) rfl ?_
        refine mRt (r := (some (.int (((I 4 1) + 1) - 1)))) (h := (mSH, (mUp (mUp I 5 ((I 4 1).toNatClampNeg) v0) 4 1 ((I 4 1) + 1)), L)) rfl (mRet_int rfl) ?_
        show mWP mTb_ mFT ro (d + 7, 77, 12, [some (.ref 0), some (.int v0)], [.int (((I 4 1) + 1) - 1)], 0, 0, (mSH, (mUp (mUp I 5 ((I 4 1).toNatClampNeg) v0) 4 1 ((I 4 1) + 1)), L)) _
        refine mRt (r := (some (.int (((I 4 1) + 1) - 1)))) (h := (mSH, (mUp (mUp I 5 ((I 4 1).toNatClampNeg) v0) 4 1 ((I 4 1) + 1)), L)) rfl (mRet_int rfl) ?_
        exact hq _ _ (mFr.up (by rfl) (mFr.up (by rfl) mFr.rf)) ⟨hI.1, mCn_add hI.2.1 (m := 8) ((by rw [Int32.lt_iff_toInt_lt, mLi8]; exact (by have a0 := of_decide_eq_true c2; simp only [Int32.lt_iff_toInt_lt, Int32.le_iff_toInt_le, ← Int32.toInt_inj, mLi0, mLi1, mLi2, mLi3, mLi4, mLi5, mLi6, mLi7, mLi8, mLi9, mLi10, mLi16, mLi32, mLi48, mLi57, mLi59, mLi65, mLi90, mLi97, mLi99, mLi120, mLi122, mLi127, mLi1584, mLi999999, mLim] at a0 <;> omega))) rfl, hI.2.2.1, hI.2.2.2.1, hI.2.2.2.2.1, hI.2.2.2.2.2.1, hI.2.2.2.2.2.2⟩ (kAd2 (n := I 4 1) (N := 8) (v := v0) (f := I 5) (by have a0 := of_decide_eq_false c0; have a1 := of_decide_eq_false c1; simp only [Int32.lt_iff_toInt_lt, Int32.le_iff_toInt_le, ← Int32.toInt_inj, mLi0, mLi1, mLi2, mLi3, mLi4, mLi5, mLi6, mLi7, mLi8, mLi9, mLi10, mLi16, mLi32, mLi48, mLi57, mLi59, mLi65, mLi90, mLi97, mLi99, mLi120, mLi122, mLi127, mLi1584, mLi999999, mLim] at a0 a1 <;> omega) (by have a0 := of_decide_eq_true c2; simp only [Int32.lt_iff_toInt_lt, Int32.le_iff_toInt_le, ← Int32.toInt_inj, mLi0, mLi1, mLi2, mLi3, mLi4, mLi5, mLi6, mLi7, mLi8, mLi9, mLi10, mLi16, mLi32, mLi48, mLi57, mLi59, mLi65, mLi90, mLi97, mLi99, mLi120, mLi122, mLi127, mLi1584, mLi999999, mLim] at a0 <;> omega)).1 (kAd2 (n := I 4 1) (N := 8) (v := v0) (f := I 5) (by have a0 := of_decide_eq_false c0; have a1 := of_decide_eq_false c1; simp only [Int32.lt_iff_toInt_lt, Int32.le_iff_toInt_le, ← Int32.toInt_inj, mLi0, mLi1, mLi2, mLi3, mLi4, mLi5, mLi6, mLi7, mLi8, mLi9, mLi10, mLi16, mLi32, mLi48, mLi57, mLi59, mLi65, mLi90, mLi97, mLi99, mLi120, mLi122, mLi127, mLi1584, mLi999999, mLim] at a0 a1 <;> omega) (by have a0 := of_decide_eq_true c2; simp only [Int32.lt_iff_toInt_lt, Int32.le_iff_toInt_le, ← Int32.toInt_inj, mLi0, mLi1, mLi2, mLi3, mLi4, mLi5, mLi6, mLi7, mLi8, mLi9, mLi10, mLi16, mLi32, mLi48, mLi57, mLi59, mLi65, mLi90, mLi97, mLi99, mLi120, mLi122, mLi127, mLi1584, mLi999999, mLim] at a0 <;> omega)).2.1 (kPut_e.trans (kAd2 (n := I 4 1) (N := 8) (v := v0) (f := I 5) (by have a0 := of_decide_eq_false c0; have a1 := of_decide_eq_false c1; simp only [Int32.lt_iff_toInt_lt, Int32.le_iff_toInt_le, ← Int32.toInt_inj, mLi0, mLi1, mLi2, mLi3, mLi4, mLi5, mLi6, mLi7, mLi8, mLi9, mLi10, mLi16, mLi32, mLi48, mLi57, mLi59, mLi65, mLi90, mLi97, mLi99, mLi120, mLi122, mLi127, mLi1584, mLi999999, mLim] at a0 a1 <;> omega) (by have a0 := of_decide_eq_true c2; simp only [Int32.lt_iff_toInt_lt, Int32.le_iff_toInt_le, ← Int32.toInt_inj, mLi0, mLi1, mLi2, mLi3, mLi4, mLi5, mLi6, mLi7, mLi8, mLi9, mLi10, mLi16, mLi32, mLi48, mLi57, mLi59, mLi65, mLi90, mLi97, mLi99, mLi120, mLi122, mLi127, mLi1584, mLi999999, mLim] at a0 <;> omega)).2.2) (kf_0 (by have a0 := of_decide_eq_false c0; have a1 := of_decide_eq_false c1; simp only [Int32.lt_iff_toInt_lt, Int32.le_iff_toInt_le, ← Int32.toInt_inj, mLi0, mLi1, mLi2, mLi3, mLi4, mLi5, mLi6, mLi7, mLi8, mLi9, mLi10, mLi16, mLi32, mLi48, mLi57, mLi59, mLi65, mLi90, mLi97, mLi99, mLi120, mLi122, mLi127, mLi1584, mLi999999, mLim] at a0 a1 <;> omega) (by have a0 := of_decide_eq_true c2; simp only [Int32.lt_iff_toInt_lt, Int32.le_iff_toInt_le, ← Int32.toInt_inj, mLi0, mLi1, mLi2, mLi3, mLi4, mLi5, mLi6, mLi7, mLi8, mLi9, mLi10, mLi16, mLi32, mLi48, mLi57, mLi59, mLi65, mLi90, mLi97, mLi99, mLi120, mLi122, mLi127, mLi1584, mLi999999, mLim] at a0 <;> omega) (by rfl))
      · refine mB 2 (s2 := (d + 5, 40, 17, [some (.ref 4)], [.int 1], 0, 0, (mSH, I, L))) rfl ?_
        refine mRt (r := (some (.int 1))) (h := (mSH, I, L)) rfl rfl ?_
        show mWP mTb_ mFT ro (d + 6, 104, 18, [some (.ref 0), some (.ref 4), some (.int v0)], [.int 1], 0, 0, (mSH, I, L)) _
        refine mBF (s3 := (d + 6, 104, 21, [some (.ref 0), some (.ref 4), some (.int v0)], [], 0, 0, (mSH, I, L))) rfl (by decide) ?_
        refine mB 2 (s2 := (d + 6, 104, 24, [some (.ref 0), some (.ref 4), some (.int v0)], [.int (-4), .ref 0], 0, 0, (mSH, I, L))) rfl ?_
        refine mCall (s2 := (d + 5, 103, 0, [some (.ref 0), some (.int (-4))], [], 0, 0, (mSH, I, L))) rfl ?_
        refine mB 2 (s2 := (d + 5, 103, 3, [some (.ref 0), some (.int (-4))], [.int (-2), .int (-4)], 0, 0, (mSH, I, L))) rfl ?_
        refine mBF (s3 := (d + 5, 103, 19, [some (.ref 0), some (.int (-4))], [], 0, 0, (mSH, I, L))) rfl (by decide) ?_
        refine mB 2 (s2 := (d + 5, 103, 22, [some (.ref 0), some (.int (-4))], [.int (-3), .int (-4)], 0, 0, (mSH, I, L))) rfl ?_
        refine mBF (s3 := (d + 5, 103, 38, [some (.ref 0), some (.int (-4))], [], 0, 0, (mSH, I, L))) rfl (by decide) ?_
        refine mB 7 (s2 := (d + 5, 103, 49, [some (.ref 0), some (.int (-4))], [.int (-4)], 0, 0, (mSH, (mUp I 0 11 ((I 0 11) + 1)), L))) rfl ?_
        refine mRt (r := (some (.int (-4)))) (h := (mSH, (mUp I 0 11 ((I 0 11) + 1)), L)) rfl (mRet_int rfl) ?_
        show mWP mTb_ mFT ro (d + 6, 104, 27, [some (.ref 0), some (.ref 4), some (.int v0)], [.int (-4)], 0, 0, (mSH, (mUp I 0 11 ((I 0 11) + 1)), L)) _
        refine mRt (r := (some (.int (-4)))) (h := (mSH, (mUp I 0 11 ((I 0 11) + 1)), L)) rfl (mRet_int rfl) ?_
        show mWP mTb_ mFT ro (d + 7, 77, 12, [some (.ref 0), some (.int v0)], [.int (-4)], 0, 0, (mSH, (mUp I 0 11 ((I 0 11) + 1)), L)) _
        refine mRt (r := (some (.int (-4)))) (h := (mSH, (mUp I 0 11 ((I 0 11) + 1)), L)) rfl (mRet_int rfl) ?_
        exact hq _ _ (mFr.up (by rfl) mFr.rf) ⟨hI.1, hI.2.1, hI.2.2.1, hI.2.2.2.1, hI.2.2.2.2.1, hI.2.2.2.2.2.1, (mRk.up hI.2.2.2.2.2.2 (by rfl) (by rfl))⟩ (kAd1 (n := I 4 1) (N := 8) (v := v0) (f := I 5) (by have a0 := of_decide_eq_false c0; have a1 := of_decide_eq_false c1; simp only [Int32.lt_iff_toInt_lt, Int32.le_iff_toInt_le, ← Int32.toInt_inj, mLi0, mLi1, mLi2, mLi3, mLi4, mLi5, mLi6, mLi7, mLi8, mLi9, mLi10, mLi16, mLi32, mLi48, mLi57, mLi59, mLi65, mLi90, mLi97, mLi99, mLi120, mLi122, mLi127, mLi1584, mLi999999, mLim] at a0 a1 <;> omega) (by have a0 := of_decide_eq_false c2; simp only [Int32.lt_iff_toInt_lt, Int32.le_iff_toInt_le, ← Int32.toInt_inj, mLi0, mLi1, mLi2, mLi3, mLi4, mLi5, mLi6, mLi7, mLi8, mLi9, mLi10, mLi16, mLi32, mLi48, mLi57, mLi59, mLi65, mLi90, mLi97, mLi99, mLi120, mLi122, mLi127, mLi1584, mLi999999, mLim] at a0 <;> omega)).1 (kAd1 (n := I 4 1) (N := 8) (v := v0) (f := I 5) (by have a0 := of_decide_eq_false c0; have a1 := of_decide_eq_false c1; simp only [Int32.lt_iff_toInt_lt, Int32.le_iff_toInt_le, ← Int32.toInt_inj, mLi0, mLi1, mLi2, mLi3, mLi4, mLi5, mLi6, mLi7, mLi8, mLi9, mLi10, mLi16, mLi32, mLi48, mLi57, mLi59, mLi65, mLi90, mLi97, mLi99, mLi120, mLi122, mLi127, mLi1584, mLi999999, mLim] at a0 a1 <;> omega) (by have a0 := of_decide_eq_false c2; simp only [Int32.lt_iff_toInt_lt, Int32.le_iff_toInt_le, ← Int32.toInt_inj, mLi0, mLi1, mLi2, mLi3, mLi4, mLi5, mLi6, mLi7, mLi8, mLi9, mLi10, mLi16, mLi32, mLi48, mLi57, mLi59, mLi65, mLi90, mLi97, mLi99, mLi120, mLi122, mLi127, mLi1584, mLi999999, mLim] at a0 <;> omega)).2.1 (kAd1 (n := I 4 1) (N := 8) (v := v0) (f := I 5) (by have a0 := of_decide_eq_false c0; have a1 := of_decide_eq_false c1; simp only [Int32.lt_iff_toInt_lt, Int32.le_iff_toInt_le, ← Int32.toInt_inj, mLi0, mLi1, mLi2, mLi3, mLi4, mLi5, mLi6, mLi7, mLi8, mLi9, mLi10, mLi16, mLi32, mLi48, mLi57, mLi59, mLi65, mLi90, mLi97, mLi99, mLi120, mLi122, mLi127, mLi1584, mLi999999, mLim] at a0 a1 <;> omega) (by have a0 := of_decide_eq_false c2; simp only [Int32.lt_iff_toInt_lt, Int32.le_iff_toInt_le, ← Int32.toInt_inj, mLi0, mLi1, mLi2, mLi3, mLi4, mLi5, mLi6, mLi7, mLi8, mLi9, mLi10, mLi16, mLi32, mLi48, mLi57, mLi59, mLi65, mLi90, mLi97, mLi99, mLi120, mLi122, mLi127, mLi1584, mLi999999, mLim] at a0 <;> omega)).2.2 (kf_3 (by have a0 := of_decide_eq_false c0; have a1 := of_decide_eq_false c1; simp only [Int32.lt_iff_toInt_lt, Int32.le_iff_toInt_le, ← Int32.toInt_inj, mLi0, mLi1, mLi2, mLi3, mLi4, mLi5, mLi6, mLi7, mLi8, mLi9, mLi10, mLi16, mLi32, mLi48, mLi57, mLi59, mLi65, mLi90, mLi97, mLi99, mLi120, mLi122, mLi127, mLi1584, mLi999999, mLim] at a0 a1 <;> omega) (by have a0 := of_decide_eq_false c2; simp only [Int32.lt_iff_toInt_lt, Int32.le_iff_toInt_le, ← Int32.toInt_inj, mLi0, mLi1, mLi2, mLi3, mLi4, mLi5, mLi6, mLi7, mLi8, mLi9, mLi10, mLi16, mLi32, mLi48, mLi57, mLi59, mLi65, mLi90, mLi97, mLi99, mLi120, mLi122, mLi127, mLi1584, mLi999999, mLim] at a0 <;> omega) (by rfl))
theorem z_points {ro : Nat → Nat × (Nat → Int32)} {Q : mPo} {d : Nat} {I : Nat → Nat → Int32} {L : Nat → Nat → Int64} {v0 : Int32} (hI : mIC I) (hq : ∀ r I1, mFr [0, 1] I I1 → mIC I1 → r = kPoR (I 1 2) v0 → I1 1 2 = kPoN (I 1 2) v0 → kC (cdN (kEi v0) True) I I1 → Q (some (.int r)) (mSH, I1, L))   : mWP mTb_ mFT ro (d + 7, 78, 0, [some (.ref 0), some (.int v0), none], [], 0, 0, (mSH, I, L)) Q := by
  refine mB 1 (s2 := (d + 7, 78, 1, [some (.ref 0), some (.int v0), none], [.int v0], 0, 0, (mSH, I, L))) rfl ?_
  refine mCall (s2 := (d + 6, 108, 0, [some (.int v0)], [], 0, 0, (mSH, I, L))) rfl ?_
  refine mB 1 (s2 := (d + 6, 108, 1, [some (.int v0)], [.int v0], 0, 0, (mSH, I, L))) rfl ?_
  refine mBr (s2 := (d + 6, 108, 9, [some (.int v0)], [], 0, 0, (mSH, I, L))) (s3 := (d + 6, 108, 4, [some (.int v0)], [], 0, 0, (mSH, I, L))) rfl (fun c0 => ?_) (fun c0 => ?_)
  · refine mB 2 (s2 := (d + 6, 108, 14, [some (.int v0)], [.int 1], 0, 0, (mSH, I, L))) rfl ?_
    refine mRt (r := (some (.int 1))) (h := (mSH, I, L)) rfl rfl ?_
    show mWP mTb_ mFT ro (d + 7, 78, 4, [some (.ref 0), some (.int v0), none], [.int 1], 0, 0, (mSH, I, L)) _
    refine mBF (s3 := (d + 7, 78, 14, [some (.ref 0), some (.int v0), none], [], 0, 0, (mSH, I, L))) rfl (by decide) ?_
    refine mB 9 (s2 := (d + 7, 78, 31, [some (.ref 0), some (.int v0), some (.int (I 1 2))], [.int (I 1 2)], 0, 0, (mSH, (mUp I 1 2 v0), L))) rfl ?_
    refine mRt (r := (some (.int (I 1 2)))) (h := (mSH, (mUp I 1 2 v0), L)) rfl (mRet_int rfl) ?_
    exact hq _ _ (mFr.up (by rfl) mFr.rf) ⟨hI.1, hI.2.1, hI.2.2.1, hI.2.2.2.1, hI.2.2.2.2.1, hI.2.2.2.2.2.1, (mRk.up hI.2.2.2.2.2.2 (by rfl) (by rfl))⟩ (if_pos (by have b0 : (v0).toInt = 0 := (by have z := of_decide_eq_true c0; rw [z]; rfl); omega)).symm (if_pos (by have b0 : (v0).toInt = 0 := (by have z := of_decide_eq_true c0; rw [z]; rfl); omega)).symm (kc_0 (by have b0 : (v0).toInt = 0 := (by have z := of_decide_eq_true c0; rw [z]; rfl); omega) trivial (by rfl))
  · refine mB 2 (s2 := (d + 6, 108, 6, [some (.int v0)], [.int 1, .int v0], 0, 0, (mSH, I, L))) rfl ?_
    refine mBr (s2 := (d + 6, 108, 9, [some (.int v0)], [], 0, 0, (mSH, I, L))) (s3 := (d + 6, 108, 13, [some (.int v0)], [], 0, 0, (mSH, I, L))) rfl (fun c1 => ?_) (fun c1 => ?_)
    · refine mB 2 (s2 := (d + 6, 108, 14, [some (.int v0)], [.int 1], 0, 0, (mSH, I, L))) rfl ?_
      refine mRt (r := (some (.int 1))) (h := (mSH, I, L)) rfl rfl ?_
      show mWP mTb_ mFT ro (d + 7, 78, 4, [some (.ref 0), some (.int v0), none], [.int 1], 0, 0, (mSH, I, L)) _
      refine mBF (s3 := (d + 7, 78, 14, [some (.ref 0), some (.int v0), none], [], 0, 0, (mSH, I, L))) rfl (by decide) ?_
      refine mB 9 (s2 := (d + 7, 78, 31, [some (.ref 0), some (.int v0), some (.int (I 1 2))], [.int (I 1 2)], 0, 0, (mSH, (mUp I 1 2 v0), L))) rfl ?_
      refine mRt (r := (some (.int (I 1 2)))) (h := (mSH, (mUp I 1 2 v0), L)) rfl (mRet_int rfl) ?_
      exact hq _ _ (mFr.up (by rfl) mFr.rf) ⟨hI.1, hI.2.1, hI.2.2.1, hI.2.2.2.1, hI.2.2.2.2.1, hI.2.2.2.2.2.1, (mRk.up hI.2.2.2.2.2.2 (by rfl) (by rfl))⟩ (if_pos (by have b0 : (v0).toInt = 1 := (by have z := of_decide_eq_true c1; rw [z]; rfl); have a0 := of_decide_eq_false c0; simp only [Int32.lt_iff_toInt_lt, Int32.le_iff_toInt_le, ← Int32.toInt_inj, mLi0, mLi1, mLi2, mLi3, mLi4, mLi5, mLi6, mLi7, mLi8, mLi9, mLi10, mLi16, mLi32, mLi48, mLi57, mLi59, mLi65, mLi90, mLi97, mLi99, mLi120, mLi122, mLi127, mLi1584, mLi999999, mLim] at a0 <;> omega)).symm (if_pos (by have b0 : (v0).toInt = 1 := (by have z := of_decide_eq_true c1; rw [z]; rfl); have a0 := of_decide_eq_false c0; simp only [Int32.lt_iff_toInt_lt, Int32.le_iff_toInt_le, ← Int32.toInt_inj, mLi0, mLi1, mLi2, mLi3, mLi4, mLi5, mLi6, mLi7, mLi8, mLi9, mLi10, mLi16, mLi32, mLi48, mLi57, mLi59, mLi65, mLi90, mLi97, mLi99, mLi120, mLi122, mLi127, mLi1584, mLi999999, mLim] at a0 <;> omega)).symm (kc_0 (by have b0 : (v0).toInt = 1 := (by have z := of_decide_eq_true c1; rw [z]; rfl); have a0 := of_decide_eq_false c0; simp only [Int32.lt_iff_toInt_lt, Int32.le_iff_toInt_le, ← Int32.toInt_inj, mLi0, mLi1, mLi2, mLi3, mLi4, mLi5, mLi6, mLi7, mLi8, mLi9, mLi10, mLi16, mLi32, mLi48, mLi57, mLi59, mLi65, mLi90, mLi97, mLi99, mLi120, mLi122, mLi127, mLi1584, mLi999999, mLim] at a0 <;> omega) trivial (by rfl))
    · refine mB 1 (s2 := (d + 6, 108, 14, [some (.int v0)], [.int 0], 0, 0, (mSH, I, L))) rfl ?_
      refine mRt (r := (some (.int 0))) (h := (mSH, I, L)) rfl rfl ?_
      show mWP mTb_ mFT ro (d + 7, 78, 4, [some (.ref 0), some (.int v0), none], [.int 0], 0, 0, (mSH, I, L)) _
      refine mBT (s2 := (d + 7, 78, 7, [some (.ref 0), some (.int v0), none], [], 0, 0, (mSH, I, L))) rfl (by decide) ?_
      refine mB 2 (s2 := (d + 7, 78, 10, [some (.ref 0), some (.int v0), none], [.int (-2), .ref 0], 0, 0, (mSH, I, L))) rfl ?_
      refine mCall (s2 := (d + 6, 103, 0, [some (.ref 0), some (.int (-2))], [], 0, 0, (mSH, I, L))) rfl ?_
      refine mB 2 (s2 := (d + 6, 103, 3, [some (.ref 0), some (.int (-2))], [.int (-2), .int (-2)], 0, 0, (mSH, I, L))) rfl ?_
      refine mBT (s2 := (d + 6, 103, 6, [some (.ref 0), some (.int (-2))], [], 0, 0, (mSH, I, L))) rfl (by decide) ?_
      refine mB 8 (s2 := (d + 6, 103, 49, [some (.ref 0), some (.int (-2))], [.int (-2)], 0, 0, (mSH, (mUp I 0 9 ((I 0 9) + 1)), L))) rfl ?_
      refine mRt (r := (some (.int (-2)))) (h := (mSH, (mUp I 0 9 ((I 0 9) + 1)), L)) rfl (mRet_int rfl) ?_
      show mWP mTb_ mFT ro (d + 7, 78, 13, [some (.ref 0), some (.int v0), none], [.int (-2)], 0, 0, (mSH, (mUp I 0 9 ((I 0 9) + 1)), L)) _
      refine mRt (r := (some (.int (-2)))) (h := (mSH, (mUp I 0 9 ((I 0 9) + 1)), L)) rfl (mRet_int rfl) ?_
      exact hq _ _ (mFr.up (by rfl) mFr.rf) ⟨hI.1, hI.2.1, hI.2.2.1, hI.2.2.2.1, hI.2.2.2.2.1, hI.2.2.2.2.2.1, (mRk.up hI.2.2.2.2.2.2 (by rfl) (by rfl))⟩ (if_neg (by have a0 := of_decide_eq_false c0; have a1 := of_decide_eq_false c1; simp only [Int32.lt_iff_toInt_lt, Int32.le_iff_toInt_le, ← Int32.toInt_inj, mLi0, mLi1, mLi2, mLi3, mLi4, mLi5, mLi6, mLi7, mLi8, mLi9, mLi10, mLi16, mLi32, mLi48, mLi57, mLi59, mLi65, mLi90, mLi97, mLi99, mLi120, mLi122, mLi127, mLi1584, mLi999999, mLim] at a0 a1 <;> omega)).symm (if_neg (by have a0 := of_decide_eq_false c0; have a1 := of_decide_eq_false c1; simp only [Int32.lt_iff_toInt_lt, Int32.le_iff_toInt_le, ← Int32.toInt_inj, mLi0, mLi1, mLi2, mLi3, mLi4, mLi5, mLi6, mLi7, mLi8, mLi9, mLi10, mLi16, mLi32, mLi48, mLi57, mLi59, mLi65, mLi90, mLi97, mLi99, mLi120, mLi122, mLi127, mLi1584, mLi999999, mLim] at a0 a1 <;> omega)).symm (kc_1 (by have a0 := of_decide_eq_false c0; have a1 := of_decide_eq_false c1; simp only [Int32.lt_iff_toInt_lt, Int32.le_iff_toInt_le, ← Int32.toInt_inj, mLi0, mLi1, mLi2, mLi3, mLi4, mLi5, mLi6, mLi7, mLi8, mLi9, mLi10, mLi16, mLi32, mLi48, mLi57, mLi59, mLi65, mLi90, mLi97, mLi99, mLi120, mLi122, mLi127, mLi1584, mLi999999, mLim] at a0 a1 <;> omega) (by rfl))
theorem z_sets {ro : Nat → Nat × (Nat → Int32)} {Q : mPo} {d : Nat} {I : Nat → Nat → Int32} {L : Nat → Nat → Int64} {v0 v1 v2 : Int32} (hI : mIC I) (hq : ∀ r I1, mFr [0, 3, 5] I I1 → mIC I1 → r = kSeR (I 2 1) (I 4 1) (I 3) (I 5) v0 v1 v2 → I1 3 = kSeF 0 (I 2 1) (I 3) v0 v1 v2 → I1 5 = kSeF 1 (I 4 1) (I 5) v0 v1 v2 → kC (cdN (kIn v0.toInt 0 v1 (I 2 1) v2 ∨ kIn v0.toInt 1 v1 (I 4 1) v2) True) I I1 → Q (some (.int r)) (mSH, I1, L))   : mWP mTb_ mFT ro (d + 7, 79, 0, [some (.ref 0), some (.int v0), some (.int v1), some (.int v2), none, none], [], 0, 0, (mSH, I, L)) Q := by
  refine mB 1 (s2 := (d + 7, 79, 1, [some (.ref 0), some (.int v0), some (.int v1), some (.int v2), none, none], [.int v0], 0, 0, (mSH, I, L))) rfl ?_
  refine mCall (s2 := (d + 6, 108, 0, [some (.int v0)], [], 0, 0, (mSH, I, L))) rfl ?_
  refine mB 1 (s2 := (d + 6, 108, 1, [some (.int v0)], [.int v0], 0, 0, (mSH, I, L))) rfl ?_
  refine mBr (s2 := (d + 6, 108, 9, [some (.int v0)], [], 0, 0, (mSH, I, L))) (s3 := (d + 6, 108, 4, [some (.int v0)], [], 0, 0, (mSH, I, L))) rfl (fun c0 => ?_) (fun c0 => ?_)
  · refine mB 2 (s2 := (d + 6, 108, 14, [some (.int v0)], [.int 1], 0, 0, (mSH, I, L))) rfl ?_
    refine mRt (r := (some (.int 1))) (h := (mSH, I, L)) rfl rfl ?_
    show mWP mTb_ mFT ro (d + 7, 79, 4, [some (.ref 0), some (.int v0), some (.int v1), some (.int v2), none, none], [.int 1], 0, 0, (mSH, I, L)) _
    refine mBF (s3 := (d + 7, 79, 7, [some (.ref 0), some (.int v0), some (.int v1), some (.int v2), none, none], [], 0, 0, (mSH, I, L))) rfl (by decide) ?_
    refine mB 3 (s2 := (d + 7, 79, 12, [some (.ref 0), some (.int v0), some (.int v1), some (.int v2), none, none], [.int v0, .ref 1], 0, 0, (mSH, I, L))) rfl ?_
    refine mCall (s2 := (d + 6, 67, 0, [some (.ref 1), some (.int v0)], [], 0, 0, (mSH, I, L))) rfl ?_
    refine mB 1 (s2 := (d + 6, 67, 1, [some (.ref 1), some (.int v0)], [.int v0], 0, 0, (mSH, I, L))) rfl ?_
    refine mBT (s2 := (d + 6, 67, 4, [some (.ref 1), some (.int v0)], [], 0, 0, (mSH, I, L))) rfl (by first | (simp only [of_decide_eq_true c0]; first | decide | rfl) | decide | rfl) ?_
    refine mB 3 (s2 := (d + 6, 67, 15, [some (.ref 1), some (.int v0)], [.ref 2], 0, 0, (mSH, I, L))) rfl ?_
    refine mRt (r := (some (.ref 2))) (h := (mSH, I, L)) rfl rfl ?_
    show mWP mTb_ mFT ro (d + 7, 79, 15, [some (.ref 0), some (.int v0), some (.int v1), some (.int v2), none, none], [.ref 2], 0, 0, (mSH, I, L)) _
    refine mB 1 (s2 := (d + 7, 79, 16, [some (.ref 0), some (.int v0), some (.int v1), some (.int v2), none, none], [.int v1, .ref 2], 0, 0, (mSH, I, L))) rfl ?_
    refine mCall (s2 := (d + 6, 41, 0, [some (.ref 2), some (.int v1)], [], 0, 0, (mSH, I, L))) rfl ?_
    refine mB 1 (s2 := (d + 6, 41, 1, [some (.ref 2), some (.int v1)], [.int v1], 0, 0, (mSH, I, L))) rfl ?_
    refine mBr (s2 := (d + 6, 41, 16, [some (.ref 2), some (.int v1)], [], 0, 0, (mSH, I, L))) (s3 := (d + 6, 41, 4, [some (.ref 2), some (.int v1)], [], 0, 0, (mSH, I, L))) rfl (fun c1 => ?_) (fun c1 => ?_)
    · refine mB 1 (s2 := (d + 6, 41, 17, [some (.ref 2), some (.int v1)], [.int 0], 0, 0, (mSH, I, L))) rfl ?_
      refine mRt (r := (some (.int 0))) (h := (mSH, I, L)) rfl rfl ?_
      show mWP mTb_ mFT ro (d + 7, 79, 19, [some (.ref 0), some (.int v0), some (.int v1), some (.int v2), none, none], [.int 0], 0, 0, (mSH, I, L)) _
      refine mBT (s2 := (d + 7, 79, 29, [some (.ref 0), some (.int v0), some (.int v1), some (.int v2), none, none], [], 0, 0, (mSH, I, L))) rfl (by decide) ?_
      refine mB 2 (s2 := (d + 7, 79, 32, [some (.ref 0), some (.int v0), some (.int v1), some (.int v2), none, none], [.int (-2), .ref 0], 0, 0, (mSH, I, L))) rfl ?_
      refine mCall (s2 := (d + 6, 103, 0, [some (.ref 0), some (.int (-2))], [], 0, 0, (mSH, I, L))) rfl ?_
      refine mB 2 (s2 := (d + 6, 103, 3, [some (.ref 0), some (.int (-2))], [.int (-2), .int (-2)], 0, 0, (mSH, I, L))) rfl ?_
      refine mBT (s2 := (d + 6, 103, 6, [some (.ref 0), some (.int (-2))], [], 0, 0, (mSH, I, L))) rfl (by decide) ?_
      refine mB 8 (s2 := (d + 6, 103, 49, [some (.ref 0), some (.int (-2))], [.int (-2)], 0, 0, (mSH, (mUp I 0 9 ((I 0 9) + 1)), L))) rfl ?_
      refine mRt (r := (some (.int (-2)))) (h := (mSH, (mUp I 0 9 ((I 0 9) + 1)), L)) rfl (mRet_int rfl) ?_
      show mWP mTb_ mFT ro (d + 7, 79, 35, [some (.ref 0), some (.int v0), some (.int v1), some (.int v2), none, none], [.int (-2)], 0, 0, (mSH, (mUp I 0 9 ((I 0 9) + 1)), L)) _
      refine mRt (r := (some (.int (-2)))) (h := (mSH, (mUp I 0 9 ((I 0 9) + 1)), L)) rfl (mRet_int rfl) ?_
      exact hq _ _ (mFr.up (by rfl) mFr.rf) ⟨hI.1, hI.2.1, hI.2.2.1, hI.2.2.2.1, hI.2.2.2.2.1, hI.2.2.2.2.2.1, (mRk.up hI.2.2.2.2.2.2 (by rfl) (by rfl))⟩ ((if_neg (by have b0 : (v0).toInt = 0 := (by have z := of_decide_eq_true c0; rw [z]; rfl); have a0 := of_decide_eq_true c1; simp only [Int32.lt_iff_toInt_lt, Int32.le_iff_toInt_le, ← Int32.toInt_inj, mLi0, mLi1, mLi2, mLi3, mLi4, mLi5, mLi6, mLi7, mLi8, mLi9, mLi10, mLi16, mLi32, mLi48, mLi57, mLi59, mLi65, mLi90, mLi97, mLi99, mLi120, mLi122, mLi127, mLi1584, mLi999999, mLim] at a0 <;> omega)).trans (if_neg (by have b0 : (v0).toInt = 0 := (by have z := of_decide_eq_true c0; rw [z]; rfl); have a0 := of_decide_eq_true c1; simp only [Int32.lt_iff_toInt_lt, Int32.le_iff_toInt_le, ← Int32.toInt_inj, mLi0, mLi1, mLi2, mLi3, mLi4, mLi5, mLi6, mLi7, mLi8, mLi9, mLi10, mLi16, mLi32, mLi48, mLi57, mLi59, mLi65, mLi90, mLi97, mLi99, mLi120, mLi122, mLi127, mLi1584, mLi999999, mLim] at a0 <;> omega))).symm (if_neg (by have b0 : (v0).toInt = 0 := (by have z := of_decide_eq_true c0; rw [z]; rfl); have a0 := of_decide_eq_true c1; simp only [Int32.lt_iff_toInt_lt, Int32.le_iff_toInt_le, ← Int32.toInt_inj, mLi0, mLi1, mLi2, mLi3, mLi4, mLi5, mLi6, mLi7, mLi8, mLi9, mLi10, mLi16, mLi32, mLi48, mLi57, mLi59, mLi65, mLi90, mLi97, mLi99, mLi120, mLi122, mLi127, mLi1584, mLi999999, mLim] at a0 <;> omega)).symm (if_neg (by have b0 : (v0).toInt = 0 := (by have z := of_decide_eq_true c0; rw [z]; rfl); have a0 := of_decide_eq_true c1; simp only [Int32.lt_iff_toInt_lt, Int32.le_iff_toInt_le, ← Int32.toInt_inj, mLi0, mLi1, mLi2, mLi3, mLi4, mLi5, mLi6, mLi7, mLi8, mLi9, mLi10, mLi16, mLi32, mLi48, mLi57, mLi59, mLi65, mLi90, mLi97, mLi99, mLi120, mLi122, mLi127, mLi1584, mLi999999, mLim] at a0 <;> omega)).symm (kc_1 (by have b0 : (v0).toInt = 0 := (by have z := of_decide_eq_true c0; rw [z]; rfl); have a0 := of_decide_eq_true c1; simp only [Int32.lt_iff_toInt_lt, Int32.le_iff_toInt_le, ← Int32.toInt_inj, mLi0, mLi1, mLi2, mLi3, mLi4, mLi5, mLi6, mLi7, mLi8, mLi9, mLi10, mLi16, mLi32, mLi48, mLi57, mLi59, mLi65, mLi90, mLi97, mLi99, mLi120, mLi122, mLi127, mLi1584, mLi999999, mLim] at a0 <;> omega) (by rfl))
    · refine mB 3 (s2 := (d + 6, 41, 9, [some (.ref 2), some (.int v1)], [.int (I 2 1), .int v1], 0, 0, (mSH, I, L))) rfl ?_
      refine mBr (s2 := (d + 6, 41, 16, [some (.ref 2), some (.int v1)], [], 0, 0, (mSH, I, L))) (s3 := (d + 6, 41, 12, [some (.ref 2), some (.int v1)], [], 0, 0, (mSH, I, L))) rfl (fun c2 => ?_) (fun c2 => ?_)
      · refine mB 1 (s2 := (d + 6, 41, 17, [some (.ref 2), some (.int v1)], [.int 0], 0, 0, (mSH, I, L))) rfl ?_
        refine mRt (r := (some (.int 0))) (h := (mSH, I, L)) rfl rfl ?_
        show mWP mTb_ mFT ro (d + 7, 79, 19, [some (.ref 0), some (.int v0), some (.int v1), some (.int v2), none, none], [.int 0], 0, 0, (mSH, I, L)) _
        refine mBT (s2 := (d + 7, 79, 29, [some (.ref 0), some (.int v0), some (.int v1), some (.int v2), none, none], [], 0, 0, (mSH, I, L))) rfl (by decide) ?_
        refine mB 2 (s2 := (d + 7, 79, 32, [some (.ref 0), some (.int v0), some (.int v1), some (.int v2), none, none], [.int (-2), .ref 0], 0, 0, (mSH, I, L))) rfl ?_
        refine mCall (s2 := (d + 6, 103, 0, [some (.ref 0), some (.int (-2))], [], 0, 0, (mSH, I, L))) rfl ?_
        refine mB 2 (s2 := (d + 6, 103, 3, [some (.ref 0), some (.int (-2))], [.int (-2), .int (-2)], 0, 0, (mSH, I, L))) rfl ?_
        refine mBT (s2 := (d + 6, 103, 6, [some (.ref 0), some (.int (-2))], [], 0, 0, (mSH, I, L))) rfl (by decide) ?_
        refine mB 8 (s2 := (d + 6, 103, 49, [some (.ref 0), some (.int (-2))], [.int (-2)], 0, 0, (mSH, (mUp I 0 9 ((I 0 9) + 1)), L))) rfl ?_
        refine mRt (r := (some (.int (-2)))) (h := (mSH, (mUp I 0 9 ((I 0 9) + 1)), L)) rfl (mRet_int rfl) ?_
        show mWP mTb_ mFT ro (d + 7, 79, 35, [some (.ref 0), some (.int v0), some (.int v1), some (.int v2), none, none], [.int (-2)], 0, 0, (mSH, (mUp I 0 9 ((I 0 9) + 1)), L)) _
        refine mRt (r := (some (.int (-2)))) (h := (mSH, (mUp I 0 9 ((I 0 9) + 1)), L)) rfl (mRet_int rfl) ?_
        exact hq _ _ (mFr.up (by rfl) mFr.rf) ⟨hI.1, hI.2.1, hI.2.2.1, hI.2.2.2.1, hI.2.2.2.2.1, hI.2.2.2.2.2.1, (mRk.up hI.2.2.2.2.2.2 (by rfl) (by rfl))⟩ ((if_neg (by have b0 : (v0).toInt = 0 := (by have z := of_decide_eq_true c0; rw [z]; rfl); have a0 := of_decide_eq_false c1; have a1 := of_decide_eq_true c2; simp only [Int32.lt_iff_toInt_lt, Int32.le_iff_toInt_le, ← Int32.toInt_inj, mLi0, mLi1, mLi2, mLi3, mLi4, mLi5, mLi6, mLi7, mLi8, mLi9, mLi10, mLi16, mLi32, mLi48, mLi57, mLi59, mLi65, mLi90, mLi97, mLi99, mLi120, mLi122, mLi127, mLi1584, mLi999999, mLim] at a0 a1 <;> omega)).trans (if_neg (by have b0 : (v0).toInt = 0 := (by have z := of_decide_eq_true c0; rw [z]; rfl); have a0 := of_decide_eq_false c1; have a1 := of_decide_eq_true c2; simp only [Int32.lt_iff_toInt_lt, Int32.le_iff_toInt_le, ← Int32.toInt_inj, mLi0, mLi1, mLi2, mLi3, mLi4, mLi5, mLi6, mLi7, mLi8, mLi9, mLi10, mLi16, mLi32, mLi48, mLi57, mLi59, mLi65, mLi90, mLi97, mLi99, mLi120, mLi122, mLi127, mLi1584, mLi999999, mLim] at a0 a1 <;> omega))).symm (if_neg (by have b0 : (v0).toInt = 0 := (by have z := of_decide_eq_true c0; rw [z]; rfl); have a0 := of_decide_eq_false c1; have a1 := of_decide_eq_true c2; simp only [Int32.lt_iff_toInt_lt, Int32.le_iff_toInt_le, ← Int32.toInt_inj, mLi0, mLi1, mLi2, mLi3, mLi4, mLi5, mLi6, mLi7, mLi8, mLi9, mLi10, mLi16, mLi32, mLi48, mLi57, mLi59, mLi65, mLi90, mLi97, mLi99, mLi120, mLi122, mLi127, mLi1584, mLi999999, mLim] at a0 a1 <;> omega)).symm (if_neg (by have b0 : (v0).toInt = 0 := (by have z := of_decide_eq_true c0; rw [z]; rfl); have a0 := of_decide_eq_false c1; have a1 := of_decide_eq_true c2; simp only [Int32.lt_iff_toInt_lt, Int32.le_iff_toInt_le, ← Int32.toInt_inj, mLi0, mLi1, mLi2, mLi3, mLi4, mLi5, mLi6, mLi7, mLi8, mLi9, mLi10, mLi16, mLi32, mLi48, mLi57, mLi59, mLi65, mLi90, mLi97, mLi99, mLi120, mLi122, mLi127, mLi1584, mLi999999, mLim] at a0 a1 <;> omega)).symm (kc_1 (by have b0 : (v0).toInt = 0 := (by have z := of_decide_eq_true c0; rw [z]; rfl); have a0 := of_decide_eq_false c1; have a1 := of_decide_eq_true c2; simp only [Int32.lt_iff_toInt_lt, Int32.le_iff_toInt_le, ← Int32.toInt_inj, mLi0, mLi1, mLi2, mLi3, mLi4, mLi5, mLi6, mLi7, mLi8, mLi9, mLi10, mLi16, mLi32, mLi48, mLi57, mLi59, mLi65, mLi90, mLi97, mLi99, mLi120, mLi122, mLi127, mLi1584, mLi999999, mLim] at a0 a1 <;> omega) (by rfl))
      · refine mB 2 (s2 := (d + 6, 41, 17, [some (.ref 2), some (.int v1)], [.int 1], 0, 0, (mSH, I, L))) rfl ?_
        refine mRt (r := (some (.int 1))) (h := (mSH, I, L)) rfl rfl ?_
        show mWP mTb_ mFT ro (d + 7, 79, 19, [some (.ref 0), some (.int v0), some (.int v1), some (.int v2), none, none], [.int 1], 0, 0, (mSH, I, L)) _
        refine mBF (s3 := (d + 7, 79, 22, [some (.ref 0), some (.int v0), some (.int v1), some (.int v2), none, none], [], 0, 0, (mSH, I, L))) rfl (by decide) ?_
        refine mB 1 (s2 := (d + 7, 79, 23, [some (.ref 0), some (.int v0), some (.int v1), some (.int v2), none, none], [.int v2], 0, 0, (mSH, I, L))) rfl ?_
        refine mCall (s2 := (d + 6, 109, 0, [some (.int v2)], [], 0, 0, (mSH, I, L))) rfl ?_
        refine mB 2 (s2 := (d + 6, 109, 2, [some (.int v2)], [.int 1, .int v2], 0, 0, (mSH, I, L))) rfl ?_
        refine mBr (s2 := (d + 6, 109, 15, [some (.int v2)], [], 0, 0, (mSH, I, L))) (s3 := (d + 6, 109, 5, [some (.int v2)], [], 0, 0, (mSH, I, L))) rfl (fun c3 => ?_) (fun c3 => ?_)
        · refine mB 1 (s2 := (d + 6, 109, 16, [some (.int v2)], [.int 0], 0, 0, (mSH, I, L))) rfl ?_
          refine mRt (r := (some (.int 0))) (h := (mSH, I, L)) rfl rfl ?_
          show mWP mTb_ mFT ro (d + 7, 79, 26, [some (.ref 0), some (.int v0), some (.int v1), some (.int v2), none, none], [.int 0], 0, 0, (mSH, I, L)) _
          refine mBT (s2 := (d + 7, 79, 29, [some (.ref 0), some (.int v0), some (.int v1), some (.int v2), none, none], [], 0, 0, (mSH, I, L))) rfl (by decide) ?_
          refine mB 2 (s2 := (d + 7, 79, 32, [some (.ref 0), some (.int v0), some (.int v1), some (.int v2), none, none], [.int (-2), .ref 0], 0, 0, (mSH, I, L))) rfl ?_
          refine mCall (s2 := (d + 6, 103, 0, [some (.ref 0), some (.int (-2))], [], 0, 0, (mSH, I, L))) rfl ?_
          refine mB 2 (s2 := (d + 6, 103, 3, [some (.ref 0), some (.int (-2))], [.int (-2), .int (-2)], 0, 0, (mSH, I, L))) rfl ?_
          refine mBT (s2 := (d + 6, 103, 6, [some (.ref 0), some (.int (-2))], [], 0, 0, (mSH, I, L))) rfl (by decide) ?_
          refine mB 8 (s2 := (d + 6, 103, 49, [some (.ref 0), some (.int (-2))], [.int (-2)], 0, 0, (mSH, (mUp I 0 9 ((I 0 9) + 1)), L))) rfl ?_
          refine mRt (r := (some (.int (-2)))) (h := (mSH, (mUp I 0 9 ((I 0 9) + 1)), L)) rfl (mRet_int rfl) ?_
          show mWP mTb_ mFT ro (d + 7, 79, 35, [some (.ref 0), some (.int v0), some (.int v1), some (.int v2), none, none], [.int (-2)], 0, 0, (mSH, (mUp I 0 9 ((I 0 9) + 1)), L)) _
          refine mRt (r := (some (.int (-2)))) (h := (mSH, (mUp I 0 9 ((I 0 9) + 1)), L)) rfl (mRet_int rfl) ?_
          exact hq _ _ (mFr.up (by rfl) mFr.rf) ⟨hI.1, hI.2.1, hI.2.2.1, hI.2.2.2.1, hI.2.2.2.2.1, hI.2.2.2.2.2.1, (mRk.up hI.2.2.2.2.2.2 (by rfl) (by rfl))⟩ ((if_neg (by have b0 : (v0).toInt = 0 := (by have z := of_decide_eq_true c0; rw [z]; rfl); have a0 := of_decide_eq_false c1; have a1 := of_decide_eq_false c2; have a2 := of_decide_eq_true c3; simp only [Int32.lt_iff_toInt_lt, Int32.le_iff_toInt_le, ← Int32.toInt_inj, mLi0, mLi1, mLi2, mLi3, mLi4, mLi5, mLi6, mLi7, mLi8, mLi9, mLi10, mLi16, mLi32, mLi48, mLi57, mLi59, mLi65, mLi90, mLi97, mLi99, mLi120, mLi122, mLi127, mLi1584, mLi999999, mLim] at a0 a1 a2 <;> omega)).trans (if_neg (by have b0 : (v0).toInt = 0 := (by have z := of_decide_eq_true c0; rw [z]; rfl); have a0 := of_decide_eq_false c1; have a1 := of_decide_eq_false c2; have a2 := of_decide_eq_true c3; simp only [Int32.lt_iff_toInt_lt, Int32.le_iff_toInt_le, ← Int32.toInt_inj, mLi0, mLi1, mLi2, mLi3, mLi4, mLi5, mLi6, mLi7, mLi8, mLi9, mLi10, mLi16, mLi32, mLi48, mLi57, mLi59, mLi65, mLi90, mLi97, mLi99, mLi120, mLi122, mLi127, mLi1584, mLi999999, mLim] at a0 a1 a2 <;> omega))).symm (if_neg (by have b0 : (v0).toInt = 0 := (by have z := of_decide_eq_true c0; rw [z]; rfl); have a0 := of_decide_eq_false c1; have a1 := of_decide_eq_false c2; have a2 := of_decide_eq_true c3; simp only [Int32.lt_iff_toInt_lt, Int32.le_iff_toInt_le, ← Int32.toInt_inj, mLi0, mLi1, mLi2, mLi3, mLi4, mLi5, mLi6, mLi7, mLi8, mLi9, mLi10, mLi16, mLi32, mLi48, mLi57, mLi59, mLi65, mLi90, mLi97, mLi99, mLi120, mLi122, mLi127, mLi1584, mLi999999, mLim] at a0 a1 a2 <;> omega)).symm (if_neg (by have b0 : (v0).toInt = 0 := (by have z := of_decide_eq_true c0; rw [z]; rfl); have a0 := of_decide_eq_false c1; have a1 := of_decide_eq_false c2; have a2 := of_decide_eq_true c3; simp only [Int32.lt_iff_toInt_lt, Int32.le_iff_toInt_le, ← Int32.toInt_inj, mLi0, mLi1, mLi2, mLi3, mLi4, mLi5, mLi6, mLi7, mLi8, mLi9, mLi10, mLi16, mLi32, mLi48, mLi57, mLi59, mLi65, mLi90, mLi97, mLi99, mLi120, mLi122, mLi127, mLi1584, mLi999999, mLim] at a0 a1 a2 <;> omega)).symm (kc_1 (by have b0 : (v0).toInt = 0 := (by have z := of_decide_eq_true c0; rw [z]; rfl); have a0 := of_decide_eq_false c1; have a1 := of_decide_eq_false c2; have a2 := of_decide_eq_true c3; simp only [Int32.lt_iff_toInt_lt, Int32.le_iff_toInt_le, ← Int32.toInt_inj, mLi0, mLi1, mLi2, mLi3, mLi4, mLi5, mLi6, mLi7, mLi8, mLi9, mLi10, mLi16, mLi32, mLi48, mLi57, mLi59, mLi65, mLi90, mLi97, mLi99, mLi120, mLi122, mLi127, mLi1584, mLi999999, mLim] at a0 a1 a2 <;> omega) (by rfl))
        · refine mB 2 (s2 := (d + 6, 109, 8, [some (.int v2)], [.int 99, .int v2], 0, 0, (mSH, I, L))) rfl ?_
          refine mBr (s2 := (d + 6, 109, 15, [some (.int v2)], [], 0, 0, (mSH, I, L))) (s3 := (d + 6, 109, 11, [some (.int v2)], [], 0, 0, (mSH, I, L))) rfl (fun c4 => ?_) (fun c4 => ?_)
          · refine mB 1 (s2 := (d + 6, 109, 16, [some (.int v2)], [.int 0], 0, 0, (mSH, I, L))) rfl ?_
            refine mRt (r := (some (.int 0))) (h := (mSH, I, L)) rfl rfl ?_
            show mWP mTb_ mFT ro (d + 7, 79, 26, [some (.ref 0), some (.int v0), some (.int v1), some (.int v2), none, none], [.int 0], 0, 0, (mSH, I, L)) _
            refine mBT (s2 := (d + 7, 79, 29, [some (.ref 0), some (.int v0), some (.int v1), some (.int v2), none, none], [], 0, 0, (mSH, I, L))) rfl (by decide) ?_
            refine mB 2 (s2 := (d + 7, 79, 32, [some (.ref 0), some (.int v0), some (.int v1), some (.int v2), none, none], [.int (-2), .ref 0], 0, 0, (mSH, I, L))) rfl ?_
            refine mCall (s2 := (d + 6, 103, 0, [some (.ref 0), some (.int (-2))], [], 0, 0, (mSH, I, L))) rfl ?_
            refine mB 2 (s2 := (d + 6, 103, 3, [some (.ref 0), some (.int (-2))], [.int (-2), .int (-2)], 0, 0, (mSH, I, L))) rfl ?_
            refine mBT (s2 := (d + 6, 103, 6, [some (.ref 0), some (.int (-2))], [], 0, 0, (mSH, I, L))) rfl (by decide) ?_
            refine mB 8 (s2 := (d + 6, 103, 49, [some (.ref 0), some (.int (-2))], [.int (-2)], 0, 0, (mSH, (mUp I 0 9 ((I 0 9) + 1)), L))) rfl ?_
            refine mRt (r := (some (.int (-2)))) (h := (mSH, (mUp I 0 9 ((I 0 9) + 1)), L)) rfl (mRet_int rfl) ?_
            show mWP mTb_ mFT ro (d + 7, 79, 35, [some (.ref 0), some (.int v0), some (.int v1), some (.int v2), none, none], [.int (-2)], 0, 0, (mSH, (mUp I 0 9 ((I 0 9) + 1)), L)) _
            refine mRt (r := (some (.int (-2)))) (h := (mSH, (mUp I 0 9 ((I 0 9) + 1)), L)) rfl (mRet_int rfl) ?_
            exact hq _ _ (mFr.up (by rfl) mFr.rf) ⟨hI.1, hI.2.1, hI.2.2.1, hI.2.2.2.1, hI.2.2.2.2.1, hI.2.2.2.2.2.1, (mRk.up hI.2.2.2.2.2.2 (by rfl) (by rfl))⟩ ((if_neg (by have b0 : (v0).toInt = 0 := (by have z := of_decide_eq_true c0; rw [z]; rfl); have a0 := of_decide_eq_false c1; have a1 := of_decide_eq_false c2; have a2 := of_decide_eq_false c3; have a3 := of_decide_eq_true c4; simp only [Int32.lt_iff_toInt_lt, Int32.le_iff_toInt_le, ← Int32.toInt_inj, mLi0, mLi1, mLi2, mLi3, mLi4, mLi5, mLi6, mLi7, mLi8, mLi9, mLi10, mLi16, mLi32, mLi48, mLi57, mLi59, mLi65, mLi90, mLi97, mLi99, mLi120, mLi122, mLi127, mLi1584, mLi999999, mLim] at a0 a1 a2 a3 <;> omega)).trans (if_neg (by have b0 : (v0).toInt = 0 := (by have z := of_decide_eq_true c0; rw [z]; rfl); have a0 := of_decide_eq_false c1; have a1 := of_decide_eq_false c2; have a2 := of_decide_eq_false c3; have a3 := of_decide_eq_true c4; simp only [Int32.lt_iff_toInt_lt, Int32.le_iff_toInt_le, ← Int32.toInt_inj, mLi0, mLi1, mLi2, mLi3, mLi4, mLi5, mLi6, mLi7, mLi8, mLi9, mLi10, mLi16, mLi32, mLi48, mLi57, mLi59, mLi65, mLi90, mLi97, mLi99, mLi120, mLi122, mLi127, mLi1584, mLi999999, mLim] at a0 a1 a2 a3 <;> omega))).symm (if_neg (by have b0 : (v0).toInt = 0 := (by have z := of_decide_eq_true c0; rw [z]; rfl); have a0 := of_decide_eq_false c1; have a1 := of_decide_eq_false c2; have a2 := of_decide_eq_false c3; have a3 := of_decide_eq_true c4; simp only [Int32.lt_iff_toInt_lt, Int32.le_iff_toInt_le, ← Int32.toInt_inj, mLi0, mLi1, mLi2, mLi3, mLi4, mLi5, mLi6, mLi7, mLi8, mLi9, mLi10, mLi16, mLi32, mLi48, mLi57, mLi59, mLi65, mLi90, mLi97, mLi99, mLi120, mLi122, mLi127, mLi1584, mLi999999, mLim] at a0 a1 a2 a3 <;> omega)).symm (if_neg (by have b0 : (v0).toInt = 0 := (by have z := of_decide_eq_true c0; rw [z]; rfl); have a0 := of_decide_eq_false c1; have a1 := of_decide_eq_false c2; have a2 := of_decide_eq_false c3; have a3 := of_decide_eq_true c4; simp only [Int32.lt_iff_toInt_lt, Int32.le_iff_toInt_le, ← Int32.toInt_inj, mLi0, mLi1, mLi2, mLi3, mLi4, mLi5, mLi6, mLi7, mLi8, mLi9, mLi10, mLi16, mLi32, mLi48, mLi57, mLi59, mLi65, mLi90, mLi97, mLi99, mLi120, mLi122, mLi127, mLi1584, mLi999999, mLim] at a0 a1 a2 a3 <;> omega)).symm (kc_1 (by have b0 : (v0).toInt = 0 := (by have z := of_decide_eq_true c0; rw [z]; rfl); have a0 := of_decide_eq_false c1; have a1 := of_decide_eq_false c2; have a2 := of_decide_eq_false c3; have a3 := of_decide_eq_true c4; simp only [Int32.lt_iff_toInt_lt, Int32.le_iff_toInt_le, ← Int32.toInt_inj, mLi0, mLi1, mLi2, mLi3, mLi4, mLi5, mLi6, mLi7, mLi8, mLi9, mLi10, mLi16, mLi32, mLi48, mLi57, mLi59, mLi65, mLi90, mLi97, mLi99, mLi120, mLi122, mLi127, mLi1584, mLi999999, mLim] at a0 a1 a2 a3 <;> omega) (by rfl))
          · refine mB 2 (s2 := (d + 6, 109, 16, [some (.int v2)], [.int 1], 0, 0, (mSH, I, L))) rfl ?_
            refine mRt (r := (some (.int 1))) (h := (mSH, I, L)) rfl rfl ?_
            show mWP mTb_ mFT ro (d + 7, 79, 26, [some (.ref 0), some (.int v0), some (.int v1), some (.int v2), none, none], [.int 1], 0, 0, (mSH, I, L)) _
            refine mBF (s3 := (d + 7, 79, 36, [some (.ref 0), some (.int v0), some (.int v1), some (.int v2), none, none], [], 0, 0, (mSH, I, L))) rfl (by decide) ?_
            refine mB 3 (s2 := (d + 7, 79, 41, [some (.ref 0), some (.int v0), some (.int v1), some (.int v2), none, none], [.int v0, .ref 1], 0, 0, (mSH, I, L))) rfl ?_
            refine mCall (s2 := (d + 6, 67, 0, [some (.ref 1), some (.int v0)], [], 0, 0, (mSH, I, L))) rfl ?_
            refine mB 1 (s2 := (d + 6, 67, 1, [some (.ref 1), some (.int v0)], [.int v0], 0, 0, (mSH, I, L))) rfl ?_
            refine mBT (s2 := (d + 6, 67, 4, [some (.ref 1), some (.int v0)], [], 0, 0, (mSH, I, L))) rfl (by first | (simp only [of_decide_eq_true c0]; first | decide | rfl) | decide | rfl) ?_
            refine mB 3 (s2 := (d + 6, 67, 15, [some (.ref 1), some (.int v0)], [.ref 2], 0, 0, (mSH, I, L))) rfl ?_
            refine mRt (r := (some (.ref 2))) (h := (mSH, I, L)) rfl rfl ?_
            show mWP mTb_ mFT ro (d + 7, 79, 44, [some (.ref 0), some (.int v0), some (.int v1), some (.int v2), none, none], [.ref 2], 0, 0, (mSH, I, L)) _
            refine mB 3 (s2 := (d + 7, 79, 49, [some (.ref 0), some (.int v0), some (.int v1), some (.int v2), some (.ref 2), none], [.int v1, .ref 2], 0, 0, (mSH, I, L))) rfl ?_
            refine mCall (s2 := (d + 6, 42, 0, [some (.ref 2), some (.int v1)], [], 0, 0, (mSH, I, L))) rfl ?_
            refine w_at_2 hI.1 ?_
            show mWP mTb_ mFT ro (d + 7, 79, 52, [some (.ref 0), some (.int v0), some (.int v1), some (.int v2), some (.ref 2), none], [.int (mAt I 2 3 v1)], 0, 0, (mSH, I, L)) _
            refine mB 4 (s2 := (d + 7, 79, 58, [some (.ref 0), some (.int v0), some (.int v1), some (.int v2), some (.ref 2), some (.int (mAt I 2 3 v1))], [.int v2, .int v1, .ref 2], 0, 0, (mSH, I, L))) rfl ?_
            refine mCall (s2 := (d + 6, 43, 0, [some (.ref 2), some (.int v1), some (.int v2)], [], 0, 0, (mSH, I, L))) rfl ?_
            refine mB 2 (s2 := (d + 6, 43, 2, [some (.ref 2), some (.int v1), some (.int v2)], [.int v1, .ref 2], 0, 0, (mSH, I, L))) rfl ?_
            refine mCall (s2 := (d + 5, 41, 0, [some (.ref 2), some (.int v1)], [], 0, 0, (mSH, I, L))) rfl ?_
            refine mB 1 (s2 := (d + 5, 41, 1, [some (.ref 2), some (.int v1)], [.int v1], 0, 0, (mSH, I, L))) rfl ?_
            refine mBF (c := decide (v1 < 0)) (s3 := (d + 5, 41, 4, [some (.ref 2), some (.int v1)], [], 0, 0, (mSH, I, L))) rfl (decide_eq_false (by have a0 := of_decide_eq_true c0; have a1 := of_decide_eq_false c1; have a2 := of_decide_eq_false c3; have a3 := of_decide_eq_false c4; simp only [of_decide_eq_true c0, Int32.lt_iff_toInt_lt, Int32.le_iff_toInt_le, ← Int32.toInt_inj, mLi0, mLi1, mLi2, mLi3, mLi4, mLi5, mLi6, mLi7, mLi8, mLi9, mLi10, mLi16, mLi32, mLi48, mLi57, mLi59, mLi65, mLi90, mLi97, mLi99, mLi120, mLi122, mLi127, mLi1584, mLi999999, mLim] at a0 a1 a2 a3 ⊢; omega)) ?_
            refine mB 3 (s2 := (d + 5, 41, 9, [some (.ref 2), some (.int v1)], [.int (I 2 1), .int v1], 0, 0, (mSH, I, L))) rfl ?_
            refine mBF (s3 := (d + 5, 41, 12, [some (.ref 2), some (.int v1)], [], 0, 0, (mSH, I, L))) rfl (decide_eq_false (of_decide_eq_false c2)) ?_
            refine mB 2 (s2 := (d + 5, 41, 17, [some (.ref 2), some (.int v1)], [.int 1], 0, 0, (mSH, I, L))) rfl ?_
            refine mRt (r := (some (.int 1))) (h := (mSH, I, L)) rfl rfl ?_
            show mWP mTb_ mFT ro (d + 6, 43, 5, [some (.ref 2), some (.int v1), some (.int v2)], [.int 1], 0, 0, (mSH, I, L)) _
            refine mBF (s3 := (d + 6, 43, 8, [some (.ref 2), some (.int v1), some (.int v2)], [], 0, 0, (mSH, I, L))) rfl (by decide) ?_
            refine mB 4 (s2 := (d + 6, 43, 14, [some (.ref 2), some (.int v1), some (.int v2)], [.int v2, .int v1, .ref 3], 0, 0, (mSH, I, L))) rfl ?_
            refine mRq (s2 := (d + 6, 43, 15, [some (.ref 2), some (.int v1), some (.int v2)], [], 0, 0, (mSH, (mUp I 3 v1.toNatClampNeg v2), L))) rfl (mVp_of (mVpI (of_decide_eq_false c1) (of_decide_eq_false c2) hI.1.hi)) ?_
            refine mRt (r := none) (h := (mSH, (mUp I 3 v1.toNatClampNeg v2), L)) rfl rfl ?_
            show mWP mTb_ mFT ro (d + 7, 79, 61, [some (.ref 0), some (.int v0), some (.int v1), some (.int v2), some (.ref 2), some (.int (mAt I 2 3 v1))], [], 0, 0, (mSH, (mUp I 3 v1.toNatClampNeg v2), L)) _
            refine mB 1 (s2 := (d + 7, 79, 63, [some (.ref 0), some (.int v0), some (.int v1), some (.int v2), some (.ref 2), some (.int (mAt I 2 3 v1))], [.int (mAt I 2 3 v1)], 0, 0, (mSH, (mUp I 3 v1.toNatClampNeg v2), L))) rfl ?_
            refine mRt (r := (some (.int (mAt I 2 3 v1)))) (h := (mSH, (mUp I 3 v1.toNatClampNeg v2), L)) rfl (mRet_int rfl) ?_
            exact hq _ _ (mFr.up (by rfl) mFr.rf) ⟨hI.1, hI.2.1, hI.2.2.1, hI.2.2.2.1, hI.2.2.2.2.1, hI.2.2.2.2.2.1, (mRk.up hI.2.2.2.2.2.2 (by rfl) (by rfl))⟩ ((mAt_in (of_decide_eq_false c1) (of_decide_eq_false c2)).trans (if_pos (by have b0 : (v0).toInt = 0 := (by have z := of_decide_eq_true c0; rw [z]; rfl); have a0 := of_decide_eq_false c1; have a1 := of_decide_eq_false c2; have a2 := of_decide_eq_false c3; have a3 := of_decide_eq_false c4; simp only [Int32.lt_iff_toInt_lt, Int32.le_iff_toInt_le, ← Int32.toInt_inj, mLi0, mLi1, mLi2, mLi3, mLi4, mLi5, mLi6, mLi7, mLi8, mLi9, mLi10, mLi16, mLi32, mLi48, mLi57, mLi59, mLi65, mLi90, mLi97, mLi99, mLi120, mLi122, mLi127, mLi1584, mLi999999, mLim] at a0 a1 a2 a3 <;> omega)).symm) (kPut_e.trans (if_pos (by have b0 : (v0).toInt = 0 := (by have z := of_decide_eq_true c0; rw [z]; rfl); have a0 := of_decide_eq_false c1; have a1 := of_decide_eq_false c2; have a2 := of_decide_eq_false c3; have a3 := of_decide_eq_false c4; simp only [Int32.lt_iff_toInt_lt, Int32.le_iff_toInt_le, ← Int32.toInt_inj, mLi0, mLi1, mLi2, mLi3, mLi4, mLi5, mLi6, mLi7, mLi8, mLi9, mLi10, mLi16, mLi32, mLi48, mLi57, mLi59, mLi65, mLi90, mLi97, mLi99, mLi120, mLi122, mLi127, mLi1584, mLi999999, mLim] at a0 a1 a2 a3 <;> omega)).symm) (if_neg (by have b0 : (v0).toInt = 0 := (by have z := of_decide_eq_true c0; rw [z]; rfl); have a0 := of_decide_eq_false c1; have a1 := of_decide_eq_false c2; have a2 := of_decide_eq_false c3; have a3 := of_decide_eq_false c4; simp only [Int32.lt_iff_toInt_lt, Int32.le_iff_toInt_le, ← Int32.toInt_inj, mLi0, mLi1, mLi2, mLi3, mLi4, mLi5, mLi6, mLi7, mLi8, mLi9, mLi10, mLi16, mLi32, mLi48, mLi57, mLi59, mLi65, mLi90, mLi97, mLi99, mLi120, mLi122, mLi127, mLi1584, mLi999999, mLim] at a0 a1 a2 a3 <;> omega)).symm (kc_0 (by have b0 : (v0).toInt = 0 := (by have z := of_decide_eq_true c0; rw [z]; rfl); have a0 := of_decide_eq_false c1; have a1 := of_decide_eq_false c2; have a2 := of_decide_eq_false c3; have a3 := of_decide_eq_false c4; simp only [Int32.lt_iff_toInt_lt, Int32.le_iff_toInt_le, ← Int32.toInt_inj, mLi0, mLi1, mLi2, mLi3, mLi4, mLi5, mLi6, mLi7, mLi8, mLi9, mLi10, mLi16, mLi32, mLi48, mLi57, mLi59, mLi65, mLi90, mLi97, mLi99, mLi120, mLi122, mLi127, mLi1584, mLi999999, mLim] at a0 a1 a2 a3 <;> omega) trivial (by rfl))
  · refine mB 2 (s2 := (d + 6, 108, 6, [some (.int v0)], [.int 1, .int v0], 0, 0, (mSH, I, L))) rfl ?_
    refine mBr (s2 := (d + 6, 108, 9, [some (.int v0)], [], 0, 0, (mSH, I, L))) (s3 := (d + 6, 108, 13, [some (.int v0)], [], 0, 0, (mSH, I, L))) rfl (fun c1 => ?_) (fun c1 => ?_)
    · refine mB 2 (s2 := (d + 6, 108, 14, [some (.int v0)], [.int 1], 0, 0, (mSH, I, L))) rfl ?_
      refine mRt (r := (some (.int 1))) (h := (mSH, I, L)) rfl rfl ?_
      show mWP mTb_ mFT ro (d + 7, 79, 4, [some (.ref 0), some (.int v0), some (.int v1), some (.int v2), none, none], [.int 1], 0, 0, (mSH, I, L)) _
      refine mBF (s3 := (d + 7, 79, 7, [some (.ref 0), some (.int v0), some (.int v1), some (.int v2), none, none], [], 0, 0, (mSH, I, L))) rfl (by decide) ?_
      refine mB 3 (s2 := (d + 7, 79, 12, [some (.ref 0), some (.int v0), some (.int v1), some (.int v2), none, none], [.int v0, .ref 1], 0, 0, (mSH, I, L))) rfl ?_
      refine mCall (s2 := (d + 6, 67, 0, [some (.ref 1), some (.int v0)], [], 0, 0, (mSH, I, L))) rfl ?_
      refine mB 1 (s2 := (d + 6, 67, 1, [some (.ref 1), some (.int v0)], [.int v0], 0, 0, (mSH, I, L))) rfl ?_
      refine mBF (s3 := (d + 6, 67, 11, [some (.ref 1), some (.int v0)], [], 0, 0, (mSH, I, L))) rfl (by first | (simp only [of_decide_eq_true c1]; first | decide | rfl) | decide | rfl) ?_
      refine mB 2 (s2 := (d + 6, 67, 15, [some (.ref 1), some (.int v0)], [.ref 4], 0, 0, (mSH, I, L))) rfl ?_
      refine mRt (r := (some (.ref 4))) (h := (mSH, I, L)) rfl rfl ?_
      show mWP mTb_ mFT ro (d + 7, 79, 15, [some (.ref 0), some (.int v0), some (.int v1), some (.int v2), none, none], [.ref 4], 0, 0, (mSH, I, L)) _
      refine mB 1 (s2 := (d + 7, 79, 16, [some (.ref 0), some (.int v0), some (.int v1), some (.int v2), none, none], [.int v1, .ref 4], 0, 0, (mSH, I, L))) rfl ?_
      refine mCall (s2 := (d + 6, 41, 0, [some (.ref 4), some (.int v1)], [], 0, 0, (mSH, I, L))) rfl ?_
      refine mB 1 (s2 := (d + 6, 41, 1, [some (.ref 4), some (.int v1)], [.int v1], 0, 0, (mSH, I, L))) rfl ?_
      refine mBr (s2 := (d + 6, 41, 16, [some (.ref 4), some (.int v1)], [], 0, 0, (mSH, I, L))) (s3 := (d + 6, 41, 4, [some (.ref 4), some (.int v1)], [], 0, 0, (mSH, I, L))) rfl (fun c2 => ?_) (fun c2 => ?_)
      · refine mB 1 (s2 := (d + 6, 41, 17, [some (.ref 4), some (.int v1)], [.int 0], 0, 0, (mSH, I, L))) rfl ?_
        refine mRt (r := (some (.int 0))) (h := (mSH, I, L)) rfl rfl ?_
        show mWP mTb_ mFT ro (d + 7, 79, 19, [some (.ref 0), some (.int v0), some (.int v1), some (.int v2), none, none], [.int 0], 0, 0, (mSH, I, L)) _
        refine mBT (s2 := (d + 7, 79, 29, [some (.ref 0), some (.int v0), some (.int v1), some (.int v2), none, none], [], 0, 0, (mSH, I, L))) rfl (by decide) ?_
        refine mB 2 (s2 := (d + 7, 79, 32, [some (.ref 0), some (.int v0), some (.int v1), some (.int v2), none, none], [.int (-2), .ref 0], 0, 0, (mSH, I, L))) rfl ?_
        refine mCall (s2 := (d + 6, 103, 0, [some (.ref 0), some (.int (-2))], [], 0, 0, (mSH, I, L))) rfl ?_
        refine mB 2 (s2 := (d + 6, 103, 3, [some (.ref 0), some (.int (-2))], [.int (-2), .int (-2)], 0, 0, (mSH, I, L))) rfl ?_
        refine mBT (s2 := (d + 6, 103, 6, [some (.ref 0), some (.int (-2))], [], 0, 0, (mSH, I, L))) rfl (by decide) ?_
        refine mB 8 (s2 := (d + 6, 103, 49, [some (.ref 0), some (.int (-2))], [.int (-2)], 0, 0, (mSH, (mUp I 0 9 ((I 0 9) + 1)), L))) rfl ?_
        refine mRt (r := (some (.int (-2)))) (h := (mSH, (mUp I 0 9 ((I 0 9) + 1)), L)) rfl (mRet_int rfl) ?_
        show mWP mTb_ mFT ro (d + 7, 79, 35, [some (.ref 0), some (.int v0), some (.int v1), some (.int v2), none, none], [.int (-2)], 0, 0, (mSH, (mUp I 0 9 ((I 0 9) + 1)), L)) _
        refine mRt (r := (some (.int (-2)))) (h := (mSH, (mUp I 0 9 ((I 0 9) + 1)), L)) rfl (mRet_int rfl) ?_
        exact hq _ _ (mFr.up (by rfl) mFr.rf) ⟨hI.1, hI.2.1, hI.2.2.1, hI.2.2.2.1, hI.2.2.2.2.1, hI.2.2.2.2.2.1, (mRk.up hI.2.2.2.2.2.2 (by rfl) (by rfl))⟩ ((if_neg (by have b0 : (v0).toInt = 1 := (by have z := of_decide_eq_true c1; rw [z]; rfl); have a0 := of_decide_eq_false c0; have a1 := of_decide_eq_true c2; simp only [Int32.lt_iff_toInt_lt, Int32.le_iff_toInt_le, ← Int32.toInt_inj, mLi0, mLi1, mLi2, mLi3, mLi4, mLi5, mLi6, mLi7, mLi8, mLi9, mLi10, mLi16, mLi32, mLi48, mLi57, mLi59, mLi65, mLi90, mLi97, mLi99, mLi120, mLi122, mLi127, mLi1584, mLi999999, mLim] at a0 a1 <;> omega)).trans (if_neg (by have b0 : (v0).toInt = 1 := (by have z := of_decide_eq_true c1; rw [z]; rfl); have a0 := of_decide_eq_false c0; have a1 := of_decide_eq_true c2; simp only [Int32.lt_iff_toInt_lt, Int32.le_iff_toInt_le, ← Int32.toInt_inj, mLi0, mLi1, mLi2, mLi3, mLi4, mLi5, mLi6, mLi7, mLi8, mLi9, mLi10, mLi16, mLi32, mLi48, mLi57, mLi59, mLi65, mLi90, mLi97, mLi99, mLi120, mLi122, mLi127, mLi1584, mLi999999, mLim] at a0 a1 <;> omega))).symm (if_neg (by have b0 : (v0).toInt = 1 := (by have z := of_decide_eq_true c1; rw [z]; rfl); have a0 := of_decide_eq_false c0; have a1 := of_decide_eq_true c2; simp only [Int32.lt_iff_toInt_lt, Int32.le_iff_toInt_le, ← Int32.toInt_inj, mLi0, mLi1, mLi2, mLi3, mLi4, mLi5, mLi6, mLi7, mLi8, mLi9, mLi10, mLi16, mLi32, mLi48, mLi57, mLi59, mLi65, mLi90, mLi97, mLi99, mLi120, mLi122, mLi127, mLi1584, mLi999999, mLim] at a0 a1 <;> omega)).symm (if_neg (by have b0 : (v0).toInt = 1 := (by have z := of_decide_eq_true c1; rw [z]; rfl); have a0 := of_decide_eq_false c0; have a1 := of_decide_eq_true c2; simp only [Int32.lt_iff_toInt_lt, Int32.le_iff_toInt_le, ← Int32.toInt_inj, mLi0, mLi1, mLi2, mLi3, mLi4, mLi5, mLi6, mLi7, mLi8, mLi9, mLi10, mLi16, mLi32, mLi48, mLi57, mLi59, mLi65, mLi90, mLi97, mLi99, mLi120, mLi122, mLi127, mLi1584, mLi999999, mLim] at a0 a1 <;> omega)).symm (kc_1 (by have b0 : (v0).toInt = 1 := (by have z := of_decide_eq_true c1; rw [z]; rfl); have a0 := of_decide_eq_false c0; have a1 := of_decide_eq_true c2; simp only [Int32.lt_iff_toInt_lt, Int32.le_iff_toInt_le, ← Int32.toInt_inj, mLi0, mLi1, mLi2, mLi3, mLi4, mLi5, mLi6, mLi7, mLi8, mLi9, mLi10, mLi16, mLi32, mLi48, mLi57, mLi59, mLi65, mLi90, mLi97, mLi99, mLi120, mLi122, mLi127, mLi1584, mLi999999, mLim] at a0 a1 <;> omega) (by rfl))
      · refine mB 3 (s2 := (d + 6, 41, 9, [some (.ref 4), some (.int v1)], [.int (I 4 1), .int v1], 0, 0, (mSH, I, L))) rfl ?_
        refine mBr (s2 := (d + 6, 41, 16, [some (.ref 4), some (.int v1)], [], 0, 0, (mSH, I, L))) (s3 := (d + 6, 41, 12, [some (.ref 4), some (.int v1)], [], 0, 0, (mSH, I, L))) rfl (fun c3 => ?_) (fun c3 => ?_)
        · refine mB 1 (s2 := (d + 6, 41, 17, [some (.ref 4), some (.int v1)], [.int 0], 0, 0, (mSH, I, L))) rfl ?_
          refine mRt (r := (some (.int 0))) (h := (mSH, I, L)) rfl rfl ?_
          show mWP mTb_ mFT ro (d + 7, 79, 19, [some (.ref 0), some (.int v0), some (.int v1), some (.int v2), none, none], [.int 0], 0, 0, (mSH, I, L)) _
          refine mBT (s2 := (d + 7, 79, 29, [some (.ref 0), some (.int v0), some (.int v1), some (.int v2), none, none], [], 0, 0, (mSH, I, L))) rfl (by decide) ?_
          refine mB 2 (s2 := (d + 7, 79, 32, [some (.ref 0), some (.int v0), some (.int v1), some (.int v2), none, none], [.int (-2), .ref 0], 0, 0, (mSH, I, L))) rfl ?_
          refine mCall (s2 := (d + 6, 103, 0, [some (.ref 0), some (.int (-2))], [], 0, 0, (mSH, I, L))) rfl ?_
          refine mB 2 (s2 := (d + 6, 103, 3, [some (.ref 0), some (.int (-2))], [.int (-2), .int (-2)], 0, 0, (mSH, I, L))) rfl ?_
          refine mBT (s2 := (d + 6, 103, 6, [some (.ref 0), some (.int (-2))], [], 0, 0, (mSH, I, L))) rfl (by decide) ?_
          refine mB 8 (s2 := (d + 6, 103, 49, [some (.ref 0), some (.int (-2))], [.int (-2)], 0, 0, (mSH, (mUp I 0 9 ((I 0 9) + 1)), L))) rfl ?_
          refine mRt (r := (some (.int (-2)))) (h := (mSH, (mUp I 0 9 ((I 0 9) + 1)), L)) rfl (mRet_int rfl) ?_
          show mWP mTb_ mFT ro (d + 7, 79, 35, [some (.ref 0), some (.int v0), some (.int v1), some (.int v2), none, none], [.int (-2)], 0, 0, (mSH, (mUp I 0 9 ((I 0 9) + 1)), L)) _
          refine mRt (r := (some (.int (-2)))) (h := (mSH, (mUp I 0 9 ((I 0 9) + 1)), L)) rfl (mRet_int rfl) ?_
          exact hq _ _ (mFr.up (by rfl) mFr.rf) ⟨hI.1, hI.2.1, hI.2.2.1, hI.2.2.2.1, hI.2.2.2.2.1, hI.2.2.2.2.2.1, (mRk.up hI.2.2.2.2.2.2 (by rfl) (by rfl))⟩ ((if_neg (by have b0 : (v0).toInt = 1 := (by have z := of_decide_eq_true c1; rw [z]; rfl); have a0 := of_decide_eq_false c0; have a1 := of_decide_eq_false c2; have a2 := of_decide_eq_true c3; simp only [Int32.lt_iff_toInt_lt, Int32.le_iff_toInt_le, ← Int32.toInt_inj, mLi0, mLi1, mLi2, mLi3, mLi4, mLi5, mLi6, mLi7, mLi8, mLi9, mLi10, mLi16, mLi32, mLi48, mLi57, mLi59, mLi65, mLi90, mLi97, mLi99, mLi120, mLi122, mLi127, mLi1584, mLi999999, mLim] at a0 a1 a2 <;> omega)).trans (if_neg (by have b0 : (v0).toInt = 1 := (by have z := of_decide_eq_true c1; rw [z]; rfl); have a0 := of_decide_eq_false c0; have a1 := of_decide_eq_false c2; have a2 := of_decide_eq_true c3; simp only [Int32.lt_iff_toInt_lt, Int32.le_iff_toInt_le, ← Int32.toInt_inj, mLi0, mLi1, mLi2, mLi3, mLi4, mLi5, mLi6, mLi7, mLi8, mLi9, mLi10, mLi16, mLi32, mLi48, mLi57, mLi59, mLi65, mLi90, mLi97, mLi99, mLi120, mLi122, mLi127, mLi1584, mLi999999, mLim] at a0 a1 a2 <;> omega))).symm (if_neg (by have b0 : (v0).toInt = 1 := (by have z := of_decide_eq_true c1; rw [z]; rfl); have a0 := of_decide_eq_false c0; have a1 := of_decide_eq_false c2; have a2 := of_decide_eq_true c3; simp only [Int32.lt_iff_toInt_lt, Int32.le_iff_toInt_le, ← Int32.toInt_inj, mLi0, mLi1, mLi2, mLi3, mLi4, mLi5, mLi6, mLi7, mLi8, mLi9, mLi10, mLi16, mLi32, mLi48, mLi57, mLi59, mLi65, mLi90, mLi97, mLi99, mLi120, mLi122, mLi127, mLi1584, mLi999999, mLim] at a0 a1 a2 <;> omega)).symm (if_neg (by have b0 : (v0).toInt = 1 := (by have z := of_decide_eq_true c1; rw [z]; rfl); have a0 := of_decide_eq_false c0; have a1 := of_decide_eq_false c2; have a2 := of_decide_eq_true c3; simp only [Int32.lt_iff_toInt_lt, Int32.le_iff_toInt_le, ← Int32.toInt_inj, mLi0, mLi1, mLi2, mLi3, mLi4, mLi5, mLi6, mLi7, mLi8, mLi9, mLi10, mLi16, mLi32, mLi48, mLi57, mLi59, mLi65, mLi90, mLi97, mLi99, mLi120, mLi122, mLi127, mLi1584, mLi999999, mLim] at a0 a1 a2 <;> omega)).symm (kc_1 (by have b0 : (v0).toInt = 1 := (by have z := of_decide_eq_true c1; rw [z]; rfl); have a0 := of_decide_eq_false c0; have a1 := of_decide_eq_false c2; have a2 := of_decide_eq_true c3; simp only [Int32.lt_iff_toInt_lt, Int32.le_iff_toInt_le, ← Int32.toInt_inj, mLi0, mLi1, mLi2, mLi3, mLi4, mLi5, mLi6, mLi7, mLi8, mLi9, mLi10, mLi16, mLi32, mLi48, mLi57, mLi59, mLi65, mLi90, mLi97, mLi99, mLi120, mLi122, mLi127, mLi1584, mLi999999, mLim] at a0 a1 a2 <;> omega) (by rfl))
        · refine mB 2 (s2 := (d + 6, 41, 17, [some (.ref 4), some (.int v1)], [.int 1], 0, 0, (mSH, I, L))) rfl ?_
          refine mRt (r := (some (.int 1))) (h := (mSH, I, L)) rfl rfl ?_
          show mWP mTb_ mFT ro (d + 7, 79, 19, [some (.ref 0), some (.int v0), some (.int v1), some (.int v2), none, none], [.int 1], 0, 0, (mSH, I, L)) _
          refine mBF (s3 := (d + 7, 79, 22, [some (.ref 0), some (.int v0), some (.int v1), some (.int v2), none, none], [], 0, 0, (mSH, I, L))) rfl (by decide) ?_
          refine mB 1 (s2 := (d + 7, 79, 23, [some (.ref 0), some (.int v0), some (.int v1), some (.int v2), none, none], [.int v2], 0, 0, (mSH, I, L))) rfl ?_
          refine mCall (s2 := (d + 6, 109, 0, [some (.int v2)], [], 0, 0, (mSH, I, L))) rfl ?_
          refine mB 2 (s2 := (d + 6, 109, 2, [some (.int v2)], [.int 1, .int v2], 0, 0, (mSH, I, L))) rfl ?_
          refine mBr (s2 := (d + 6, 109, 15, [some (.int v2)], [], 0, 0, (mSH, I, L))) (s3 := (d + 6, 109, 5, [some (.int v2)], [], 0, 0, (mSH, I, L))) rfl (fun c4 => ?_) (fun c4 => ?_)
          · refine mB 1 (s2 := (d + 6, 109, 16, [some (.int v2)], [.int 0], 0, 0, (mSH, I, L))) rfl ?_
            refine mRt (r := (some (.int 0))) (h := (mSH, I, L)) rfl rfl ?_
            show mWP mTb_ mFT ro (d + 7, 79, 26, [some (.ref 0), some (.int v0), some (.int v1), some (.int v2), none, none], [.int 0], 0, 0, (mSH, I, L)) _
            refine mBT (s2 := (d + 7, 79, 29, [some (.ref 0), some (.int v0), some (.int v1), some (.int v2), none, none], [], 0, 0, (mSH, I, L))) rfl (by decide) ?_
            refine mB 2 (s2 := (d + 7, 79, 32, [some (.ref 0), some (.int v0), some (.int v1), some (.int v2), none, none], [.int (-2), .ref 0], 0, 0, (mSH, I, L))) rfl ?_
            refine mCall (s2 := (d + 6, 103, 0, [some (.ref 0), some (.int (-2))], [], 0, 0, (mSH, I, L))) rfl ?_
            refine mB 2 (s2 := (d + 6, 103, 3, [some (.ref 0), some (.int (-2))], [.int (-2), .int (-2)], 0, 0, (mSH, I, L))) rfl ?_
            refine mBT (s2 := (d + 6, 103, 6, [some (.ref 0), some (.int (-2))], [], 0, 0, (mSH, I, L))) rfl (by decide) ?_
            refine mB 8 (s2 := (d + 6, 103, 49, [some (.ref 0), some (.int (-2))], [.int (-2)], 0, 0, (mSH, (mUp I 0 9 ((I 0 9) + 1)), L))) rfl ?_
            refine mRt (r := (some (.int (-2)))) (h := (mSH, (mUp I 0 9 ((I 0 9) + 1)), L)) rfl (mRet_int rfl) ?_
            show mWP mTb_ mFT ro (d + 7, 79, 35, [some (.ref 0), some (.int v0), some (.int v1), some (.int v2), none, none], [.int (-2)], 0, 0, (mSH, (mUp I 0 9 ((I 0 9) + 1)), L)) _
            refine mRt (r := (some (.int (-2)))) (h := (mSH, (mUp I 0 9 ((I 0 9) + 1)), L)) rfl (mRet_int rfl) ?_
            exact hq _ _ (mFr.up (by rfl) mFr.rf) ⟨hI.1, hI.2.1, hI.2.2.1, hI.2.2.2.1, hI.2.2.2.2.1, hI.2.2.2.2.2.1, (mRk.up hI.2.2.2.2.2.2 (by rfl) (by rfl))⟩ ((if_neg (by have b0 : (v0).toInt = 1 := (by have z := of_decide_eq_true c1; rw [z]; rfl); have a0 := of_decide_eq_false c0; have a1 := of_decide_eq_false c2; have a2 := of_decide_eq_false c3; have a3 := of_decide_eq_true c4; simp only [Int32.lt_iff_toInt_lt, Int32.le_iff_toInt_le, ← Int32.toInt_inj, mLi0, mLi1, mLi2, mLi3, mLi4, mLi5, mLi6, mLi7, mLi8, mLi9, mLi10, mLi16, mLi32, mLi48, mLi57, mLi59, mLi65, mLi90, mLi97, mLi99, mLi120, mLi122, mLi127, mLi1584, mLi999999, mLim] at a0 a1 a2 a3 <;> omega)).trans (if_neg (by have b0 : (v0).toInt = 1 := (by have z := of_decide_eq_true c1; rw [z]; rfl); have a0 := of_decide_eq_false c0; have a1 := of_decide_eq_false c2; have a2 := of_decide_eq_false c3; have a3 := of_decide_eq_true c4; simp only [Int32.lt_iff_toInt_lt, Int32.le_iff_toInt_le, ← Int32.toInt_inj, mLi0, mLi1, mLi2, mLi3, mLi4, mLi5, mLi6, mLi7, mLi8, mLi9, mLi10, mLi16, mLi32, mLi48, mLi57, mLi59, mLi65, mLi90, mLi97, mLi99, mLi120, mLi122, mLi127, mLi1584, mLi999999, mLim] at a0 a1 a2 a3 <;> omega))).symm (if_neg (by have b0 : (v0).toInt = 1 := (by have z := of_decide_eq_true c1; rw [z]; rfl); have a0 := of_decide_eq_false c0; have a1 := of_decide_eq_false c2; have a2 := of_decide_eq_false c3; have a3 := of_decide_eq_true c4; simp only [Int32.lt_iff_toInt_lt, Int32.le_iff_toInt_le, ← Int32.toInt_inj, mLi0, mLi1, mLi2, mLi3, mLi4, mLi5, mLi6, mLi7, mLi8, mLi9, mLi10, mLi16, mLi32, mLi48, mLi57, mLi59, mLi65, mLi90, mLi97, mLi99, mLi120, mLi122, mLi127, mLi1584, mLi999999, mLim] at a0 a1 a2 a3 <;> omega)).symm (if_neg (by have b0 : (v0).toInt = 1 := (by have z := of_decide_eq_true c1; rw [z]; rfl); have a0 := of_decide_eq_false c0; have a1 := of_decide_eq_false c2; have a2 := of_decide_eq_false c3; have a3 := of_decide_eq_true c4; simp only [Int32.lt_iff_toInt_lt, Int32.le_iff_toInt_le, ← Int32.toInt_inj, mLi0, mLi1, mLi2, mLi3, mLi4, mLi5, mLi6, mLi7, mLi8, mLi9, mLi10, mLi16, mLi32, mLi48, mLi57, mLi59, mLi65, mLi90, mLi97, mLi99, mLi120, mLi122, mLi127, mLi1584, mLi999999, mLim] at a0 a1 a2 a3 <;> omega)).symm (kc_1 (by have b0 : (v0).toInt = 1 := (by have z := of_decide_eq_true c1; rw [z]; rfl); have a0 := of_decide_eq_false c0; have a1 := of_decide_eq_false c2; have a2 := of_decide_eq_false c3; have a3 := of_decide_eq_true c4; simp only [Int32.lt_iff_toInt_lt, Int32.le_iff_toInt_le, ← Int32.toInt_inj, mLi0, mLi1, mLi2, mLi3, mLi4, mLi5, mLi6, mLi7, mLi8, mLi9, mLi10, mLi16, mLi32, mLi48, mLi57, mLi59, mLi65, mLi90, mLi97, mLi99, mLi120, mLi122, mLi127, mLi1584, mLi999999, mLim] at a0 a1 a2 a3 <;> omega) (by rfl))
          · refine mB 2 (s2 := (d + 6, 109, 8, [some (.int v2)], [.int 99, .int v2], 0, 0, (mSH, I, L))) rfl ?_
            refine mBr (s2 := (d + 6, 109, 15, [some (.int v2)], [], 0, 0, (mSH, I, L))) (s3 := (d + 6, 109, 11, [some (.int v2)], [], 0, 0, (mSH, I, L))) rfl (fun c5 => ?_) (fun c5 => ?_)
            · refine mB 1 (s2 := (d + 6, 109, 16, [some (.int v2)], [.int 0], 0, 0, (mSH, I, L))) rfl ?_
              refine mRt (r := (some (.int 0))) (h := (mSH, I, L)) rfl rfl ?_
              show mWP mTb_ mFT ro (d + 7, 79, 26, [some (.ref 0), some (.int v0), some (.int v1), some (.int v2), none, none], [.int 0], 0, 0, (mSH, I, L)) _
              refine mBT (s2 := (d + 7, 79, 29, [some (.ref 0), some (.int v0), some (.int v1), some (.int v2), none, none], [], 0, 0, (mSH, I, L))) rfl (by decide) ?_
              refine mB 2 (s2 := (d + 7, 79, 32, [some (.ref 0), some (.int v0), some (.int v1), some (.int v2), none, none], [.int (-2), .ref 0], 0, 0, (mSH, I, L))) rfl ?_
              refine mCall (s2 := (d + 6, 103, 0, [some (.ref 0), some (.int (-2))], [], 0, 0, (mSH, I, L))) rfl ?_
              refine mB 2 (s2 := (d + 6, 103, 3, [some (.ref 0), some (.int (-2))], [.int (-2), .int (-2)], 0, 0, (mSH, I, L))) rfl ?_
              refine mBT (s2 := (d + 6, 103, 6, [some (.ref 0), some (.int (-2))], [], 0, 0, (mSH, I, L))) rfl (by decide) ?_
              refine mB 8 (s2 := (d + 6, 103, 49, [some (.ref 0), some (.int (-2))], [.int (-2)], 0, 0, (mSH, (mUp I 0 9 ((I 0 9) + 1)), L))) rfl ?_
              refine mRt (r := (some (.int (-2)))) (h := (mSH, (mUp I 0 9 ((I 0 9) + 1)), L)) rfl (mRet_int rfl) ?_
              show mWP mTb_ mFT ro (d + 7, 79, 35, [some (.ref 0), some (.int v0), some (.int v1), some (.int v2), none, none], [.int (-2)], 0, 0, (mSH, (mUp I 0 9 ((I 0 9) + 1)), L)) _
              refine mRt (r := (some (.int (-2)))) (h := (mSH, (mUp I 0 9 ((I 0 9) + 1)), L)) rfl (mRet_int rfl) ?_
              exact hq _ _ (mFr.up (by rfl) mFr.rf) ⟨hI.1, hI.2.1, hI.2.2.1, hI.2.2.2.1, hI.2.2.2.2.1, hI.2.2.2.2.2.1, (mRk.up hI.2.2.2.2.2.2 (by rfl) (by rfl))⟩ ((if_neg (by have b0 : (v0).toInt = 1 := (by have z := of_decide_eq_true c1; rw [z]; rfl); have a0 := of_decide_eq_false c0; have a1 := of_decide_eq_false c2; have a2 := of_decide_eq_false c3; have a3 := of_decide_eq_false c4; have a4 := of_decide_eq_true c5; simp only [Int32.lt_iff_toInt_lt, Int32.le_iff_toInt_le, ← Int32.toInt_inj, mLi0, mLi1, mLi2, mLi3, mLi4, mLi5, mLi6, mLi7, mLi8, mLi9, mLi10, mLi16, mLi32, mLi48, mLi57, mLi59, mLi65, mLi90, mLi97, mLi99, mLi120, mLi122, mLi127, mLi1584, mLi999999, mLim] at a0 a1 a2 a3 a4 <;> omega)).trans (if_neg (by have b0 : (v0).toInt = 1 := (by have z := of_decide_eq_true c1; rw [z]; rfl); have a0 := of_decide_eq_false c0; have a1 := of_decide_eq_false c2; have a2 := of_decide_eq_false c3; have a3 := of_decide_eq_false c4; have a4 := of_decide_eq_true c5; simp only [Int32.lt_iff_toInt_lt, Int32.le_iff_toInt_le, ← Int32.toInt_inj, mLi0, mLi1, mLi2, mLi3, mLi4, mLi5, mLi6, mLi7, mLi8, mLi9, mLi10, mLi16, mLi32, mLi48, mLi57, mLi59, mLi65, mLi90, mLi97, mLi99, mLi120, mLi122, mLi127, mLi1584, mLi999999, mLim] at a0 a1 a2 a3 a4 <;> omega))).symm (if_neg (by have b0 : (v0).toInt = 1 := (by have z := of_decide_eq_true c1; rw [z]; rfl); have a0 := of_decide_eq_false c0; have a1 := of_decide_eq_false c2; have a2 := of_decide_eq_false c3; have a3 := of_decide_eq_false c4; have a4 := of_decide_eq_true c5; simp only [Int32.lt_iff_toInt_lt, Int32.le_iff_toInt_le, ← Int32.toInt_inj, mLi0, mLi1, mLi2, mLi3, mLi4, mLi5, mLi6, mLi7, mLi8, mLi9, mLi10, mLi16, mLi32, mLi48, mLi57, mLi59, mLi65, mLi90, mLi97, mLi99, mLi120, mLi122, mLi127, mLi1584, mLi999999, mLim] at a0 a1 a2 a3 a4 <;> omega)).symm (if_neg (by have b0 : (v0).toInt = 1 := (by have z := of_decide_eq_true c1; rw [z]; rfl); have a0 := of_decide_eq_false c0; have a1 := of_decide_eq_false c2; have a2 := of_decide_eq_false c3; have a3 := of_decide_eq_false c4; have a4 := of_decide_eq_true c5; simp only [Int32.lt_iff_toInt_lt, Int32.le_iff_toInt_le, ← Int32.toInt_inj, mLi0, mLi1, mLi2, mLi3, mLi4, mLi5, mLi6, mLi7, mLi8, mLi9, mLi10, mLi16, mLi32, mLi48, mLi57, mLi59, mLi65, mLi90, mLi97, mLi99, mLi120, mLi122, mLi127, mLi1584, mLi999999, mLim] at a0 a1 a2 a3 a4 <;> omega)).symm (kc_1 (by have b0 : (v0).toInt = 1 := (by have z := of_decide_eq_true c1; rw [z]; rfl); have a0 := of_decide_eq_false c0; have a1 := of_decide_eq_false c2; have a2 := of_decide_eq_false c3; have a3 := of_decide_eq_false c4; have a4 := of_decide_eq_true c5; simp only [Int32.lt_iff_toInt_lt, Int32.le_iff_toInt_le, ← Int32.toInt_inj, mLi0, mLi1, mLi2, mLi3, mLi4, mLi5, mLi6, mLi7, mLi8, mLi9, mLi10, mLi16, mLi32, mLi48, mLi57, mLi59, mLi65, mLi90, mLi97, mLi99, mLi120, mLi122, mLi127, mLi1584, mLi999999, mLim] at a0 a1 a2 a3 a4 <;> omega) (by rfl))
            · refine mB 2 (s2 := (d + 6, 109, 16, [some (.int v2)], [.int 1], 0, 0, (mSH, I, L))) rfl ?_
              refine mRt (r := (some (.int 1))) (h := (mSH, I, L)) rfl rfl ?_
              show mWP mTb_ mFT ro (d + 7, 79, 26, [some (.ref 0), some (.int v0), some (.int v1), some (.int v2), none, none], [.int 1], 0, 0, (mSH, I, L)) _
              refine mBF (s3 := (d + 7, 79, 36, [some (.ref 0), some (.int v0), some (.int v1), some (.int v2), none, none], [], 0, 0, (mSH, I, L))) rfl (by decide) ?_
              refine mB 3 (s2 := (d + 7, 79, 41, [some (.ref 0), some (.int v0), some (.int v1), some (.int v2), none, none], [.int v0, .ref 1], 0, 0, (mSH, I, L))) rfl ?_
              refine mCall (s2 := (d + 6, 67, 0, [some (.ref 1), some (.int v0)], [], 0, 0, (mSH, I, L))) rfl ?_
              refine mB 1 (s2 := (d + 6, 67, 1, [some (.ref 1), some (.int v0)], [.int v0], 0, 0, (mSH, I, L))) rfl ?_
              refine mBF (s3 := (d + 6, 67, 11, [some (.ref 1), some (.int v0)], [], 0, 0, (mSH, I, L))) rfl (by first | (simp only [of_decide_eq_true c1]; first | decide | rfl) | decide | rfl) ?_
              refine mB 2 (s2 := (d + 6, 67, 15, [some (.ref 1), some (.int v0)], [.ref 4], 0, 0, (mSH, I, L))) rfl ?_
              refine mRt (r := (some (.ref 4))) (h := (mSH, I, L)) rfl rfl ?_
              show mWP mTb_ mFT ro (d + 7, 79, 44, [some (.ref 0), some (.int v0), some (.int v1), some (.int v2), none, none], [.ref 4], 0, 0, (mSH, I, L)) _
              refine mB 3 (s2 := (d + 7, 79, 49, [some (.ref 0), some (.int v0), some (.int v1), some (.int v2), some (.ref 4), none], [.int v1, .ref 4], 0, 0, (mSH, I, L))) rfl ?_
              refine mCall (s2 := (d + 6, 42, 0, [some (.ref 4), some (.int v1)], [], 0, 0, (mSH, I, L))) rfl ?_
              refine w_at_4 hI.2.1 ?_
              show mWP mTb_ mFT ro (d + 7, 79, 52, [some (.ref 0), some (.int v0), some (.int v1), some (.int v2), some (.ref 4), none], [.int (mAt I 4 5 v1)], 0, 0, (mSH, I, L)) _
              refine mB 4 (s2 := (d + 7, 79, 58, [some (.ref 0), some (.int v0), some (.int v1), some (.int v2), some (.ref 4), some (.int (mAt I 4 5 v1))], [.int v2, .int v1, .ref 4], 0, 0, (mSH, I, L))) rfl ?_
              refine mCall (s2 := (d + 6, 43, 0, [some (.ref 4), some (.int v1), some (.int v2)], [], 0, 0, (mSH, I, L))) rfl ?_
              refine mB 2 (s2 := (d + 6, 43, 2, [some (.ref 4), some (.int v1), some (.int v2)], [.int v1, .ref 4], 0, 0, (mSH, I, L))) rfl ?_
              refine mCall (s2 := (d + 5, 41, 0, [some (.ref 4), some (.int v1)], [], 0, 0, (mSH, I, L))) rfl ?_
              refine mB 1 (s2 := (d + 5, 41, 1, [some (.ref 4), some (.int v1)], [.int v1], 0, 0, (mSH, I, L))) rfl ?_
              refine mBF (c := decide (v1 < 0)) (s3 := (d + 5, 41, 4, [some (.ref 4), some (.int v1)], [], 0, 0, (mSH, I, L))) rfl (decide_eq_false (by have a0 := of_decide_eq_false c0; have a1 := of_decide_eq_true c1; have a2 := of_decide_eq_false c2; have a3 := of_decide_eq_false c4; have a4 := of_decide_eq_false c5; simp only [of_decide_eq_true c1, Int32.lt_iff_toInt_lt, Int32.le_iff_toInt_le, ← Int32.toInt_inj, mLi0, mLi1, mLi2, mLi3, mLi4, mLi5, mLi6, mLi7, mLi8, mLi9, mLi10, mLi16, mLi32, mLi48, mLi57, mLi59, mLi65, mLi90, mLi97, mLi99, mLi120, mLi122, mLi127, mLi1584, mLi999999, mLim] at a0 a1 a2 a3 a4 ⊢; omega)) ?_
              refine mB 3 (s2 := (d + 5, 41, 9, [some (.ref 4), some (.int v1)], [.int (I 4 1), .int v1], 0, 0, (mSH, I, L))) rfl ?_
              refine mBF (s3 := (d + 5, 41, 12, [some (.ref 4), some (.int v1)], [], 0, 0, (mSH, I, L))) rfl (decide_eq_false (of_decide_eq_false c3)) ?_
              refine mB 2 (s2 := (d + 5, 41, 17, [some (.ref 4), some (.int v1)], [.int 1], 0, 0, (mSH, I, L))) rfl ?_
              refine mRt (r := (some (.int 1))) (h := (mSH, I, L)) rfl rfl ?_
              show mWP mTb_ mFT ro (d + 6, 43, 5, [some (.ref 4), some (.int v1), some (.int v2)], [.int 1], 0, 0, (mSH, I, L)) _
              refine mBF (s3 := (d + 6, 43, 8, [some (.ref 4), some (.int v1), some (.int v2)], [], 0, 0, (mSH, I, L))) rfl (by decide) ?_
              refine mB 4 (s2 := (d + 6, 43, 14, [some (.ref 4), some (.int v1), some (.int v2)], [.int v2, .int v1, .ref 5], 0, 0, (mSH, I, L))) rfl ?_
              refine mRq (s2 := (d + 6, 43, 15, [some (.ref 4), some (.int v1), some (.int v2)], [], 0, 0, (mSH, (mUp I 5 v1.toNatClampNeg v2), L))) rfl (mVp_of (mVpI (of_decide_eq_false c2) (of_decide_eq_false c3) hI.2.1.hi)) ?_
              refine mRt (r := none) (h := (mSH, (mUp I 5 v1.toNatClampNeg v2), L)) rfl rfl ?_
              show mWP mTb_ mFT ro (d + 7, 79, 61, [some (.ref 0), some (.int v0), some (.int v1), some (.int v2), some (.ref 4), some (.int (mAt I 4 5 v1))], [], 0, 0, (mSH, (mUp I 5 v1.toNatClampNeg v2), L)) _
              refine mB 1 (s2 := (d + 7, 79, 63, [some (.ref 0), some (.int v0), some (.int v1), some (.int v2), some (.ref 4), some (.int (mAt I 4 5 v1))], [.int (mAt I 4 5 v1)], 0, 0, (mSH, (mUp I 5 v1.toNatClampNeg v2), L))) rfl ?_
              refine mRt (r := (some (.int (mAt I 4 5 v1)))) (h := (mSH, (mUp I 5 v1.toNatClampNeg v2), L)) rfl (mRet_int rfl) ?_
              exact hq _ _ (mFr.up (by rfl) mFr.rf) ⟨hI.1, hI.2.1, hI.2.2.1, hI.2.2.2.1, hI.2.2.2.2.1, hI.2.2.2.2.2.1, (mRk.up hI.2.2.2.2.2.2 (by rfl) (by rfl))⟩ ((mAt_in (of_decide_eq_false c2) (of_decide_eq_false c3)).trans ((if_neg (by have b0 : (v0).toInt = 1 := (by have z := of_decide_eq_true c1; rw [z]; rfl); have a0 := of_decide_eq_false c0; have a1 := of_decide_eq_false c2; have a2 := of_decide_eq_false c3; have a3 := of_decide_eq_false c4; have a4 := of_decide_eq_false c5; simp only [Int32.lt_iff_toInt_lt, Int32.le_iff_toInt_le, ← Int32.toInt_inj, mLi0, mLi1, mLi2, mLi3, mLi4, mLi5, mLi6, mLi7, mLi8, mLi9, mLi10, mLi16, mLi32, mLi48, mLi57, mLi59, mLi65, mLi90, mLi97, mLi99, mLi120, mLi122, mLi127, mLi1584, mLi999999, mLim] at a0 a1 a2 a3 a4 <;> omega)).trans (if_pos (by have b0 : (v0).toInt = 1 := (by have z := of_decide_eq_true c1; rw [z]; rfl); have a0 := of_decide_eq_false c0; have a1 := of_decide_eq_false c2; have a2 := of_decide_eq_false c3; have a3 := of_decide_eq_false c4; have a4 := of_decide_eq_false c5; simp only [Int32.lt_iff_toInt_lt, Int32.le_iff_toInt_le, ← Int32.toInt_inj, mLi0, mLi1, mLi2, mLi3, mLi4, mLi5, mLi6, mLi7, mLi8, mLi9, mLi10, mLi16, mLi32, mLi48, mLi57, mLi59, mLi65, mLi90, mLi97, mLi99, mLi120, mLi122, mLi127, mLi1584, mLi999999, mLim] at a0 a1 a2 a3 a4 <;> omega))).symm) (if_neg (by have b0 : (v0).toInt = 1 := (by have z := of_decide_eq_true c1; rw [z]; rfl); have a0 := of_decide_eq_false c0; have a1 := of_decide_eq_false c2; have a2 := of_decide_eq_false c3; have a3 := of_decide_eq_false c4; have a4 := of_decide_eq_false c5; simp only [Int32.lt_iff_toInt_lt, Int32.le_iff_toInt_le, ← Int32.toInt_inj, mLi0, mLi1, mLi2, mLi3, mLi4, mLi5, mLi6, mLi7, mLi8, mLi9, mLi10, mLi16, mLi32, mLi48, mLi57, mLi59, mLi65, mLi90, mLi97, mLi99, mLi120, mLi122, mLi127, mLi1584, mLi999999, mLim] at a0 a1 a2 a3 a4 <;> omega)).symm (kPut_e.trans (if_pos (by have b0 : (v0).toInt = 1 := (by have z := of_decide_eq_true c1; rw [z]; rfl); have a0 := of_decide_eq_false c0; have a1 := of_decide_eq_false c2; have a2 := of_decide_eq_false c3; have a3 := of_decide_eq_false c4; have a4 := of_decide_eq_false c5; simp only [Int32.lt_iff_toInt_lt, Int32.le_iff_toInt_le, ← Int32.toInt_inj, mLi0, mLi1, mLi2, mLi3, mLi4, mLi5, mLi6, mLi7, mLi8, mLi9, mLi10, mLi16, mLi32, mLi48, mLi57, mLi59, mLi65, mLi90, mLi97, mLi99, mLi120, mLi122, mLi127, mLi1584, mLi999999, mLim] at a0 a1 a2 a3 a4 <;> omega)).symm) (kc_0 (by have b0 : (v0).toInt = 1 := (by have z := of_decide_eq_true c1; rw [z]; rfl); have a0 := of_decide_eq_false c0; have a1 := of_decide_eq_false c2; have a2 := of_decide_eq_false c3; have a3 := of_decide_eq_false c4; have a4 := of_decide_eq_false c5; simp only [Int32.lt_iff_toInt_lt, Int32.le_iff_toInt_le, ← Int32.toInt_inj, mLi0, mLi1, mLi2, mLi3, mLi4, mLi5, mLi6, mLi7, mLi8, mLi9, mLi10, mLi16, mLi32, mLi48, mLi57, mLi59, mLi65, mLi90, mLi97, mLi99, mLi120, mLi122, mLi127, mLi1584, mLi999999, mLim] at a0 a1 a2 a3 a4 <;> omega) trivial (by rfl))
    · refine mB 1 (s2 := (d + 6, 108, 14, [some (.int v0)], [.int 0], 0, 0, (mSH, I, L))) rfl ?_
      refine mRt (r := (some (.int 0))) (h := (mSH, I, L)) rfl rfl ?_
      show mWP mTb_ mFT ro (d + 7, 79, 4, [some (.ref 0), some (.int v0), some (.int v1), some (.int v2), none, none], [.int 0], 0, 0, (mSH, I, L)) _
      refine mBT (s2 := (d + 7, 79, 29, [some (.ref 0), some (.int v0), some (.int v1), some (.int v2), none, none], [], 0, 0, (mSH, I, L))) rfl (by decide) ?_
      refine mB 2 (s2 := (d + 7, 79, 32, [some (.ref 0), some (.int v0), some (.int v1), some (.int v2), none, none], [.int (-2), .ref 0], 0, 0, (mSH, I, L))) rfl ?_
      refine mCall (s2 := (d + 6, 103, 0, [some (.ref 0), some (.int (-2))], [], 0, 0, (mSH, I, L))) rfl ?_
      refine mB 2 (s2 := (d + 6, 103, 3, [some (.ref 0), some (.int (-2))], [.int (-2), .int (-2)], 0, 0, (mSH, I, L))) rfl ?_
      refine mBT (s2 := (d + 6, 103, 6, [some (.ref 0), some (.int (-2))], [], 0, 0, (mSH, I, L))) rfl (by decide) ?_
      refine mB 8 (s2 := (d + 6, 103, 49, [some (.ref 0), some (.int (-2))], [.int (-2)], 0, 0, (mSH, (mUp I 0 9 ((I 0 9) + 1)), L))) rfl ?_
      refine mRt (r := (some (.int (-2)))) (h := (mSH, (mUp I 0 9 ((I 0 9) + 1)), L)) rfl (mRet_int rfl) ?_
      show mWP mTb_ mFT ro (d + 7, 79, 35, [some (.ref 0), some (.int v0), some (.int v1), some (.int v2), none, none], [.int (-2)], 0, 0, (mSH, (mUp I 0 9 ((I 0 9) + 1)), L)) _
      refine mRt (r := (some (.int (-2)))) (h := (mSH, (mUp I 0 9 ((I 0 9) + 1)), L)) rfl (mRet_int rfl) ?_
      exact hq _ _ (mFr.up (by rfl) mFr.rf) ⟨hI.1, hI.2.1, hI.2.2.1, hI.2.2.2.1, hI.2.2.2.2.1, hI.2.2.2.2.2.1, (mRk.up hI.2.2.2.2.2.2 (by rfl) (by rfl))⟩ ((if_neg (by have a0 := of_decide_eq_false c0; have a1 := of_decide_eq_false c1; simp only [Int32.lt_iff_toInt_lt, Int32.le_iff_toInt_le, ← Int32.toInt_inj, mLi0, mLi1, mLi2, mLi3, mLi4, mLi5, mLi6, mLi7, mLi8, mLi9, mLi10, mLi16, mLi32, mLi48, mLi57, mLi59, mLi65, mLi90, mLi97, mLi99, mLi120, mLi122, mLi127, mLi1584, mLi999999, mLim] at a0 a1 <;> omega)).trans (if_neg (by have a0 := of_decide_eq_false c0; have a1 := of_decide_eq_false c1; simp only [Int32.lt_iff_toInt_lt, Int32.le_iff_toInt_le, ← Int32.toInt_inj, mLi0, mLi1, mLi2, mLi3, mLi4, mLi5, mLi6, mLi7, mLi8, mLi9, mLi10, mLi16, mLi32, mLi48, mLi57, mLi59, mLi65, mLi90, mLi97, mLi99, mLi120, mLi122, mLi127, mLi1584, mLi999999, mLim] at a0 a1 <;> omega))).symm (if_neg (by have a0 := of_decide_eq_false c0; have a1 := of_decide_eq_false c1; simp only [Int32.lt_iff_toInt_lt, Int32.le_iff_toInt_le, ← Int32.toInt_inj, mLi0, mLi1, mLi2, mLi3, mLi4, mLi5, mLi6, mLi7, mLi8, mLi9, mLi10, mLi16, mLi32, mLi48, mLi57, mLi59, mLi65, mLi90, mLi97, mLi99, mLi120, mLi122, mLi127, mLi1584, mLi999999, mLim] at a0 a1 <;> omega)).symm (if_neg (by have a0 := of_decide_eq_false c0; have a1 := of_decide_eq_false c1; simp only [Int32.lt_iff_toInt_lt, Int32.le_iff_toInt_le, ← Int32.toInt_inj, mLi0, mLi1, mLi2, mLi3, mLi4, mLi5, mLi6, mLi7, mLi8, mLi9, mLi10, mLi16, mLi32, mLi48, mLi57, mLi59, mLi65, mLi90, mLi97, mLi99, mLi120, mLi122, mLi127, mLi1584, mLi999999, mLim] at a0 a1 <;> omega)).symm (kc_1 (by have a0 := of_decide_eq_false c0; have a1 := of_decide_eq_false c1; simp only [Int32.lt_iff_toInt_lt, Int32.le_iff_toInt_le, ← Int32.toInt_inj, mLi0, mLi1, mLi2, mLi3, mLi4, mLi5, mLi6, mLi7, mLi8, mLi9, mLi10, mLi16, mLi32, mLi48, mLi57, mLi59, mLi65, mLi90, mLi97, mLi99, mLi120, mLi122, mLi127, mLi1584, mLi999999, mLim] at a0 a1 <;> omega) (by rfl))
theorem z_empties {ro : Nat → Nat × (Nat → Int32)} {Q : mPo} {d : Nat} {I : Nat → Nat → Int32} {L : Nat → Nat → Int64} {v0 : Int32} (hI : mIC I) (hq : ∀ r I1, mFr [0, 2, 4] I I1 → mIC I1 → r = kEmR (I 2 1) (I 4 1) v0 → I1 2 1 = kEmN 0 (I 2 1) v0 → I1 4 1 = kEmN 1 (I 4 1) v0 → kC (cdN (kEi v0) True) I I1 → Q (some (.int r)) (mSH, I1, L))   : mWP mTb_ mFT ro (d + 7, 80, 0, [some (.ref 0), some (.int v0)], [], 0, 0, (mSH, I, L)) Q := by
  refine mB 1 (s2 := (d + 7, 80, 1, [some (.ref 0), some (.int v0)], [.int v0], 0, 0, (mSH, I, L))) rfl ?_
  refine mCall (s2 := (d + 6, 108, 0, [some (.int v0)], [], 0, 0, (mSH, I, L))) rfl ?_
  refine mB 1 (s2 := (d + 6, 108, 1, [some (.int v0)], [.int v0], 0, 0, (mSH, I, L))) rfl ?_
  refine mBr (s2 := (d + 6, 108, 9, [some (.int v0)], [], 0, 0, (mSH, I, L))) (s3 := (d + 6, 108, 4, [some (.int v0)], [], 0, 0, (mSH, I, L))) rfl (fun c0 => ?_) (fun c0 => ?_)
  · refine mB 2 (s2 := (d + 6, 108, 14, [some (.int v0)], [.int 1], 0, 0, (mSH, I, L))) rfl ?_
    refine mRt (r := (some (.int 1))) (h := (mSH, I, L)) rfl rfl ?_
    show mWP mTb_ mFT ro (d + 7, 80, 4, [some (.ref 0), some (.int v0)], [.int 1], 0, 0, (mSH, I, L)) _
    refine mBF (s3 := (d + 7, 80, 14, [some (.ref 0), some (.int v0)], [], 0, 0, (mSH, I, L))) rfl (by decide) ?_
    refine mB 3 (s2 := (d + 7, 80, 19, [some (.ref 0), some (.int v0)], [.int v0, .ref 1], 0, 0, (mSH, I, L))) rfl ?_
    refine mCall (s2 := (d + 6, 67, 0, [some (.ref 1), some (.int v0)], [], 0, 0, (mSH, I, L))) rfl ?_
    refine mB 1 (s2 := (d + 6, 67, 1, [some (.ref 1), some (.int v0)], [.int v0], 0, 0, (mSH, I, L))) rfl ?_
    refine mBT (s2 := (d + 6, 67, 4, [some (.ref 1), some (.int v0)], [], 0, 0, (mSH, I, L))) rfl (by first | (simp only [of_decide_eq_true c0]; first | decide | rfl) | decide | rfl) ?_
    refine mB 3 (s2 := (d + 6, 67, 15, [some (.ref 1), some (.int v0)], [.ref 2], 0, 0, (mSH, I, L))) rfl ?_
    refine mRt (r := (some (.ref 2))) (h := (mSH, I, L)) rfl rfl ?_
    show mWP mTb_ mFT ro (d + 7, 80, 22, [some (.ref 0), some (.int v0)], [.ref 2], 0, 0, (mSH, I, L)) _
    refine mCall (s2 := (d + 6, 45, 0, [some (.ref 2), none], [], 0, 0, (mSH, I, L))) rfl ?_
    refine mB 7 (s2 := (d + 6, 45, 11, [some (.ref 2), some (.int (I 2 1))], [.int (I 2 1)], 0, 0, (mSH, (mUp I 2 1 0), L))) rfl ?_
    refine mRt (r := (some (.int (I 2 1)))) (h := (mSH, (mUp I 2 1 0), L)) rfl (mRet_int rfl) ?_
    show mWP mTb_ mFT ro (d + 7, 80, 25, [some (.ref 0), some (.int v0)], [.int (I 2 1)], 0, 0, (mSH, (mUp I 2 1 0), L)) _
    refine mRt (r := (some (.int (I 2 1)))) (h := (mSH, (mUp I 2 1 0), L)) rfl (mRet_int rfl) ?_
    exact hq _ _ (mFr.up (by rfl) mFr.rf) ⟨(mCn_z (by rfl)), hI.2.1, hI.2.2.1, hI.2.2.2.1, hI.2.2.2.2.1, hI.2.2.2.2.2.1, (mRk.up hI.2.2.2.2.2.2 (by rfl) (by rfl))⟩ (if_pos (by have b0 : (v0).toInt = 0 := (by have z := of_decide_eq_true c0; rw [z]; rfl); omega)).symm (if_pos (by have b0 : (v0).toInt = 0 := (by have z := of_decide_eq_true c0; rw [z]; rfl); omega)).symm (if_neg (by have b0 : (v0).toInt = 0 := (by have z := of_decide_eq_true c0; rw [z]; rfl); omega)).symm (kc_0 (by have b0 : (v0).toInt = 0 := (by have z := of_decide_eq_true c0; rw [z]; rfl); omega) trivial (by rfl))
  · refine mB 2 (s2 := (d + 6, 108, 6, [some (.int v0)], [.int 1, .int v0], 0, 0, (mSH, I, L))) rfl ?_
    refine mBr (s2 := (d + 6, 108, 9, [some (.int v0)], [], 0, 0, (mSH, I, L))) (s3 := (d + 6, 108, 13, [some (.int v0)], [], 0, 0, (mSH, I, L))) rfl (fun c1 => ?_) (fun c1 => ?_)
    · refine mB 2 (s2 := (d + 6, 108, 14, [some (.int v0)], [.int 1], 0, 0, (mSH, I, L))) rfl ?_
      refine mRt (r := (some (.int 1))) (h := (mSH, I, L)) rfl rfl ?_
      show mWP mTb_ mFT ro (d + 7, 80, 4, [some (.ref 0), some (.int v0)], [.int 1], 0, 0, (mSH, I, L)) _
      refine mBF (s3 := (d + 7, 80, 14, [some (.ref 0), some (.int v0)], [], 0, 0, (mSH, I, L))) rfl (by decide) ?_
      refine mB 3 (s2 := (d + 7, 80, 19, [some (.ref 0), some (.int v0)], [.int v0, .ref 1], 0, 0, (mSH, I, L))) rfl ?_
      refine mCall (s2 := (d + 6, 67, 0, [some (.ref 1), some (.int v0)], [], 0, 0, (mSH, I, L))) rfl ?_
      refine mB 1 (s2 := (d + 6, 67, 1, [some (.ref 1), some (.int v0)], [.int v0], 0, 0, (mSH, I, L))) rfl ?_
      refine mBF (s3 := (d + 6, 67, 11, [some (.ref 1), some (.int v0)], [], 0, 0, (mSH, I, L))) rfl (by first | (simp only [of_decide_eq_true c1]; first | decide | rfl) | decide | rfl) ?_
      refine mB 2 (s2 := (d + 6, 67, 15, [some (.ref 1), some (.int v0)], [.ref 4], 0, 0, (mSH, I, L))) rfl ?_
      refine mRt (r := (some (.ref 4))) (h := (mSH, I, L)) rfl rfl ?_
      show mWP mTb_ mFT ro (d + 7, 80, 22, [some (.ref 0), some (.int v0)], [.ref 4], 0, 0, (mSH, I, L)) _
      refine mCall (s2 := (d + 6, 45, 0, [some (.ref 4), none], [], 0, 0, (mSH, I, L))) rfl ?_
      refine mB 7 (s2 := (d + 6, 45, 11, [some (.ref 4), some (.int (I 4 1))], [.int (I 4 1)], 0, 0, (mSH, (mUp I 4 1 0), L))) rfl ?_
      refine mRt (r := (some (.int (I 4 1)))) (h := (mSH, (mUp I 4 1 0), L)) rfl (mRet_int rfl) ?_
      show mWP mTb_ mFT ro (d + 7, 80, 25, [some (.ref 0), some (.int v0)], [.int (I 4 1)], 0, 0, (mSH, (mUp I 4 1 0), L)) _
      refine mRt (r := (some (.int (I 4 1)))) (h := (mSH, (mUp I 4 1 0), L)) rfl (mRet_int rfl) ?_
      exact hq _ _ (mFr.up (by rfl) mFr.rf) ⟨hI.1, (mCn_z (by rfl)), hI.2.2.1, hI.2.2.2.1, hI.2.2.2.2.1, hI.2.2.2.2.2.1, (mRk.up hI.2.2.2.2.2.2 (by rfl) (by rfl))⟩ ((if_neg (by have b0 : (v0).toInt = 1 := (by have z := of_decide_eq_true c1; rw [z]; rfl); have a0 := of_decide_eq_false c0; simp only [Int32.lt_iff_toInt_lt, Int32.le_iff_toInt_le, ← Int32.toInt_inj, mLi0, mLi1, mLi2, mLi3, mLi4, mLi5, mLi6, mLi7, mLi8, mLi9, mLi10, mLi16, mLi32, mLi48, mLi57, mLi59, mLi65, mLi90, mLi97, mLi99, mLi120, mLi122, mLi127, mLi1584, mLi999999, mLim] at a0 <;> omega)).trans (if_pos (by have b0 : (v0).toInt = 1 := (by have z := of_decide_eq_true c1; rw [z]; rfl); have a0 := of_decide_eq_false c0; simp only [Int32.lt_iff_toInt_lt, Int32.le_iff_toInt_le, ← Int32.toInt_inj, mLi0, mLi1, mLi2, mLi3, mLi4, mLi5, mLi6, mLi7, mLi8, mLi9, mLi10, mLi16, mLi32, mLi48, mLi57, mLi59, mLi65, mLi90, mLi97, mLi99, mLi120, mLi122, mLi127, mLi1584, mLi999999, mLim] at a0 <;> omega))).symm (if_neg (by have b0 : (v0).toInt = 1 := (by have z := of_decide_eq_true c1; rw [z]; rfl); have a0 := of_decide_eq_false c0; simp only [Int32.lt_iff_toInt_lt, Int32.le_iff_toInt_le, ← Int32.toInt_inj, mLi0, mLi1, mLi2, mLi3, mLi4, mLi5, mLi6, mLi7, mLi8, mLi9, mLi10, mLi16, mLi32, mLi48, mLi57, mLi59, mLi65, mLi90, mLi97, mLi99, mLi120, mLi122, mLi127, mLi1584, mLi999999, mLim] at a0 <;> omega)).symm (if_pos (by have b0 : (v0).toInt = 1 := (by have z := of_decide_eq_true c1; rw [z]; rfl); have a0 := of_decide_eq_false c0; simp only [Int32.lt_iff_toInt_lt, Int32.le_iff_toInt_le, ← Int32.toInt_inj, mLi0, mLi1, mLi2, mLi3, mLi4, mLi5, mLi6, mLi7, mLi8, mLi9, mLi10, mLi16, mLi32, mLi48, mLi57, mLi59, mLi65, mLi90, mLi97, mLi99, mLi120, mLi122, mLi127, mLi1584, mLi999999, mLim] at a0 <;> omega)).symm (kc_0 (by have b0 : (v0).toInt = 1 := (by have z := of_decide_eq_true c1; rw [z]; rfl); have a0 := of_decide_eq_false c0; simp only [Int32.lt_iff_toInt_lt, Int32.le_iff_toInt_le, ← Int32.toInt_inj, mLi0, mLi1, mLi2, mLi3, mLi4, mLi5, mLi6, mLi7, mLi8, mLi9, mLi10, mLi16, mLi32, mLi48, mLi57, mLi59, mLi65, mLi90, mLi97, mLi99, mLi120, mLi122, mLi127, mLi1584, mLi999999, mLim] at a0 <;> omega) trivial (by rfl))
    · refine mB 1 (s2 := (d + 6, 108, 14, [some (.int v0)], [.int 0], 0, 0, (mSH, I, L))) rfl ?_
      refine mRt (r := (some (.int 0))) (h := (mSH, I, L)) rfl rfl ?_
      show mWP mTb_ mFT ro (d + 7, 80, 4, [some (.ref 0), some (.int v0)], [.int 0], 0, 0, (mSH, I, L)) _
      refine mBT (s2 := (d + 7, 80, 7, [some (.ref 0), some (.int v0)], [], 0, 0, (mSH, I, L))) rfl (by decide) ?_
      refine mB 2 (s2 := (d + 7, 80, 10, [some (.ref 0), some (.int v0)], [.int (-2), .ref 0], 0, 0, (mSH, I, L))) rfl ?_
      refine mCall (s2 := (d + 6, 103, 0, [some (.ref 0), some (.int (-2))], [], 0, 0, (mSH, I, L))) rfl ?_
      refine mB 2 (s2 := (d + 6, 103, 3, [some (.ref 0), some (.int (-2))], [.int (-2), .int (-2)], 0, 0, (mSH, I, L))) rfl ?_
      refine mBT (s2 := (d + 6, 103, 6, [some (.ref 0), some (.int (-2))], [], 0, 0, (mSH, I, L))) rfl (by decide) ?_
      refine mB 8 (s2 := (d + 6, 103, 49, [some (.ref 0), some (.int (-2))], [.int (-2)], 0, 0, (mSH, (mUp I 0 9 ((I 0 9) + 1)), L))) rfl ?_
      refine mRt (r := (some (.int (-2)))) (h := (mSH, (mUp I 0 9 ((I 0 9) + 1)), L)) rfl (mRet_int rfl) ?_
      show mWP mTb_ mFT ro (d + 7, 80, 13, [some (.ref 0), some (.int v0)], [.int (-2)], 0, 0, (mSH, (mUp I 0 9 ((I 0 9) + 1)), L)) _
      refine mRt (r := (some (.int (-2)))) (h := (mSH, (mUp I 0 9 ((I 0 9) + 1)), L)) rfl (mRet_int rfl) ?_
      exact hq _ _ (mFr.up (by rfl) mFr.rf) ⟨hI.1, hI.2.1, hI.2.2.1, hI.2.2.2.1, hI.2.2.2.2.1, hI.2.2.2.2.2.1, (mRk.up hI.2.2.2.2.2.2 (by rfl) (by rfl))⟩ ((if_neg (by have a0 := of_decide_eq_false c0; have a1 := of_decide_eq_false c1; simp only [Int32.lt_iff_toInt_lt, Int32.le_iff_toInt_le, ← Int32.toInt_inj, mLi0, mLi1, mLi2, mLi3, mLi4, mLi5, mLi6, mLi7, mLi8, mLi9, mLi10, mLi16, mLi32, mLi48, mLi57, mLi59, mLi65, mLi90, mLi97, mLi99, mLi120, mLi122, mLi127, mLi1584, mLi999999, mLim] at a0 a1 <;> omega)).trans (if_neg (by have a0 := of_decide_eq_false c0; have a1 := of_decide_eq_false c1; simp only [Int32.lt_iff_toInt_lt, Int32.le_iff_toInt_le, ← Int32.toInt_inj, mLi0, mLi1, mLi2, mLi3, mLi4, mLi5, mLi6, mLi7, mLi8, mLi9, mLi10, mLi16, mLi32, mLi48, mLi57, mLi59, mLi65, mLi90, mLi97, mLi99, mLi120, mLi122, mLi127, mLi1584, mLi999999, mLim] at a0 a1 <;> omega))).symm (if_neg (by have a0 := of_decide_eq_false c0; have a1 := of_decide_eq_false c1; simp only [Int32.lt_iff_toInt_lt, Int32.le_iff_toInt_le, ← Int32.toInt_inj, mLi0, mLi1, mLi2, mLi3, mLi4, mLi5, mLi6, mLi7, mLi8, mLi9, mLi10, mLi16, mLi32, mLi48, mLi57, mLi59, mLi65, mLi90, mLi97, mLi99, mLi120, mLi122, mLi127, mLi1584, mLi999999, mLim] at a0 a1 <;> omega)).symm (if_neg (by have a0 := of_decide_eq_false c0; have a1 := of_decide_eq_false c1; simp only [Int32.lt_iff_toInt_lt, Int32.le_iff_toInt_le, ← Int32.toInt_inj, mLi0, mLi1, mLi2, mLi3, mLi4, mLi5, mLi6, mLi7, mLi8, mLi9, mLi10, mLi16, mLi32, mLi48, mLi57, mLi59, mLi65, mLi90, mLi97, mLi99, mLi120, mLi122, mLi127, mLi1584, mLi999999, mLim] at a0 a1 <;> omega)).symm (kc_1 (by have a0 := of_decide_eq_false c0; have a1 := of_decide_eq_false c1; simp only [Int32.lt_iff_toInt_lt, Int32.le_iff_toInt_le, ← Int32.toInt_inj, mLi0, mLi1, mLi2, mLi3, mLi4, mLi5, mLi6, mLi7, mLi8, mLi9, mLi10, mLi16, mLi32, mLi48, mLi57, mLi59, mLi65, mLi90, mLi97, mLi99, mLi120, mLi122, mLi127, mLi1584, mLi999999, mLim] at a0 a1 <;> omega) (by rfl))
theorem z_bound {ro : Nat → Nat × (Nat → Int32)} {Q : mPo} {d : Nat} {I : Nat → Nat → Int32} {L : Nat → Nat → Int64} {v0 v1 v2 : Int32} (hI : mIC I) (hq : ∀ r I1, mFr [0, 6] I I1 → mIC I1 → r = mBdR v0 v1 v2 → I1 6 = kBoF (I 6) v0 v1 v2 → kC (cdN (kBo v0 v1 v2) True) I I1 → Q (some (.int r)) (mSH, I1, L))   : mWP mTb_ mFT ro (d + 7, 82, 0, [some (.ref 0), some (.int v0), some (.int v1), some (.int v2)], [], 0, 0, (mSH, I, L)) Q := by
  refine mB 1 (s2 := (d + 7, 82, 1, [some (.ref 0), some (.int v0), some (.int v1), some (.int v2)], [.int v0], 0, 0, (mSH, I, L))) rfl ?_
  refine mCall (s2 := (d + 6, 108, 0, [some (.int v0)], [], 0, 0, (mSH, I, L))) rfl ?_
  refine mB 1 (s2 := (d + 6, 108, 1, [some (.int v0)], [.int v0], 0, 0, (mSH, I, L))) rfl ?_
  refine mBr (s2 := (d + 6, 108, 9, [some (.int v0)], [], 0, 0, (mSH, I, L))) (s3 := (d + 6, 108, 4, [some (.int v0)], [], 0, 0, (mSH, I, L))) rfl (fun c0 => ?_) (fun c0 => ?_)
  · refine mB 2 (s2 := (d + 6, 108, 14, [some (.int v0)], [.int 1], 0, 0, (mSH, I, L))) rfl ?_
    refine mRt (r := (some (.int 1))) (h := (mSH, I, L)) rfl rfl ?_
    show mWP mTb_ mFT ro (d + 7, 82, 4, [some (.ref 0), some (.int v0), some (.int v1), some (.int v2)], [.int 1], 0, 0, (mSH, I, L)) _
    refine mBF (s3 := (d + 7, 82, 7, [some (.ref 0), some (.int v0), some (.int v1), some (.int v2)], [], 0, 0, (mSH, I, L))) rfl (by decide) ?_
    refine mB 1 (s2 := (d + 7, 82, 8, [some (.ref 0), some (.int v0), some (.int v1), some (.int v2)], [.int v1], 0, 0, (mSH, I, L))) rfl ?_
    refine mBr (s2 := (d + 7, 82, 24, [some (.ref 0), some (.int v0), some (.int v1), some (.int v2)], [], 0, 0, (mSH, I, L))) (s3 := (d + 7, 82, 11, [some (.ref 0), some (.int v0), some (.int v1), some (.int v2)], [], 0, 0, (mSH, I, L))) rfl (fun c1 => ?_) (fun c1 => ?_)
    · refine mB 2 (s2 := (d + 7, 82, 27, [some (.ref 0), some (.int v0), some (.int v1), some (.int v2)], [.int (-2), .ref 0], 0, 0, (mSH, I, L))) rfl ?_
      refine mCall (s2 := (d + 6, 103, 0, [some (.ref 0), some (.int (-2))], [], 0, 0, (mSH, I, L))) rfl ?_
      refine mB 2 (s2 := (d + 6, 103, 3, [some (.ref 0), some (.int (-2))], [.int (-2), .int (-2)], 0, 0, (mSH, I, L))) rfl ?_
      refine mBT (s2 := (d + 6, 103, 6, [some (.ref 0), some (.int (-2))], [], 0, 0, (mSH, I, L))) rfl (by decide) ?_
      refine mB 8 (s2 := (d + 6, 103, 49, [some (.ref 0), some (.int (-2))], [.int (-2)], 0, 0, (mSH, (mUp I 0 9 ((I 0 9) + 1)), L))) rfl ?_
      refine mRt (r := (some (.int (-2)))) (h := (mSH, (mUp I 0 9 ((I 0 9) + 1)), L)) rfl (mRet_int rfl) ?_
      show mWP mTb_ mFT ro (d + 7, 82, 30, [some (.ref 0), some (.int v0), some (.int v1), some (.int v2)], [.int (-2)], 0, 0, (mSH, (mUp I 0 9 ((I 0 9) + 1)), L)) _
      refine mRt (r := (some (.int (-2)))) (h := (mSH, (mUp I 0 9 ((I 0 9) + 1)), L)) rfl (mRet_int rfl) ?_
      exact hq _ _ (mFr.up (by rfl) mFr.rf) ⟨hI.1, hI.2.1, hI.2.2.1, hI.2.2.2.1, hI.2.2.2.2.1, hI.2.2.2.2.2.1, (mRk.up hI.2.2.2.2.2.2 (by rfl) (by rfl))⟩ (if_neg (by have b0 : (v0).toInt = 0 := (by have z := of_decide_eq_true c0; rw [z]; rfl); have a0 := of_decide_eq_true c1; simp only [Int32.lt_iff_toInt_lt, Int32.le_iff_toInt_le, ← Int32.toInt_inj, mLi0, mLi1, mLi2, mLi3, mLi4, mLi5, mLi6, mLi7, mLi8, mLi9, mLi10, mLi16, mLi32, mLi48, mLi57, mLi59, mLi65, mLi90, mLi97, mLi99, mLi120, mLi122, mLi127, mLi1584, mLi999999, mLim] at a0 <;> omega)).symm (if_neg (by have b0 : (v0).toInt = 0 := (by have z := of_decide_eq_true c0; rw [z]; rfl); have a0 := of_decide_eq_true c1; simp only [Int32.lt_iff_toInt_lt, Int32.le_iff_toInt_le, ← Int32.toInt_inj, mLi0, mLi1, mLi2, mLi3, mLi4, mLi5, mLi6, mLi7, mLi8, mLi9, mLi10, mLi16, mLi32, mLi48, mLi57, mLi59, mLi65, mLi90, mLi97, mLi99, mLi120, mLi122, mLi127, mLi1584, mLi999999, mLim] at a0 <;> omega)).symm (kc_1 (by have b0 : (v0).toInt = 0 := (by have z := of_decide_eq_true c0; rw [z]; rfl); have a0 := of_decide_eq_true c1; simp only [Int32.lt_iff_toInt_lt, Int32.le_iff_toInt_le, ← Int32.toInt_inj, mLi0, mLi1, mLi2, mLi3, mLi4, mLi5, mLi6, mLi7, mLi8, mLi9, mLi10, mLi16, mLi32, mLi48, mLi57, mLi59, mLi65, mLi90, mLi97, mLi99, mLi120, mLi122, mLi127, mLi1584, mLi999999, mLim] at a0 <;> omega) (by rfl))
    · refine mB 2 (s2 := (d + 7, 82, 14, [some (.ref 0), some (.int v0), some (.int v1), some (.int v2)], [.int 99, .int v1], 0, 0, (mSH, I, L))) rfl ?_
      refine mBr (s2 := (d + 7, 82, 24, [some (.ref 0), some (.int v0), some (.int v1), some (.int v2)], [], 0, 0, (mSH, I, L))) (s3 := (d + 7, 82, 17, [some (.ref 0), some (.int v0), some (.int v1), some (.int v2)], [], 0, 0, (mSH, I, L))) rfl (fun c2 => ?_) (fun c2 => ?_)
      · refine mB 2 (s2 := (d + 7, 82, 27, [some (.ref 0), some (.int v0), some (.int v1), some (.int v2)], [.int (-2), .ref 0], 0, 0, (mSH, I, L))) rfl ?_
        refine mCall (s2 := (d + 6, 103, 0, [some (.ref 0), some (.int (-2))], [], 0, 0, (mSH, I, L))) rfl ?_
        refine mB 2 (s2 := (d + 6, 103, 3, [some (.ref 0), some (.int (-2))], [.int (-2), .int (-2)], 0, 0, (mSH, I, L))) rfl ?_
        refine mBT (s2 := (d + 6, 103, 6, [some (.ref 0), some (.int (-2))], [], 0, 0, (mSH, I, L))) rfl (by decide) ?_
        refine mB 8 (s2 := (d + 6, 103, 49, [some (.ref 0), some (.int (-2))], [.int (-2)], 0, 0, (mSH, (mUp I 0 9 ((I 0 9) + 1)), L))) rfl ?_
        refine mRt (r := (some (.int (-2)))) (h := (mSH, (mUp I 0 9 ((I 0 9) + 1)), L)) rfl (mRet_int rfl) ?_
        show mWP mTb_ mFT ro (d + 7, 82, 30, [some (.ref 0), some (.int v0), some (.int v1), some (.int v2)], [.int (-2)], 0, 0, (mSH, (mUp I 0 9 ((I 0 9) + 1)), L)) _
        refine mRt (r := (some (.int (-2)))) (h := (mSH, (mUp I 0 9 ((I 0 9) + 1)), L)) rfl (mRet_int rfl) ?_
        exact hq _ _ (mFr.up (by rfl) mFr.rf) ⟨hI.1, hI.2.1, hI.2.2.1, hI.2.2.2.1, hI.2.2.2.2.1, hI.2.2.2.2.2.1, (mRk.up hI.2.2.2.2.2.2 (by rfl) (by rfl))⟩ (if_neg (by have b0 : (v0).toInt = 0 := (by have z := of_decide_eq_true c0; rw [z]; rfl); have a0 := of_decide_eq_false c1; have a1 := of_decide_eq_true c2; simp only [Int32.lt_iff_toInt_lt, Int32.le_iff_toInt_le, ← Int32.toInt_inj, mLi0, mLi1, mLi2, mLi3, mLi4, mLi5, mLi6, mLi7, mLi8, mLi9, mLi10, mLi16, mLi32, mLi48, mLi57, mLi59, mLi65, mLi90, mLi97, mLi99, mLi120, mLi122, mLi127, mLi1584, mLi999999, mLim] at a0 a1 <;> omega)).symm (if_neg (by have b0 : (v0).toInt = 0 := (by have z := of_decide_eq_true c0; rw [z]; rfl); have a0 := of_decide_eq_false c1; have a1 := of_decide_eq_true c2; simp only [Int32.lt_iff_toInt_lt, Int32.le_iff_toInt_le, ← Int32.toInt_inj, mLi0, mLi1, mLi2, mLi3, mLi4, mLi5, mLi6, mLi7, mLi8, mLi9, mLi10, mLi16, mLi32, mLi48, mLi57, mLi59, mLi65, mLi90, mLi97, mLi99, mLi120, mLi122, mLi127, mLi1584, mLi999999, mLim] at a0 a1 <;> omega)).symm (kc_1 (by have b0 : (v0).toInt = 0 := (by have z := of_decide_eq_true c0; rw [z]; rfl); have a0 := of_decide_eq_false c1; have a1 := of_decide_eq_true c2; simp only [Int32.lt_iff_toInt_lt, Int32.le_iff_toInt_le, ← Int32.toInt_inj, mLi0, mLi1, mLi2, mLi3, mLi4, mLi5, mLi6, mLi7, mLi8, mLi9, mLi10, mLi16, mLi32, mLi48, mLi57, mLi59, mLi65, mLi90, mLi97, mLi99, mLi120, mLi122, mLi127, mLi1584, mLi999999, mLim] at a0 a1 <;> omega) (by rfl))
      · refine mB 1 (s2 := (d + 7, 82, 18, [some (.ref 0), some (.int v0), some (.int v1), some (.int v2)], [.int v2], 0, 0, (mSH, I, L))) rfl ?_
        refine mCall (s2 := (d + 6, 109, 0, [some (.int v2)], [], 0, 0, (mSH, I, L))) rfl ?_
        refine mB 2 (s2 := (d + 6, 109, 2, [some (.int v2)], [.int 1, .int v2], 0, 0, (mSH, I, L))) rfl ?_
        refine mBr (s2 := (d + 6, 109, 15, [some (.int v2)], [], 0, 0, (mSH, I, L))) (s3 := (d + 6, 109, 5, [some (.int v2)], [], 0, 0, (mSH, I, L))) rfl (fun c3 => ?_) (fun c3 => ?_)
        · refine mB 1 (s2 := (d + 6, 109, 16, [some (.int v2)], [.int 0], 0, 0, (mSH, I, L))) rfl ?_
          refine mRt (r := (some (.int 0))) (h := (mSH, I, L)) rfl rfl ?_
          show mWP mTb_ mFT ro (d + 7, 82, 21, [some (.ref 0), some (.int v0), some (.int v1), some (.int v2)], [.int 0], 0, 0, (mSH, I, L)) _
          refine mBT (s2 := (d + 7, 82, 24, [some (.ref 0), some (.int v0), some (.int v1), some (.int v2)], [], 0, 0, (mSH, I, L))) rfl (by decide) ?_
          refine mB 2 (s2 := (d + 7, 82, 27, [some (.ref 0), some (.int v0), some (.int v1), some (.int v2)], [.int (-2), .ref 0], 0, 0, (mSH, I, L))) rfl ?_
          refine mCall (s2 := (d + 6, 103, 0, [some (.ref 0), some (.int (-2))], [], 0, 0, (mSH, I, L))) rfl ?_
          refine mB 2 (s2 := (d + 6, 103, 3, [some (.ref 0), some (.int (-2))], [.int (-2), .int (-2)], 0, 0, (mSH, I, L))) rfl ?_
          refine mBT (s2 := (d + 6, 103, 6, [some (.ref 0), some (.int (-2))], [], 0, 0, (mSH, I, L))) rfl (by decide) ?_
          refine mB 8 (s2 := (d + 6, 103, 49, [some (.ref 0), some (.int (-2))], [.int (-2)], 0, 0, (mSH, (mUp I 0 9 ((I 0 9) + 1)), L))) rfl ?_
          refine mRt (r := (some (.int (-2)))) (h := (mSH, (mUp I 0 9 ((I 0 9) + 1)), L)) rfl (mRet_int rfl) ?_
          show mWP mTb_ mFT ro (d + 7, 82, 30, [some (.ref 0), some (.int v0), some (.int v1), some (.int v2)], [.int (-2)], 0, 0, (mSH, (mUp I 0 9 ((I 0 9) + 1)), L)) _
          refine mRt (r := (some (.int (-2)))) (h := (mSH, (mUp I 0 9 ((I 0 9) + 1)), L)) rfl (mRet_int rfl) ?_
          exact hq _ _ (mFr.up (by rfl) mFr.rf) ⟨hI.1, hI.2.1, hI.2.2.1, hI.2.2.2.1, hI.2.2.2.2.1, hI.2.2.2.2.2.1, (mRk.up hI.2.2.2.2.2.2 (by rfl) (by rfl))⟩ (if_neg (by have b0 : (v0).toInt = 0 := (by have z := of_decide_eq_true c0; rw [z]; rfl); have a0 := of_decide_eq_false c1; have a1 := of_decide_eq_false c2; have a2 := of_decide_eq_true c3; simp only [Int32.lt_iff_toInt_lt, Int32.le_iff_toInt_le, ← Int32.toInt_inj, mLi0, mLi1, mLi2, mLi3, mLi4, mLi5, mLi6, mLi7, mLi8, mLi9, mLi10, mLi16, mLi32, mLi48, mLi57, mLi59, mLi65, mLi90, mLi97, mLi99, mLi120, mLi122, mLi127, mLi1584, mLi999999, mLim] at a0 a1 a2 <;> omega)).symm (if_neg (by have b0 : (v0).toInt = 0 := (by have z := of_decide_eq_true c0; rw [z]; rfl); have a0 := of_decide_eq_false c1; have a1 := of_decide_eq_false c2; have a2 := of_decide_eq_true c3; simp only [Int32.lt_iff_toInt_lt, Int32.le_iff_toInt_le, ← Int32.toInt_inj, mLi0, mLi1, mLi2, mLi3, mLi4, mLi5, mLi6, mLi7, mLi8, mLi9, mLi10, mLi16, mLi32, mLi48, mLi57, mLi59, mLi65, mLi90, mLi97, mLi99, mLi120, mLi122, mLi127, mLi1584, mLi999999, mLim] at a0 a1 a2 <;> omega)).symm (kc_1 (by have b0 : (v0).toInt = 0 := (by have z := of_decide_eq_true c0; rw [z]; rfl); have a0 := of_decide_eq_false c1; have a1 := of_decide_eq_false c2; have a2 := of_decide_eq_true c3; simp only [Int32.lt_iff_toInt_lt, Int32.le_iff_toInt_le, ← Int32.toInt_inj, mLi0, mLi1, mLi2, mLi3, mLi4, mLi5, mLi6, mLi7, mLi8, mLi9, mLi10, mLi16, mLi32, mLi48, mLi57, mLi59, mLi65, mLi90, mLi97, mLi99, mLi120, mLi122, mLi127, mLi1584, mLi999999, mLim] at a0 a1 a2 <;> omega) (by rfl))
        · refine mB 2 (s2 := (d + 6, 109, 8, [some (.int v2)], [.int 99, .int v2], 0, 0, (mSH, I, L))) rfl ?_
          refine mBr (s2 := (d + 6, 109, 15, [some (.int v2)], [], 0, 0, (mSH, I, L))) (s3 := (d + 6, 109, 11, [some (.int v2)], [], 0, 0, (mSH, I, L))) rfl (fun c4 => ?_) (fun c4 => ?_)
          · refine mB 1 (s2 := (d + 6, 109, 16, [some (.int v2)], [.int 0], 0, 0, (mSH, I, L))) rfl ?_
            refine mRt (r := (some (.int 0))) (h := (mSH, I, L)) rfl rfl ?_
            show mWP mTb_ mFT ro (d + 7, 82, 21, [some (.ref 0), some (.int v0), some (.int v1), some (.int v2)], [.int 0], 0, 0, (mSH, I, L)) _
            refine mBT (s2 := (d + 7, 82, 24, [some (.ref 0), some (.int v0), some (.int v1), some (.int v2)], [], 0, 0, (mSH, I, L))) rfl (by decide) ?_
            refine mB 2 (s2 := (d + 7, 82, 27, [some (.ref 0), some (.int v0), some (.int v1), some (.int v2)], [.int (-2), .ref 0], 0, 0, (mSH, I, L))) rfl ?_
            refine mCall (s2 := (d + 6, 103, 0, [some (.ref 0), some (.int (-2))], [], 0, 0, (mSH, I, L))) rfl ?_
            refine mB 2 (s2 := (d + 6, 103, 3, [some (.ref 0), some (.int (-2))], [.int (-2), .int (-2)], 0, 0, (mSH, I, L))) rfl ?_
            refine mBT (s2 := (d + 6, 103, 6, [some (.ref 0), some (.int (-2))], [], 0, 0, (mSH, I, L))) rfl (by decide) ?_
            refine mB 8 (s2 := (d + 6, 103, 49, [some (.ref 0), some (.int (-2))], [.int (-2)], 0, 0, (mSH, (mUp I 0 9 ((I 0 9) + 1)), L))) rfl ?_
            refine mRt (r := (some (.int (-2)))) (h := (mSH, (mUp I 0 9 ((I 0 9) + 1)), L)) rfl (mRet_int rfl) ?_
            show mWP mTb_ mFT ro (d + 7, 82, 30, [some (.ref 0), some (.int v0), some (.int v1), some (.int v2)], [.int (-2)], 0, 0, (mSH, (mUp I 0 9 ((I 0 9) + 1)), L)) _
            refine mRt (r := (some (.int (-2)))) (h := (mSH, (mUp I 0 9 ((I 0 9) + 1)), L)) rfl (mRet_int rfl) ?_
            exact hq _ _ (mFr.up (by rfl) mFr.rf) ⟨hI.1, hI.2.1, hI.2.2.1, hI.2.2.2.1, hI.2.2.2.2.1, hI.2.2.2.2.2.1, (mRk.up hI.2.2.2.2.2.2 (by rfl) (by rfl))⟩ (if_neg (by have b0 : (v0).toInt = 0 := (by have z := of_decide_eq_true c0; rw [z]; rfl); have a0 := of_decide_eq_false c1; have a1 := of_decide_eq_false c2; have a2 := of_decide_eq_false c3; have a3 := of_decide_eq_true c4; simp only [Int32.lt_iff_toInt_lt, Int32.le_iff_toInt_le, ← Int32.toInt_inj, mLi0, mLi1, mLi2, mLi3, mLi4, mLi5, mLi6, mLi7, mLi8, mLi9, mLi10, mLi16, mLi32, mLi48, mLi57, mLi59, mLi65, mLi90, mLi97, mLi99, mLi120, mLi122, mLi127, mLi1584, mLi999999, mLim] at a0 a1 a2 a3 <;> omega)).symm (if_neg (by have b0 : (v0).toInt = 0 := (by have z := of_decide_eq_true c0; rw [z]; rfl); have a0 := of_decide_eq_false c1; have a1 := of_decide_eq_false c2; have a2 := of_decide_eq_false c3; have a3 := of_decide_eq_true c4; simp only [Int32.lt_iff_toInt_lt, Int32.le_iff_toInt_le, ← Int32.toInt_inj, mLi0, mLi1, mLi2, mLi3, mLi4, mLi5, mLi6, mLi7, mLi8, mLi9, mLi10, mLi16, mLi32, mLi48, mLi57, mLi59, mLi65, mLi90, mLi97, mLi99, mLi120, mLi122, mLi127, mLi1584, mLi999999, mLim] at a0 a1 a2 a3 <;> omega)).symm (kc_1 (by have b0 : (v0).toInt = 0 := (by have z := of_decide_eq_true c0; rw [z]; rfl); have a0 := of_decide_eq_false c1; have a1 := of_decide_eq_false c2; have a2 := of_decide_eq_false c3; have a3 := of_decide_eq_true c4; simp only [Int32.lt_iff_toInt_lt, Int32.le_iff_toInt_le, ← Int32.toInt_inj, mLi0, mLi1, mLi2, mLi3, mLi4, mLi5, mLi6, mLi7, mLi8, mLi9, mLi10, mLi16, mLi32, mLi48, mLi57, mLi59, mLi65, mLi90, mLi97, mLi99, mLi120, mLi122, mLi127, mLi1584, mLi999999, mLim] at a0 a1 a2 a3 <;> omega) (by rfl))
          · refine mB 2 (s2 := (d + 6, 109, 16, [some (.int v2)], [.int 1], 0, 0, (mSH, I, L))) rfl ?_
            refine mRt (r := (some (.int 1))) (h := (mSH, I, L)) rfl rfl ?_
            show mWP mTb_ mFT ro (d + 7, 82, 21, [some (.ref 0), some (.int v0), some (.int v1), some (.int v2)], [.int 1], 0, 0, (mSH, I, L)) _
            refine mBF (s3 := (d + 7, 82, 31, [some (.ref 0), some (.int v0), some (.int v1), some (.int v2)], [], 0, 0, (mSH, I, L))) rfl (by decide) ?_
            refine mB 5 (s2 := (d + 7, 82, 38, [some (.ref 0), some (.int v0), some (.int v1), some (.int v2)], [.int v2, .int v1, .int v0, .ref 6], 0, 0, (mSH, I, L))) rfl ?_
            refine mCall (s2 := (d + 6, 1, 0, [some (.ref 6), some (.int v0), some (.int v1), some (.int v2)], [], 0, 0, (mSH, I, L))) rfl ?_
            refine mB 1 (s2 := (d + 6, 1, 1, [some (.ref 6), some (.int v0), some (.int v1), some (.int v2)], [.int v0], 0, 0, (mSH, I, L))) rfl ?_
            refine mBT (s2 := (d + 6, 1, 4, [some (.ref 6), some (.int v0), some (.int v1), some (.int v2)], [], 0, 0, (mSH, I, L))) rfl (by first | (simp only [of_decide_eq_true c0]; first | decide | rfl) | decide | rfl) ?_
            refine mB 7 (s2 := (d + 6, 1, 27, [some (.ref 6), some (.int v0), some (.int v1), some (.int v2)], [], 0, 0, (mSH, (mUp (mUp I 6 0 v1) 6 1 v2), L))) rfl ?_
            refine mRt (r := none) (h := (mSH, (mUp (mUp I 6 0 v1) 6 1 v2), L)) rfl rfl ?_
            show mWP mTb_ mFT ro (d + 7, 82, 41, [some (.ref 0), some (.int v0), some (.int v1), some (.int v2)], [], 0, 0, (mSH, (mUp (mUp I 6 0 v1) 6 1 v2), L)) _
            refine mB 1 (s2 := (d + 7, 82, 42, [some (.ref 0), some (.int v0), some (.int v1), some (.int v2)], [.int 1], 0, 0, (mSH, (mUp (mUp I 6 0 v1) 6 1 v2), L))) rfl ?_
            refine mRt (r := (some (.int 1))) (h := (mSH, (mUp (mUp I 6 0 v1) 6 1 v2), L)) rfl (mRet_int rfl) ?_
            exact hq _ _ (mFr.up (by rfl) (mFr.up (by rfl) mFr.rf)) ⟨hI.1, hI.2.1, hI.2.2.1, hI.2.2.2.1, hI.2.2.2.2.1, hI.2.2.2.2.2.1, (mRk.up (mRk.up hI.2.2.2.2.2.2 (by rfl) (by rfl)) (by rfl) (by rfl))⟩ (if_pos (by have b0 : (v0).toInt = 0 := (by have z := of_decide_eq_true c0; rw [z]; rfl); have a0 := of_decide_eq_false c1; have a1 := of_decide_eq_false c2; have a2 := of_decide_eq_false c3; have a3 := of_decide_eq_false c4; simp only [Int32.lt_iff_toInt_lt, Int32.le_iff_toInt_le, ← Int32.toInt_inj, mLi0, mLi1, mLi2, mLi3, mLi4, mLi5, mLi6, mLi7, mLi8, mLi9, mLi10, mLi16, mLi32, mLi48, mLi57, mLi59, mLi65, mLi90, mLi97, mLi99, mLi120, mLi122, mLi127, mLi1584, mLi999999, mLim] at a0 a1 a2 a3 <;> omega)).symm (by unfold kBoF; rw [if_pos (by have b0 : (v0).toInt = 0 := (by have z := of_decide_eq_true c0; rw [z]; rfl); have a0 := of_decide_eq_false c1; have a1 := of_decide_eq_false c2; have a2 := of_decide_eq_false c3; have a3 := of_decide_eq_false c4; simp only [Int32.lt_iff_toInt_lt, Int32.le_iff_toInt_le, ← Int32.toInt_inj, mLi0, mLi1, mLi2, mLi3, mLi4, mLi5, mLi6, mLi7, mLi8, mLi9, mLi10, mLi16, mLi32, mLi48, mLi57, mLi59, mLi65, mLi90, mLi97, mLi99, mLi120, mLi122, mLi127, mLi1584, mLi999999, mLim] at a0 a1 a2 a3 <;> omega), if_pos (by have b0 : (v0).toInt = 0 := (by have z := of_decide_eq_true c0; rw [z]; rfl); have a0 := of_decide_eq_false c1; have a1 := of_decide_eq_false c2; have a2 := of_decide_eq_false c3; have a3 := of_decide_eq_false c4; simp only [Int32.lt_iff_toInt_lt, Int32.le_iff_toInt_le, ← Int32.toInt_inj, mLi0, mLi1, mLi2, mLi3, mLi4, mLi5, mLi6, mLi7, mLi8, mLi9, mLi10, mLi16, mLi32, mLi48, mLi57, mLi59, mLi65, mLi90, mLi97, mLi99, mLi120, mLi122, mLi127, mLi1584, mLi999999, mLim] at a0 a1 a2 a3 <;> omega), kPut_e, kPut_e]) (kc_0 (by have b0 : (v0).toInt = 0 := (by have z := of_decide_eq_true c0; rw [z]; rfl); have a0 := of_decide_eq_false c1; have a1 := of_decide_eq_false c2; have a2 := of_decide_eq_false c3; have a3 := of_decide_eq_false c4; simp only [Int32.lt_iff_toInt_lt, Int32.le_iff_toInt_le, ← Int32.toInt_inj, mLi0, mLi1, mLi2, mLi3, mLi4, mLi5, mLi6, mLi7, mLi8, mLi9, mLi10, mLi16, mLi32, mLi48, mLi57, mLi59, mLi65, mLi90, mLi97, mLi99, mLi120, mLi122, mLi127, mLi1584, mLi999999, mLim] at a0 a1 a2 a3 <;> omega) trivial (by rfl))
  · refine mB 2 (s2 := (d + 6, 108, 6, [some (.int v0)], [.int 1, .int v0], 0, 0, (mSH, I, L))) rfl ?_
    refine mBr (s2 := (d + 6, 108, 9, [some (.int v0)], [], 0, 0, (mSH, I, L))) (s3 := (d + 6, 108, 13, [some (.int v0)], [], 0, 0, (mSH, I, L))) rfl (fun c1 => ?_) (fun c1 => ?_)
    · refine mB 2 (s2 := (d + 6, 108, 14, [some (.int v0)], [.int 1], 0, 0, (mSH, I, L))) rfl ?_
      refine mRt (r := (some (.int 1))) (h := (mSH, I, L)) rfl rfl ?_
      show mWP mTb_ mFT ro (d + 7, 82, 4, [some (.ref 0), some (.int v0), some (.int v1), some (.int v2)], [.int 1], 0, 0, (mSH, I, L)) _
      refine mBF (s3 := (d + 7, 82, 7, [some (.ref 0), some (.int v0), some (.int v1), some (.int v2)], [], 0, 0, (mSH, I, L))) rfl (by decide) ?_
      refine mB 1 (s2 := (d + 7, 82, 8, [some (.ref 0), some (.int v0), some (.int v1), some (.int v2)], [.int v1], 0, 0, (mSH, I, L))) rfl ?_
      refine mBr (s2 := (d + 7, 82, 24, [some (.ref 0), some (.int v0), some (.int v1), some (.int v2)], [], 0, 0, (mSH, I, L))) (s3 := (d + 7, 82, 11, [some (.ref 0), some (.int v0), some (.int v1), some (.int v2)], [], 0, 0, (mSH, I, L))) rfl (fun c2 => ?_) (fun c2 => ?_)
      · refine mB 2 (s2 := (d + 7, 82, 27, [some (.ref 0), some (.int v0), some (.int v1), some (.int v2)], [.int (-2), .ref 0], 0, 0, (mSH, I, L))) rfl ?_
        refine mCall (s2 := (d + 6, 103, 0, [some (.ref 0), some (.int (-2))], [], 0, 0, (mSH, I, L))) rfl ?_
        refine mB 2 (s2 := (d + 6, 103, 3, [some (.ref 0), some (.int (-2))], [.int (-2), .int (-2)], 0, 0, (mSH, I, L))) rfl ?_
        refine mBT (s2 := (d + 6, 103, 6, [some (.ref 0), some (.int (-2))], [], 0, 0, (mSH, I, L))) rfl (by decide) ?_
        refine mB 8 (s2 := (d + 6, 103, 49, [some (.ref 0), some (.int (-2))], [.int (-2)], 0, 0, (mSH, (mUp I 0 9 ((I 0 9) + 1)), L))) rfl ?_
        refine mRt (r := (some (.int (-2)))) (h := (mSH, (mUp I 0 9 ((I 0 9) + 1)), L)) rfl (mRet_int rfl) ?_
        show mWP mTb_ mFT ro (d + 7, 82, 30, [some (.ref 0), some (.int v0), some (.int v1), some (.int v2)], [.int (-2)], 0, 0, (mSH, (mUp I 0 9 ((I 0 9) + 1)), L)) _
        refine mRt (r := (some (.int (-2)))) (h := (mSH, (mUp I 0 9 ((I 0 9) + 1)), L)) rfl (mRet_int rfl) ?_
        exact hq _ _ (mFr.up (by rfl) mFr.rf) ⟨hI.1, hI.2.1, hI.2.2.1, hI.2.2.2.1, hI.2.2.2.2.1, hI.2.2.2.2.2.1, (mRk.up hI.2.2.2.2.2.2 (by rfl) (by rfl))⟩ (if_neg (by have b0 : (v0).toInt = 1 := (by have z := of_decide_eq_true c1; rw [z]; rfl); have a0 := of_decide_eq_false c0; have a1 := of_decide_eq_true c2; simp only [Int32.lt_iff_toInt_lt, Int32.le_iff_toInt_le, ← Int32.toInt_inj, mLi0, mLi1, mLi2, mLi3, mLi4, mLi5, mLi6, mLi7, mLi8, mLi9, mLi10, mLi16, mLi32, mLi48, mLi57, mLi59, mLi65, mLi90, mLi97, mLi99, mLi120, mLi122, mLi127, mLi1584, mLi999999, mLim] at a0 a1 <;> omega)).symm (if_neg (by have b0 : (v0).toInt = 1 := (by have z := of_decide_eq_true c1; rw [z]; rfl); have a0 := of_decide_eq_false c0; have a1 := of_decide_eq_true c2; simp only [Int32.lt_iff_toInt_lt, Int32.le_iff_toInt_le, ← Int32.toInt_inj, mLi0, mLi1, mLi2, mLi3, mLi4, mLi5, mLi6, mLi7, mLi8, mLi9, mLi10, mLi16, mLi32, mLi48, mLi57, mLi59, mLi65, mLi90, mLi97, mLi99, mLi120, mLi122, mLi127, mLi1584, mLi999999, mLim] at a0 a1 <;> omega)).symm (kc_1 (by have b0 : (v0).toInt = 1 := (by have z := of_decide_eq_true c1; rw [z]; rfl); have a0 := of_decide_eq_false c0; have a1 := of_decide_eq_true c2; simp only [Int32.lt_iff_toInt_lt, Int32.le_iff_toInt_le, ← Int32.toInt_inj, mLi0, mLi1, mLi2, mLi3, mLi4, mLi5, mLi6, mLi7, mLi8, mLi9, mLi10, mLi16, mLi32, mLi48, mLi57, mLi59, mLi65, mLi90, mLi97, mLi99, mLi120, mLi122, mLi127, mLi1584, mLi999999, mLim] at a0 a1 <;> omega) (by rfl))
      · refine mB 2 (s2 := (d + 7, 82, 14, [some (.ref 0), some (.int v0), some (.int v1), some (.int v2)], [.int 99, .int v1], 0, 0, (mSH, I, L))) rfl ?_
        refine mBr (s2 := (d + 7, 82, 24, [some (.ref 0), some (.int v0), some (.int v1), some (.int v2)], [], 0, 0, (mSH, I, L))) (s3 := (d + 7, 82, 17, [some (.ref 0), some (.int v0), some (.int v1), some (.int v2)], [], 0, 0, (mSH, I, L))) rfl (fun c3 => ?_) (fun c3 => ?_)
        · refine mB 2 (s2 := (d + 7, 82, 27, [some (.ref 0), some (.int v0), some (.int v1), some (.int v2)], [.int (-2), .ref 0], 0, 0, (mSH, I, L))) rfl ?_
          refine mCall (s2 := (d + 6, 103, 0, [some (.ref 0), some (.int (-2))], [], 0, 0, (mSH, I, L))) rfl ?_
          refine mB 2 (s2 := (d + 6, 103, 3, [some (.ref 0), some (.int (-2))], [.int (-2), .int (-2)], 0, 0, (mSH, I, L))) rfl ?_
          refine mBT (s2 := (d + 6, 103, 6, [some (.ref 0), some (.int (-2))], [], 0, 0, (mSH, I, L))) rfl (by decide) ?_
          refine mB 8 (s2 := (d + 6, 103, 49, [some (.ref 0), some (.int (-2))], [.int (-2)], 0, 0, (mSH, (mUp I 0 9 ((I 0 9) + 1)), L))) rfl ?_
          refine mRt (r := (some (.int (-2)))) (h := (mSH, (mUp I 0 9 ((I 0 9) + 1)), L)) rfl (mRet_int rfl) ?_
          show mWP mTb_ mFT ro (d + 7, 82, 30, [some (.ref 0), some (.int v0), some (.int v1), some (.int v2)], [.int (-2)], 0, 0, (mSH, (mUp I 0 9 ((I 0 9) + 1)), L)) _
          refine mRt (r := (some (.int (-2)))) (h := (mSH, (mUp I 0 9 ((I 0 9) + 1)), L)) rfl (mRet_int rfl) ?_
          exact hq _ _ (mFr.up (by rfl) mFr.rf) ⟨hI.1, hI.2.1, hI.2.2.1, hI.2.2.2.1, hI.2.2.2.2.1, hI.2.2.2.2.2.1, (mRk.up hI.2.2.2.2.2.2 (by rfl) (by rfl))⟩ (if_neg (by have b0 : (v0).toInt = 1 := (by have z := of_decide_eq_true c1; rw [z]; rfl); have a0 := of_decide_eq_false c0; have a1 := of_decide_eq_false c2; have a2 := of_decide_eq_true c3; simp only [Int32.lt_iff_toInt_lt, Int32.le_iff_toInt_le, ← Int32.toInt_inj, mLi0, mLi1, mLi2, mLi3, mLi4, mLi5, mLi6, mLi7, mLi8, mLi9, mLi10, mLi16, mLi32, mLi48, mLi57, mLi59, mLi65, mLi90, mLi97, mLi99, mLi120, mLi122, mLi127, mLi1584, mLi999999, mLim] at a0 a1 a2 <;> omega)).symm (if_neg (by have b0 : (v0).toInt = 1 := (by have z := of_decide_eq_true c1; rw [z]; rfl); have a0 := of_decide_eq_false c0; have a1 := of_decide_eq_false c2; have a2 := of_decide_eq_true c3; simp only [Int32.lt_iff_toInt_lt, Int32.le_iff_toInt_le, ← Int32.toInt_inj, mLi0, mLi1, mLi2, mLi3, mLi4, mLi5, mLi6, mLi7, mLi8, mLi9, mLi10, mLi16, mLi32, mLi48, mLi57, mLi59, mLi65, mLi90, mLi97, mLi99, mLi120, mLi122, mLi127, mLi1584, mLi999999, mLim] at a0 a1 a2 <;> omega)).symm (kc_1 (by have b0 : (v0).toInt = 1 := (by have z := of_decide_eq_true c1; rw [z]; rfl); have a0 := of_decide_eq_false c0; have a1 := of_decide_eq_false c2; have a2 := of_decide_eq_true c3; simp only [Int32.lt_iff_toInt_lt, Int32.le_iff_toInt_le, ← Int32.toInt_inj, mLi0, mLi1, mLi2, mLi3, mLi4, mLi5, mLi6, mLi7, mLi8, mLi9, mLi10, mLi16, mLi32, mLi48, mLi57, mLi59, mLi65, mLi90, mLi97, mLi99, mLi120, mLi122, mLi127, mLi1584, mLi999999, mLim] at a0 a1 a2 <;> omega) (by rfl))
        · refine mB 1 (s2 := (d + 7, 82, 18, [some (.ref 0), some (.int v0), some (.int v1), some (.int v2)], [.int v2], 0, 0, (mSH, I, L))) rfl ?_
          refine mCall (s2 := (d + 6, 109, 0, [some (.int v2)], [], 0, 0, (mSH, I, L))) rfl ?_
          refine mB 2 (s2 := (d + 6, 109, 2, [some (.int v2)], [.int 1, .int v2], 0, 0, (mSH, I, L))) rfl ?_
          refine mBr (s2 := (d + 6, 109, 15, [some (.int v2)], [], 0, 0, (mSH, I, L))) (s3 := (d + 6, 109, 5, [some (.int v2)], [], 0, 0, (mSH, I, L))) rfl (fun c4 => ?_) (fun c4 => ?_)
          · refine mB 1 (s2 := (d + 6, 109, 16, [some (.int v2)], [.int 0], 0, 0, (mSH, I, L))) rfl ?_
            refine mRt (r := (some (.int 0))) (h := (mSH, I, L)) rfl rfl ?_
            show mWP mTb_ mFT ro (d + 7, 82, 21, [some (.ref 0), some (.int v0), some (.int v1), some (.int v2)], [.int 0], 0, 0, (mSH, I, L)) _
            refine mBT (s2 := (d + 7, 82, 24, [some (.ref 0), some (.int v0), some (.int v1), some (.int v2)], [], 0, 0, (mSH, I, L))) rfl (by decide) ?_
            refine mB 2 (s2 := (d + 7, 82, 27, [some (.ref 0), some (.int v0), some (.int v1), some (.int v2)], [.int (-2), .ref 0], 0, 0, (mSH, I, L))) rfl ?_
            refine mCall (s2 := (d + 6, 103, 0, [some (.ref 0), some (.int (-2))], [], 0, 0, (mSH, I, L))) rfl ?_
            refine mB 2 (s2 := (d + 6, 103, 3, [some (.ref 0), some (.int (-2))], [.int (-2), .int (-2)], 0, 0, (mSH, I, L))) rfl ?_
            refine mBT (s2 := (d + 6, 103, 6, [some (.ref 0), some (.int (-2))], [], 0, 0, (mSH, I, L))) rfl (by decide) ?_
            refine mB 8 (s2 := (d + 6, 103, 49, [some (.ref 0), some (.int (-2))], [.int (-2)], 0, 0, (mSH, (mUp I 0 9 ((I 0 9) + 1)), L))) rfl ?_
            refine mRt (r := (some (.int (-2)))) (h := (mSH, (mUp I 0 9 ((I 0 9) + 1)), L)) rfl (mRet_int rfl) ?_
            show mWP mTb_ mFT ro (d + 7, 82, 30, [some (.ref 0), some (.int v0), some (.int v1), some (.int v2)], [.int (-2)], 0, 0, (mSH, (mUp I 0 9 ((I 0 9) + 1)), L)) _
            refine mRt (r := (some (.int (-2)))) (h := (mSH, (mUp I 0 9 ((I 0 9) + 1)), L)) rfl (mRet_int rfl) ?_
            exact hq _ _ (mFr.up (by rfl) mFr.rf) ⟨hI.1, hI.2.1, hI.2.2.1, hI.2.2.2.1, hI.2.2.2.2.1, hI.2.2.2.2.2.1, (mRk.up hI.2.2.2.2.2.2 (by rfl) (by rfl))⟩ (if_neg (by have b0 : (v0).toInt = 1 := (by have z := of_decide_eq_true c1; rw [z]; rfl); have a0 := of_decide_eq_false c0; have a1 := of_decide_eq_false c2; have a2 := of_decide_eq_false c3; have a3 := of_decide_eq_true c4; simp only [Int32.lt_iff_toInt_lt, Int32.le_iff_toInt_le, ← Int32.toInt_inj, mLi0, mLi1, mLi2, mLi3, mLi4, mLi5, mLi6, mLi7, mLi8, mLi9, mLi10, mLi16, mLi32, mLi48, mLi57, mLi59, mLi65, mLi90, mLi97, mLi99, mLi120, mLi122, mLi127, mLi1584, mLi999999, mLim] at a0 a1 a2 a3 <;> omega)).symm (if_neg (by have b0 : (v0).toInt = 1 := (by have z := of_decide_eq_true c1; rw [z]; rfl); have a0 := of_decide_eq_false c0; have a1 := of_decide_eq_false c2; have a2 := of_decide_eq_false c3; have a3 := of_decide_eq_true c4; simp only [Int32.lt_iff_toInt_lt, Int32.le_iff_toInt_le, ← Int32.toInt_inj, mLi0, mLi1, mLi2, mLi3, mLi4, mLi5, mLi6, mLi7, mLi8, mLi9, mLi10, mLi16, mLi32, mLi48, mLi57, mLi59, mLi65, mLi90, mLi97, mLi99, mLi120, mLi122, mLi127, mLi1584, mLi999999, mLim] at a0 a1 a2 a3 <;> omega)).symm (kc_1 (by have b0 : (v0).toInt = 1 := (by have z := of_decide_eq_true c1; rw [z]; rfl); have a0 := of_decide_eq_false c0; have a1 := of_decide_eq_false c2; have a2 := of_decide_eq_false c3; have a3 := of_decide_eq_true c4; simp only [Int32.lt_iff_toInt_lt, Int32.le_iff_toInt_le, ← Int32.toInt_inj, mLi0, mLi1, mLi2, mLi3, mLi4, mLi5, mLi6, mLi7, mLi8, mLi9, mLi10, mLi16, mLi32, mLi48, mLi57, mLi59, mLi65, mLi90, mLi97, mLi99, mLi120, mLi122, mLi127, mLi1584, mLi999999, mLim] at a0 a1 a2 a3 <;> omega) (by rfl))
          · refine mB 2 (s2 := (d + 6, 109, 8, [some (.int v2)], [.int 99, .int v2], 0, 0, (mSH, I, L))) rfl ?_
            refine mBr (s2 := (d + 6, 109, 15, [some (.int v2)], [], 0, 0, (mSH, I, L))) (s3 := (d + 6, 109, 11, [some (.int v2)], [], 0, 0, (mSH, I, L))) rfl (fun c5 => ?_) (fun c5 => ?_)
            · refine mB 1 (s2 := (d + 6, 109, 16, [some (.int v2)], [.int 0], 0, 0, (mSH, I, L))) rfl ?_
              refine mRt (r := (some (.int 0))) (h := (mSH, I, L)) rfl rfl ?_
              show mWP mTb_ mFT ro (d + 7, 82, 21, [some (.ref 0), some (.int v0), some (.int v1), some (.int v2)], [.int 0], 0, 0, (mSH, I, L)) _
              refine mBT (s2 := (d + 7, 82, 24, [some (.ref 0), some (.int v0), some (.int v1), some (.int v2)], [], 0, 0, (mSH, I, L))) rfl (by decide) ?_
              refine mB 2 (s2 := (d + 7, 82, 27, [some (.ref 0), some (.int v0), some (.int v1), some (.int v2)], [.int (-2), .ref 0], 0, 0, (mSH, I, L))) rfl ?_
              refine mCall (s2 := (d + 6, 103, 0, [some (.ref 0), some (.int (-2))], [], 0, 0, (mSH, I, L))) rfl ?_
              refine mB 2 (s2 := (d + 6, 103, 3, [some (.ref 0), some (.int (-2))], [.int (-2), .int (-2)], 0, 0, (mSH, I, L))) rfl ?_
              refine mBT (s2 := (d + 6, 103, 6, [some (.ref 0), some (.int (-2))], [], 0, 0, (mSH, I, L))) rfl (by decide) ?_
              refine mB 8 (s2 := (d + 6, 103, 49, [some (.ref 0), some (.int (-2))], [.int (-2)], 0, 0, (mSH, (mUp I 0 9 ((I 0 9) + 1)), L))) rfl ?_
              refine mRt (r := (some (.int (-2)))) (h := (mSH, (mUp I 0 9 ((I 0 9) + 1)), L)) rfl (mRet_int rfl) ?_
              show mWP mTb_ mFT ro (d + 7, 82, 30, [some (.ref 0), some (.int v0), some (.int v1), some (.int v2)], [.int (-2)], 0, 0, (mSH, (mUp I 0 9 ((I 0 9) + 1)), L)) _
              refine mRt (r := (some (.int (-2)))) (h := (mSH, (mUp I 0 9 ((I 0 9) + 1)), L)) rfl (mRet_int rfl) ?_
              exact hq _ _ (mFr.up (by rfl) mFr.rf) ⟨hI.1, hI.2.1, hI.2.2.1, hI.2.2.2.1, hI.2.2.2.2.1, hI.2.2.2.2.2.1, (mRk.up hI.2.2.2.2.2.2 (by rfl) (by rfl))⟩ (if_neg (by have b0 : (v0).toInt = 1 := (by have z := of_decide_eq_true c1; rw [z]; rfl); have a0 := of_decide_eq_false c0; have a1 := of_decide_eq_false c2; have a2 := of_decide_eq_false c3; have a3 := of_decide_eq_false c4; have a4 := of_decide_eq_true c5; simp only [Int32.lt_iff_toInt_lt, Int32.le_iff_toInt_le, ← Int32.toInt_inj, mLi0, mLi1, mLi2, mLi3, mLi4, mLi5, mLi6, mLi7, mLi8, mLi9, mLi10, mLi16, mLi32, mLi48, mLi57, mLi59, mLi65, mLi90, mLi97, mLi99, mLi120, mLi122, mLi127, mLi1584, mLi999999, mLim] at a0 a1 a2 a3 a4 <;> omega)).symm (if_neg (by have b0 : (v0).toInt = 1 := (by have z := of_decide_eq_true c1; rw [z]; rfl); have a0 := of_decide_eq_false c0; have a1 := of_decide_eq_false c2; have a2 := of_decide_eq_false c3; have a3 := of_decide_eq_false c4; have a4 := of_decide_eq_true c5; simp only [Int32.lt_iff_toInt_lt, Int32.le_iff_toInt_le, ← Int32.toInt_inj, mLi0, mLi1, mLi2, mLi3, mLi4, mLi5, mLi6, mLi7, mLi8, mLi9, mLi10, mLi16, mLi32, mLi48, mLi57, mLi59, mLi65, mLi90, mLi97, mLi99, mLi120, mLi122, mLi127, mLi1584, mLi999999, mLim] at a0 a1 a2 a3 a4 <;> omega)).symm (kc_1 (by have b0 : (v0).toInt = 1 := (by have z := of_decide_eq_true c1; rw [z]; rfl); have a0 := of_decide_eq_false c0; have a1 := of_decide_eq_false c2; have a2 := of_decide_eq_false c3; have a3 := of_decide_eq_false c4; have a4 := of_decide_eq_true c5; simp only [Int32.lt_iff_toInt_lt, Int32.le_iff_toInt_le, ← Int32.toInt_inj, mLi0, mLi1, mLi2, mLi3, mLi4, mLi5, mLi6, mLi7, mLi8, mLi9, mLi10, mLi16, mLi32, mLi48, mLi57, mLi59, mLi65, mLi90, mLi97, mLi99, mLi120, mLi122, mLi127, mLi1584, mLi999999, mLim] at a0 a1 a2 a3 a4 <;> omega) (by rfl))
            · refine mB 2 (s2 := (d + 6, 109, 16, [some (.int v2)], [.int 1], 0, 0, (mSH, I, L))) rfl ?_
              refine mRt (r := (some (.int 1))) (h := (mSH, I, L)) rfl rfl ?_
              show mWP mTb_ mFT ro (d + 7, 82, 21, [some (.ref 0), some (.int v0), some (.int v1), some (.int v2)], [.int 1], 0, 0, (mSH, I, L)) _
              refine mBF (s3 := (d + 7, 82, 31, [some (.ref 0), some (.int v0), some (.int v1), some (.int v2)], [], 0, 0, (mSH, I, L))) rfl (by decide) ?_
              refine mB 5 (s2 := (d + 7, 82, 38, [some (.ref 0), some (.int v0), some (.int v1), some (.int v2)], [.int v2, .int v1, .int v0, .ref 6], 0, 0, (mSH, I, L))) rfl ?_
              refine mCall (s2 := (d + 6, 1, 0, [some (.ref 6), some (.int v0), some (.int v1), some (.int v2)], [], 0, 0, (mSH, I, L))) rfl ?_
              refine mB 1 (s2 := (d + 6, 1, 1, [some (.ref 6), some (.int v0), some (.int v1), some (.int v2)], [.int v0], 0, 0, (mSH, I, L))) rfl ?_
              refine mBF (s3 := (d + 6, 1, 17, [some (.ref 6), some (.int v0), some (.int v1), some (.int v2)], [], 0, 0, (mSH, I, L))) rfl (by first | (simp only [of_decide_eq_true c1]; first | decide | rfl) | decide | rfl) ?_
              refine mB 6 (s2 := (d + 6, 1, 27, [some (.ref 6), some (.int v0), some (.int v1), some (.int v2)], [], 0, 0, (mSH, (mUp (mUp I 6 2 v1) 6 3 v2), L))) rfl ?_
              refine mRt (r := none) (h := (mSH, (mUp (mUp I 6 2 v1) 6 3 v2), L)) rfl rfl ?_
              show mWP mTb_ mFT ro (d + 7, 82, 41, [some (.ref 0), some (.int v0), some (.int v1), some (.int v2)], [], 0, 0, (mSH, (mUp (mUp I 6 2 v1) 6 3 v2), L)) _
              refine mB 1 (s2 := (d + 7, 82, 42, [some (.ref 0), some (.int v0), some (.int v1), some (.int v2)], [.int 1], 0, 0, (mSH, (mUp (mUp I 6 2 v1) 6 3 v2), L))) rfl ?_
              refine mRt (r := (some (.int 1))) (h := (mSH, (mUp (mUp I 6 2 v1) 6 3 v2), L)) rfl (mRet_int rfl) ?_
              exact hq _ _ (mFr.up (by rfl) (mFr.up (by rfl) mFr.rf)) ⟨hI.1, hI.2.1, hI.2.2.1, hI.2.2.2.1, hI.2.2.2.2.1, hI.2.2.2.2.2.1, (mRk.up (mRk.up hI.2.2.2.2.2.2 (by rfl) (by rfl)) (by rfl) (by rfl))⟩ (if_pos (by have b0 : (v0).toInt = 1 := (by have z := of_decide_eq_true c1; rw [z]; rfl); have a0 := of_decide_eq_false c0; have a1 := of_decide_eq_false c2; have a2 := of_decide_eq_false c3; have a3 := of_decide_eq_false c4; have a4 := of_decide_eq_false c5; simp only [Int32.lt_iff_toInt_lt, Int32.le_iff_toInt_le, ← Int32.toInt_inj, mLi0, mLi1, mLi2, mLi3, mLi4, mLi5, mLi6, mLi7, mLi8, mLi9, mLi10, mLi16, mLi32, mLi48, mLi57, mLi59, mLi65, mLi90, mLi97, mLi99, mLi120, mLi122, mLi127, mLi1584, mLi999999, mLim] at a0 a1 a2 a3 a4 <;> omega)).symm (by unfold kBoF; rw [if_pos (by have b0 : (v0).toInt = 1 := (by have z := of_decide_eq_true c1; rw [z]; rfl); have a0 := of_decide_eq_false c0; have a1 := of_decide_eq_false c2; have a2 := of_decide_eq_false c3; have a3 := of_decide_eq_false c4; have a4 := of_decide_eq_false c5; simp only [Int32.lt_iff_toInt_lt, Int32.le_iff_toInt_le, ← Int32.toInt_inj, mLi0, mLi1, mLi2, mLi3, mLi4, mLi5, mLi6, mLi7, mLi8, mLi9, mLi10, mLi16, mLi32, mLi48, mLi57, mLi59, mLi65, mLi90, mLi97, mLi99, mLi120, mLi122, mLi127, mLi1584, mLi999999, mLim] at a0 a1 a2 a3 a4 <;> omega), if_neg (by have b0 : (v0).toInt = 1 := (by have z := of_decide_eq_true c1; rw [z]; rfl); have a0 := of_decide_eq_false c0; have a1 := of_decide_eq_false c2; have a2 := of_decide_eq_false c3; have a3 := of_decide_eq_false c4; have a4 := of_decide_eq_false c5; simp only [Int32.lt_iff_toInt_lt, Int32.le_iff_toInt_le, ← Int32.toInt_inj, mLi0, mLi1, mLi2, mLi3, mLi4, mLi5, mLi6, mLi7, mLi8, mLi9, mLi10, mLi16, mLi32, mLi48, mLi57, mLi59, mLi65, mLi90, mLi97, mLi99, mLi120, mLi122, mLi127, mLi1584, mLi999999, mLim] at a0 a1 a2 a3 a4 <;> omega), kPut_e, kPut_e]) (kc_0 (by have b0 : (v0).toInt = 1 := (by have z := of_decide_eq_true c1; rw [z]; rfl); have a0 := of_decide_eq_false c0; have a1 := of_decide_eq_false c2; have a2 := of_decide_eq_false c3; have a3 := of_decide_eq_false c4; have a4 := of_decide_eq_false c5; simp only [Int32.lt_iff_toInt_lt, Int32.le_iff_toInt_le, ← Int32.toInt_inj, mLi0, mLi1, mLi2, mLi3, mLi4, mLi5, mLi6, mLi7, mLi8, mLi9, mLi10, mLi16, mLi32, mLi48, mLi57, mLi59, mLi65, mLi90, mLi97, mLi99, mLi120, mLi122, mLi127, mLi1584, mLi999999, mLim] at a0 a1 a2 a3 a4 <;> omega) trivial (by rfl))
    · refine mB 1 (s2 := (d + 6, 108, 14, [some (.int v0)], [.int 0], 0, 0, (mSH, I, L))) rfl ?_
      refine mRt (r := (some (.int 0))) (h := (mSH, I, L)) rfl rfl ?_
      show mWP mTb_ mFT ro (d + 7, 82, 4, [some (.ref 0), some (.int v0), some (.int v1), some (.int v2)], [.int 0], 0, 0, (mSH, I, L)) _
      refine mBT (s2 := (d + 7, 82, 24, [some (.ref 0), some (.int v0), some (.int v1), some (.int v2)], [], 0, 0, (mSH, I, L))) rfl (by decide) ?_
      refine mB 2 (s2 := (d + 7, 82, 27, [some (.ref 0), some (.int v0), some (.int v1), some (.int v2)], [.int (-2), .ref 0], 0, 0, (mSH, I, L))) rfl ?_
      refine mCall (s2 := (d + 6, 103, 0, [some (.ref 0), some (.int (-2))], [], 0, 0, (mSH, I, L))) rfl ?_
      refine mB 2 (s2 := (d + 6, 103, 3, [some (.ref 0), some (.int (-2))], [.int (-2), .int (-2)], 0, 0, (mSH, I, L))) rfl ?_
      refine mBT (s2 := (d + 6, 103, 6, [some (.ref 0), some (.int (-2))], [], 0, 0, (mSH, I, L))) rfl (by decide) ?_
      refine mB 8 (s2 := (d + 6, 103, 49, [some (.ref 0), some (.int (-2))], [.int (-2)], 0, 0, (mSH, (mUp I 0 9 ((I 0 9) + 1)), L))) rfl ?_
      refine mRt (r := (some (.int (-2)))) (h := (mSH, (mUp I 0 9 ((I 0 9) + 1)), L)) rfl (mRet_int rfl) ?_
      show mWP mTb_ mFT ro (d + 7, 82, 30, [some (.ref 0), some (.int v0), some (.int v1), some (.int v2)], [.int (-2)], 0, 0, (mSH, (mUp I 0 9 ((I 0 9) + 1)), L)) _
      refine mRt (r := (some (.int (-2)))) (h := (mSH, (mUp I 0 9 ((I 0 9) + 1)), L)) rfl (mRet_int rfl) ?_
      exact hq _ _ (mFr.up (by rfl) mFr.rf) ⟨hI.1, hI.2.1, hI.2.2.1, hI.2.2.2.1, hI.2.2.2.2.1, hI.2.2.2.2.2.1, (mRk.up hI.2.2.2.2.2.2 (by rfl) (by rfl))⟩ (if_neg (by have a0 := of_decide_eq_false c0; have a1 := of_decide_eq_false c1; simp only [Int32.lt_iff_toInt_lt, Int32.le_iff_toInt_le, ← Int32.toInt_inj, mLi0, mLi1, mLi2, mLi3, mLi4, mLi5, mLi6, mLi7, mLi8, mLi9, mLi10, mLi16, mLi32, mLi48, mLi57, mLi59, mLi65, mLi90, mLi97, mLi99, mLi120, mLi122, mLi127, mLi1584, mLi999999, mLim] at a0 a1 <;> omega)).symm (if_neg (by have a0 := of_decide_eq_false c0; have a1 := of_decide_eq_false c1; simp only [Int32.lt_iff_toInt_lt, Int32.le_iff_toInt_le, ← Int32.toInt_inj, mLi0, mLi1, mLi2, mLi3, mLi4, mLi5, mLi6, mLi7, mLi8, mLi9, mLi10, mLi16, mLi32, mLi48, mLi57, mLi59, mLi65, mLi90, mLi97, mLi99, mLi120, mLi122, mLi127, mLi1584, mLi999999, mLim] at a0 a1 <;> omega)).symm (kc_1 (by have a0 := of_decide_eq_false c0; have a1 := of_decide_eq_false c1; simp only [Int32.lt_iff_toInt_lt, Int32.le_iff_toInt_le, ← Int32.toInt_inj, mLi0, mLi1, mLi2, mLi3, mLi4, mLi5, mLi6, mLi7, mLi8, mLi9, mLi10, mLi16, mLi32, mLi48, mLi57, mLi59, mLi65, mLi90, mLi97, mLi99, mLi120, mLi122, mLi127, mLi1584, mLi999999, mLim] at a0 a1 <;> omega) (by rfl))
theorem z_draw {ro : Nat → Nat × (Nat → Int32)} {Q : mPo} {d : Nat} {I : Nat → Nat → Int32} {L : Nat → Nat → Int64} {v0 v1 : Int32} (hI : mIC I) (hq : ∀ r I1, mFr [0, 1, 2, 3, 4, 5] I I1 → mIC I1 → r = mDrR v0 v1 → kDrw v0 v1 (I 3) (I1 3) (I 5) (I1 5) (I 2 1) (I1 2 1) (I 4 1) (I1 4 1) (I 1 2) (I1 1 2) → kC (cdN (kDk v0 v1) True) I I1 → Q (some (.int r)) (mSH, I1, L))   : mWP mTb_ mFT ro (d + 7, 81, 0, [some (.ref 0), some (.int v0), some (.int v1)], [], 0, 0, (mSH, I, L)) Q := by
  refine mB 1 (s2 := (d + 7, 81, 1, [some (.ref 0), some (.int v0), some (.int v1)], [.int v0], 0, 0, (mSH, I, L))) rfl ?_
  refine mBr (s2 := (d + 7, 81, 21, [some (.ref 0), some (.int v0), some (.int v1)], [], 0, 0, (mSH, I, L))) (s3 := (d + 7, 81, 4, [some (.ref 0), some (.int v0), some (.int v1)], [], 0, 0, (mSH, I, L))) rfl (fun c0 => ?_) (fun c0 => ?_)
  · refine mB 2 (s2 := (d + 7, 81, 24, [some (.ref 0), some (.int v0), some (.int v1)], [.int (-2), .ref 0], 0, 0, (mSH, I, L))) rfl ?_
    refine mCall (s2 := (d + 6, 103, 0, [some (.ref 0), some (.int (-2))], [], 0, 0, (mSH, I, L))) rfl ?_
    refine mB 2 (s2 := (d + 6, 103, 3, [some (.ref 0), some (.int (-2))], [.int (-2), .int (-2)], 0, 0, (mSH, I, L))) rfl ?_
    refine mBT (s2 := (d + 6, 103, 6, [some (.ref 0), some (.int (-2))], [], 0, 0, (mSH, I, L))) rfl (by decide) ?_
    refine mB 8 (s2 := (d + 6, 103, 49, [some (.ref 0), some (.int (-2))], [.int (-2)], 0, 0, (mSH, (mUp I 0 9 ((I 0 9) + 1)), L))) rfl ?_
    refine mRt (r := (some (.int (-2)))) (h := (mSH, (mUp I 0 9 ((I 0 9) + 1)), L)) rfl (mRet_int rfl) ?_
    show mWP mTb_ mFT ro (d + 7, 81, 27, [some (.ref 0), some (.int v0), some (.int v1)], [.int (-2)], 0, 0, (mSH, (mUp I 0 9 ((I 0 9) + 1)), L)) _
    refine mRt (r := (some (.int (-2)))) (h := (mSH, (mUp I 0 9 ((I 0 9) + 1)), L)) rfl (mRet_int rfl) ?_
    exact hq _ _ (mFr.up (by rfl) mFr.rf) ⟨hI.1, hI.2.1, hI.2.2.1, hI.2.2.2.1, hI.2.2.2.2.1, hI.2.2.2.2.2.1, (mRk.up hI.2.2.2.2.2.2 (by rfl) (by rfl))⟩ (if_neg (by have a0 := of_decide_eq_true c0; simp only [Int32.lt_iff_toInt_lt, Int32.le_iff_toInt_le, ← Int32.toInt_inj, mLi0, mLi1, mLi2, mLi3, mLi4, mLi5, mLi6, mLi7, mLi8, mLi9, mLi10, mLi16, mLi32, mLi48, mLi57, mLi59, mLi65, mLi90, mLi97, mLi99, mLi120, mLi122, mLi127, mLi1584, mLi999999, mLim] at a0 <;> omega)).symm (kDrw_no (by have a0 := of_decide_eq_true c0; simp only [Int32.lt_iff_toInt_lt, Int32.le_iff_toInt_le, ← Int32.toInt_inj, mLi0, mLi1, mLi2, mLi3, mLi4, mLi5, mLi6, mLi7, mLi8, mLi9, mLi10, mLi16, mLi32, mLi48, mLi57, mLi59, mLi65, mLi90, mLi97, mLi99, mLi120, mLi122, mLi127, mLi1584, mLi999999, mLim] at a0 <;> omega)) (kc_1 (by have a0 := of_decide_eq_true c0; simp only [Int32.lt_iff_toInt_lt, Int32.le_iff_toInt_le, ← Int32.toInt_inj, mLi0, mLi1, mLi2, mLi3, mLi4, mLi5, mLi6, mLi7, mLi8, mLi9, mLi10, mLi16, mLi32, mLi48, mLi57, mLi59, mLi65, mLi90, mLi97, mLi99, mLi120, mLi122, mLi127, mLi1584, mLi999999, mLim] at a0 <;> omega) (by rfl))
  · refine mB 2 (s2 := (d + 7, 81, 7, [some (.ref 0), some (.int v0), some (.int v1)], [.int 999999, .int v0], 0, 0, (mSH, I, L))) rfl ?_
    refine mBr (s2 := (d + 7, 81, 21, [some (.ref 0), some (.int v0), some (.int v1)], [], 0, 0, (mSH, I, L))) (s3 := (d + 7, 81, 10, [some (.ref 0), some (.int v0), some (.int v1)], [], 0, 0, (mSH, I, L))) rfl (fun c1 => ?_) (fun c1 => ?_)
    · refine mB 2 (s2 := (d + 7, 81, 24, [some (.ref 0), some (.int v0), some (.int v1)], [.int (-2), .ref 0], 0, 0, (mSH, I, L))) rfl ?_
      refine mCall (s2 := (d + 6, 103, 0, [some (.ref 0), some (.int (-2))], [], 0, 0, (mSH, I, L))) rfl ?_
      refine mB 2 (s2 := (d + 6, 103, 3, [some (.ref 0), some (.int (-2))], [.int (-2), .int (-2)], 0, 0, (mSH, I, L))) rfl ?_
      refine mBT (s2 := (d + 6, 103, 6, [some (.ref 0), some (.int (-2))], [], 0, 0, (mSH, I, L))) rfl (by decide) ?_
      refine mB 8 (s2 := (d + 6, 103, 49, [some (.ref 0), some (.int (-2))], [.int (-2)], 0, 0, (mSH, (mUp I 0 9 ((I 0 9) + 1)), L))) rfl ?_
      refine mRt (r := (some (.int (-2)))) (h := (mSH, (mUp I 0 9 ((I 0 9) + 1)), L)) rfl (mRet_int rfl) ?_
      show mWP mTb_ mFT ro (d + 7, 81, 27, [some (.ref 0), some (.int v0), some (.int v1)], [.int (-2)], 0, 0, (mSH, (mUp I 0 9 ((I 0 9) + 1)), L)) _
      refine mRt (r := (some (.int (-2)))) (h := (mSH, (mUp I 0 9 ((I 0 9) + 1)), L)) rfl (mRet_int rfl) ?_
      exact hq _ _ (mFr.up (by rfl) mFr.rf) ⟨hI.1, hI.2.1, hI.2.2.1, hI.2.2.2.1, hI.2.2.2.2.1, hI.2.2.2.2.2.1, (mRk.up hI.2.2.2.2.2.2 (by rfl) (by rfl))⟩ (if_neg (by have a0 := of_decide_eq_false c0; have a1 := of_decide_eq_true c1; simp only [Int32.lt_iff_toInt_lt, Int32.le_iff_toInt_le, ← Int32.toInt_inj, mLi0, mLi1, mLi2, mLi3, mLi4, mLi5, mLi6, mLi7, mLi8, mLi9, mLi10, mLi16, mLi32, mLi48, mLi57, mLi59, mLi65, mLi90, mLi97, mLi99, mLi120, mLi122, mLi127, mLi1584, mLi999999, mLim] at a0 a1 <;> omega)).symm (kDrw_no (by have a0 := of_decide_eq_false c0; have a1 := of_decide_eq_true c1; simp only [Int32.lt_iff_toInt_lt, Int32.le_iff_toInt_le, ← Int32.toInt_inj, mLi0, mLi1, mLi2, mLi3, mLi4, mLi5, mLi6, mLi7, mLi8, mLi9, mLi10, mLi16, mLi32, mLi48, mLi57, mLi59, mLi65, mLi90, mLi97, mLi99, mLi120, mLi122, mLi127, mLi1584, mLi999999, mLim] at a0 a1 <;> omega)) (kc_1 (by have a0 := of_decide_eq_false c0; have a1 := of_decide_eq_true c1; simp only [Int32.lt_iff_toInt_lt, Int32.le_iff_toInt_le, ← Int32.toInt_inj, mLi0, mLi1, mLi2, mLi3, mLi4, mLi5, mLi6, mLi7, mLi8, mLi9, mLi10, mLi16, mLi32, mLi48, mLi57, mLi59, mLi65, mLi90, mLi97, mLi99, mLi120, mLi122, mLi127, mLi1584, mLi999999, mLim] at a0 a1 <;> omega) (by rfl))
    · refine mB 2 (s2 := (d + 7, 81, 12, [some (.ref 0), some (.int v0), some (.int v1)], [.int 1, .int v1], 0, 0, (mSH, I, L))) rfl ?_
      refine mBr (s2 := (d + 7, 81, 21, [some (.ref 0), some (.int v0), some (.int v1)], [], 0, 0, (mSH, I, L))) (s3 := (d + 7, 81, 15, [some (.ref 0), some (.int v0), some (.int v1)], [], 0, 0, (mSH, I, L))) rfl (fun c2 => ?_) (fun c2 => ?_)
      · refine mB 2 (s2 := (d + 7, 81, 24, [some (.ref 0), some (.int v0), some (.int v1)], [.int (-2), .ref 0], 0, 0, (mSH, I, L))) rfl ?_
        refine mCall (s2 := (d + 6, 103, 0, [some (.ref 0), some (.int (-2))], [], 0, 0, (mSH, I, L))) rfl ?_
        refine mB 2 (s2 := (d + 6, 103, 3, [some (.ref 0), some (.int (-2))], [.int (-2), .int (-2)], 0, 0, (mSH, I, L))) rfl ?_
        refine mBT (s2 := (d + 6, 103, 6, [some (.ref 0), some (.int (-2))], [], 0, 0, (mSH, I, L))) rfl (by decide) ?_
        refine mB 8 (s2 := (d + 6, 103, 49, [some (.ref 0), some (.int (-2))], [.int (-2)], 0, 0, (mSH, (mUp I 0 9 ((I 0 9) + 1)), L))) rfl ?_
        refine mRt (r := (some (.int (-2)))) (h := (mSH, (mUp I 0 9 ((I 0 9) + 1)), L)) rfl (mRet_int rfl) ?_
        show mWP mTb_ mFT ro (d + 7, 81, 27, [some (.ref 0), some (.int v0), some (.int v1)], [.int (-2)], 0, 0, (mSH, (mUp I 0 9 ((I 0 9) + 1)), L)) _
        refine mRt (r := (some (.int (-2)))) (h := (mSH, (mUp I 0 9 ((I 0 9) + 1)), L)) rfl (mRet_int rfl) ?_
        exact hq _ _ (mFr.up (by rfl) mFr.rf) ⟨hI.1, hI.2.1, hI.2.2.1, hI.2.2.2.1, hI.2.2.2.2.1, hI.2.2.2.2.2.1, (mRk.up hI.2.2.2.2.2.2 (by rfl) (by rfl))⟩ (if_neg (by have a0 := of_decide_eq_false c0; have a1 := of_decide_eq_false c1; have a2 := of_decide_eq_true c2; simp only [Int32.lt_iff_toInt_lt, Int32.le_iff_toInt_le, ← Int32.toInt_inj, mLi0, mLi1, mLi2, mLi3, mLi4, mLi5, mLi6, mLi7, mLi8, mLi9, mLi10, mLi16, mLi32, mLi48, mLi57, mLi59, mLi65, mLi90, mLi97, mLi99, mLi120, mLi122, mLi127, mLi1584, mLi999999, mLim] at a0 a1 a2 <;> omega)).symm (kDrw_no (by have a0 := of_decide_eq_false c0; have a1 := of_decide_eq_false c1; have a2 := of_decide_eq_true c2; simp only [Int32.lt_iff_toInt_lt, Int32.le_iff_toInt_le, ← Int32.toInt_inj, mLi0, mLi1, mLi2, mLi3, mLi4, mLi5, mLi6, mLi7, mLi8, mLi9, mLi10, mLi16, mLi32, mLi48, mLi57, mLi59, mLi65, mLi90, mLi97, mLi99, mLi120, mLi122, mLi127, mLi1584, mLi999999, mLim] at a0 a1 a2 <;> omega)) (kc_1 (by have a0 := of_decide_eq_false c0; have a1 := of_decide_eq_false c1; have a2 := of_decide_eq_true c2; simp only [Int32.lt_iff_toInt_lt, Int32.le_iff_toInt_le, ← Int32.toInt_inj, mLi0, mLi1, mLi2, mLi3, mLi4, mLi5, mLi6, mLi7, mLi8, mLi9, mLi10, mLi16, mLi32, mLi48, mLi57, mLi59, mLi65, mLi90, mLi97, mLi99, mLi120, mLi122, mLi127, mLi1584, mLi999999, mLim] at a0 a1 a2 <;> omega) (by rfl))
      · refine mB 2 (s2 := (d + 7, 81, 18, [some (.ref 0), some (.int v0), some (.int v1)], [.int 16, .int v1], 0, 0, (mSH, I, L))) rfl ?_
        refine mBr (s2 := (d + 7, 81, 28, [some (.ref 0), some (.int v0), some (.int v1)], [], 0, 0, (mSH, I, L))) (s3 := (d + 7, 81, 21, [some (.ref 0), some (.int v0), some (.int v1)], [], 0, 0, (mSH, I, L))) rfl (fun c3 => ?_) (fun c3 => ?_)
        · refine mB 4 (s2 := (d + 7, 81, 34, [some (.ref 0), some (.int v0), some (.int v1)], [.int v1, .int v0, .ref 1], 0, 0, (mSH, I, L))) rfl ?_
          refine mCall (s2 := (d + 6, 71, 0, [some (.ref 1), some (.int v0), some (.int v1), none, none], [], 0, 0, (mSH, I, L))) rfl ?_
          refine x_bd (of_decide_eq_false c2) (of_decide_eq_true c3) (fun J f1 f2 f3 f4 f5 f6 m2 m4 => ?_)
          show mWP mTb_ mFT ro (d + 7, 81, 37, [some (.ref 0), some (.int v0), some (.int v1)], [], 0, 0, (mSH, J, L)) _
          refine mB 3 (s2 := (d + 7, 81, 44, [some (.ref 0), some (.int v0), some (.int v1)], [.ref 4], 0, 0, (mSH, J, L))) rfl ?_
          refine mCall (s2 := (d + 6, 39, 0, [some (.ref 4)], [], 0, 0, (mSH, J, L))) rfl ?_
          refine mB 2 (s2 := (d + 6, 39, 4, [some (.ref 4)], [.int (J 4 1)], 0, 0, (mSH, J, L))) rfl ?_
          refine mRt (r := (some (.int (J 4 1)))) (h := (mSH, J, L)) rfl (mRet_int rfl) ?_
          show mWP mTb_ mFT ro (d + 7, 81, 47, [some (.ref 0), some (.int v0), some (.int v1)], [.int (J 4 1)], 0, 0, (mSH, J, L)) _
          refine mRt (r := (some (.int (J 4 1)))) (h := (mSH, J, L)) rfl (mRet_int rfl) ?_
          exact hq _ _ (mFr.sub (by decide) f1) ⟨m2, m4, (mCn.eqr (f1 23 rfl) hI.2.2.1), (mCn.eqr (f1 26 rfl) hI.2.2.2.1), (mCn.eqr (f1 30 rfl) hI.2.2.2.2.1), (mCn.eqr (f1 32 rfl) hI.2.2.2.2.2.1), mRk.eq (f1 18 rfl) (f1 19 rfl) hI.2.2.2.2.2.2⟩ (f4.trans (if_pos (by have a0 := of_decide_eq_false c0; have a1 := of_decide_eq_false c1; have a2 := of_decide_eq_false c2; have a3 := of_decide_eq_true c3; simp only [Int32.lt_iff_toInt_lt, Int32.le_iff_toInt_le, ← Int32.toInt_inj, mLi0, mLi1, mLi2, mLi3, mLi4, mLi5, mLi6, mLi7, mLi8, mLi9, mLi10, mLi16, mLi32, mLi48, mLi57, mLi59, mLi65, mLi90, mLi97, mLi99, mLi120, mLi122, mLi127, mLi1584, mLi999999, mLim] at a0 a1 a2 a3 <;> omega)).symm) ⟨fun _ => ⟨f2, f3, f4, f5, f6⟩, fun z => absurd (by have a0 := of_decide_eq_false c0; have a1 := of_decide_eq_false c1; have a2 := of_decide_eq_false c2; have a3 := of_decide_eq_true c3; simp only [Int32.lt_iff_toInt_lt, Int32.le_iff_toInt_le, ← Int32.toInt_inj, mLi0, mLi1, mLi2, mLi3, mLi4, mLi5, mLi6, mLi7, mLi8, mLi9, mLi10, mLi16, mLi32, mLi48, mLi57, mLi59, mLi65, mLi90, mLi97, mLi99, mLi120, mLi122, mLi127, mLi1584, mLi999999, mLim] at a0 a1 a2 a3 <;> omega) z⟩ (kc_0 (by have a0 := of_decide_eq_false c0; have a1 := of_decide_eq_false c1; have a2 := of_decide_eq_false c2; have a3 := of_decide_eq_true c3; simp only [Int32.lt_iff_toInt_lt, Int32.le_iff_toInt_le, ← Int32.toInt_inj, mLi0, mLi1, mLi2, mLi3, mLi4, mLi5, mLi6, mLi7, mLi8, mLi9, mLi10, mLi16, mLi32, mLi48, mLi57, mLi59, mLi65, mLi90, mLi97, mLi99, mLi120, mLi122, mLi127, mLi1584, mLi999999, mLim] at a0 a1 a2 a3 <;> omega) trivial (f1 0 rfl))
        · refine mB 2 (s2 := (d + 7, 81, 24, [some (.ref 0), some (.int v0), some (.int v1)], [.int (-2), .ref 0], 0, 0, (mSH, I, L))) rfl ?_
          refine mCall (s2 := (d + 6, 103, 0, [some (.ref 0), some (.int (-2))], [], 0, 0, (mSH, I, L))) rfl ?_
          refine mB 2 (s2 := (d + 6, 103, 3, [some (.ref 0), some (.int (-2))], [.int (-2), .int (-2)], 0, 0, (mSH, I, L))) rfl ?_
          refine mBT (s2 := (d + 6, 103, 6, [some (.ref 0), some (.int (-2))], [], 0, 0, (mSH, I, L))) rfl (by decide) ?_
          refine mB 8 (s2 := (d + 6, 103, 49, [some (.ref 0), some (.int (-2))], [.int (-2)], 0, 0, (mSH, (mUp I 0 9 ((I 0 9) + 1)), L))) rfl ?_
          refine mRt (r := (some (.int (-2)))) (h := (mSH, (mUp I 0 9 ((I 0 9) + 1)), L)) rfl (mRet_int rfl) ?_
          show mWP mTb_ mFT ro (d + 7, 81, 27, [some (.ref 0), some (.int v0), some (.int v1)], [.int (-2)], 0, 0, (mSH, (mUp I 0 9 ((I 0 9) + 1)), L)) _
          refine mRt (r := (some (.int (-2)))) (h := (mSH, (mUp I 0 9 ((I 0 9) + 1)), L)) rfl (mRet_int rfl) ?_
          exact hq _ _ (mFr.up (by rfl) mFr.rf) ⟨hI.1, hI.2.1, hI.2.2.1, hI.2.2.2.1, hI.2.2.2.2.1, hI.2.2.2.2.2.1, (mRk.up hI.2.2.2.2.2.2 (by rfl) (by rfl))⟩ (if_neg (by have a0 := of_decide_eq_false c0; have a1 := of_decide_eq_false c1; have a2 := of_decide_eq_false c2; have a3 := of_decide_eq_false c3; simp only [Int32.lt_iff_toInt_lt, Int32.le_iff_toInt_le, ← Int32.toInt_inj, mLi0, mLi1, mLi2, mLi3, mLi4, mLi5, mLi6, mLi7, mLi8, mLi9, mLi10, mLi16, mLi32, mLi48, mLi57, mLi59, mLi65, mLi90, mLi97, mLi99, mLi120, mLi122, mLi127, mLi1584, mLi999999, mLim] at a0 a1 a2 a3 <;> omega)).symm (kDrw_no (by have a0 := of_decide_eq_false c0; have a1 := of_decide_eq_false c1; have a2 := of_decide_eq_false c2; have a3 := of_decide_eq_false c3; simp only [Int32.lt_iff_toInt_lt, Int32.le_iff_toInt_le, ← Int32.toInt_inj, mLi0, mLi1, mLi2, mLi3, mLi4, mLi5, mLi6, mLi7, mLi8, mLi9, mLi10, mLi16, mLi32, mLi48, mLi57, mLi59, mLi65, mLi90, mLi97, mLi99, mLi120, mLi122, mLi127, mLi1584, mLi999999, mLim] at a0 a1 a2 a3 <;> omega)) (kc_1 (by have a0 := of_decide_eq_false c0; have a1 := of_decide_eq_false c1; have a2 := of_decide_eq_false c2; have a3 := of_decide_eq_false c3; simp only [Int32.lt_iff_toInt_lt, Int32.le_iff_toInt_le, ← Int32.toInt_inj, mLi0, mLi1, mLi2, mLi3, mLi4, mLi5, mLi6, mLi7, mLi8, mLi9, mLi10, mLi16, mLi32, mLi48, mLi57, mLi59, mLi65, mLi90, mLi97, mLi99, mLi120, mLi122, mLi127, mLi1584, mLi999999, mLim] at a0 a1 a2 a3 <;> omega) (by rfl))
theorem z_type {ro : Nat → Nat × (Nat → Int32)} {Q : mPo} {d : Nat} {I : Nat → Nat → Int32} {L : Nat → Nat → Int64} {v0 : Int32} (hI : mIC I) (hq : ∀ r I1, mFr [0, 26, 27] I I1 → mIC I1 → r = mTyR (I 26 1) v0 → I1 26 1 = mTyN (I 26 1) v0 → I1 27 = kTyF (I 26 1) v0 (I 27) → kC (cdF (0 ≤ v0.toInt ∧ v0.toInt ≤ 127) ((I 26 1).toInt < 120)) I I1 → Q (some (.int r)) (mSH, I1, L))   : mWP mTb_ mFT ro (d + 7, 98, 0, [some (.ref 0), some (.int v0)], [], 0, 0, (mSH, I, L)) Q := by
  refine mB 1 (s2 := (d + 7, 98, 1, [some (.ref 0), some (.int v0)], [.int v0], 0, 0, (mSH, I, L))) rfl ?_
  refine mBr (s2 := (d + 7, 98, 10, [some (.ref 0), some (.int v0)], [], 0, 0, (mSH, I, L))) (s3 := (d + 7, 98, 4, [some (.ref 0), some (.int v0)], [], 0, 0, (mSH, I, L))) rfl (fun c0 => ?_) (fun c0 => ?_)
  · refine mB 2 (s2 := (d + 7, 98, 13, [some (.ref 0), some (.int v0)], [.int (-2), .ref 0], 0, 0, (mSH, I, L))) rfl ?_
    refine mCall (s2 := (d + 6, 103, 0, [some (.ref 0), some (.int (-2))], [], 0, 0, (mSH, I, L))) rfl ?_
    refine mB 2 (s2 := (d + 6, 103, 3, [some (.ref 0), some (.int (-2))], [.int (-2), .int (-2)], 0, 0, (mSH, I, L))) rfl ?_
    refine mBT (s2 := (d + 6, 103, 6, [some (.ref 0), some (.int (-2))], [], 0, 0, (mSH, I, L))) rfl (by decide) ?_
    refine mB 8 (s2 := (d + 6, 103, 49, [some (.ref 0), some (.int (-2))], [.int (-2)], 0, 0, (mSH, (mUp I 0 9 ((I 0 9) + 1)), L))) rfl ?_
    refine mRt (r := (some (.int (-2)))) (h := (mSH, (mUp I 0 9 ((I 0 9) + 1)), L)) rfl (mRet_int rfl) ?_
    show mWP mTb_ mFT ro (d + 7, 98, 16, [some (.ref 0), some (.int v0)], [.int (-2)], 0, 0, (mSH, (mUp I 0 9 ((I 0 9) + 1)), L)) _
    refine mRt (r := (some (.int (-2)))) (h := (mSH, (mUp I 0 9 ((I 0 9) + 1)), L)) rfl (mRet_int rfl) ?_
    exact hq _ _ (mFr.up (by rfl) mFr.rf) ⟨hI.1, hI.2.1, hI.2.2.1, hI.2.2.2.1, hI.2.2.2.2.1, hI.2.2.2.2.2.1, (mRk.up hI.2.2.2.2.2.2 (by rfl) (by rfl))⟩ (mTy1 (n := I 26 1) (c := v0) (by have a0 := of_decide_eq_true c0; simp only [Int32.lt_iff_toInt_lt, Int32.le_iff_toInt_le, ← Int32.toInt_inj, mLi0, mLi1, mLi2, mLi3, mLi4, mLi5, mLi6, mLi7, mLi8, mLi9, mLi10, mLi16, mLi32, mLi48, mLi57, mLi59, mLi65, mLi90, mLi97, mLi99, mLi120, mLi122, mLi127, mLi1584, mLi999999, mLim] at a0 ⊢; omega)).1 (mTy1 (n := I 26 1) (c := v0) (by have a0 := of_decide_eq_true c0; simp only [Int32.lt_iff_toInt_lt, Int32.le_iff_toInt_le, ← Int32.toInt_inj, mLi0, mLi1, mLi2, mLi3, mLi4, mLi5, mLi6, mLi7, mLi8, mLi9, mLi10, mLi16, mLi32, mLi48, mLi57, mLi59, mLi65, mLi90, mLi97, mLi99, mLi120, mLi122, mLi127, mLi1584, mLi999999, mLim] at a0 ⊢; omega)).2 (kTy0 (by have a0 := of_decide_eq_true c0; simp only [Int32.lt_iff_toInt_lt, Int32.le_iff_toInt_le, ← Int32.toInt_inj, mLi0, mLi1, mLi2, mLi3, mLi4, mLi5, mLi6, mLi7, mLi8, mLi9, mLi10, mLi16, mLi32, mLi48, mLi57, mLi59, mLi65, mLi90, mLi97, mLi99, mLi120, mLi122, mLi127, mLi1584, mLi999999, mLim] at a0 <;> omega)) (kf_1 (by have a0 := of_decide_eq_true c0; simp only [Int32.lt_iff_toInt_lt, Int32.le_iff_toInt_le, ← Int32.toInt_inj, mLi0, mLi1, mLi2, mLi3, mLi4, mLi5, mLi6, mLi7, mLi8, mLi9, mLi10, mLi16, mLi32, mLi48, mLi57, mLi59, mLi65, mLi90, mLi97, mLi99, mLi120, mLi122, mLi127, mLi1584, mLi999999, mLim] at a0 <;> omega) (by rfl))
  · refine mB 2 (s2 := (d + 7, 98, 7, [some (.ref 0), some (.int v0)], [.int 127, .int v0], 0, 0, (mSH, I, L))) rfl ?_
    refine mBr (s2 := (d + 7, 98, 17, [some (.ref 0), some (.int v0)], [], 0, 0, (mSH, I, L))) (s3 := (d + 7, 98, 10, [some (.ref 0), some (.int v0)], [], 0, 0, (mSH, I, L))) rfl (fun c1 => ?_) (fun c1 => ?_)
    · refine mB 2 (s2 := (d + 7, 98, 21, [some (.ref 0), some (.int v0)], [.ref 26], 0, 0, (mSH, I, L))) rfl ?_
      refine mCall (s2 := (d + 6, 40, 0, [some (.ref 26)], [], 0, 0, (mSH, I, L))) rfl ?_
      refine mB 5 (s2 := (d + 6, 40, 9, [some (.ref 26)], [.int 120, .int (I 26 1)], 0, 0, (mSH, I, L))) rfl ?_
      refine mBr (s2 := (d + 6, 40, 16, [some (.ref 26)], [], 0, 0, (mSH, I, L))) (s3 := (d + 6, 40, 12, [some (.ref 26)], [], 0, 0, (mSH, I, L))) rfl (fun c2 => ?_) (fun c2 => ?_)
      · refine mB 1 (s2 := (d + 6, 40, 17, [some (.ref 26)], [.int 0], 0, 0, (mSH, I, L))) rfl ?_
        refine mRt (r := (some (.int 0))) (h := (mSH, I, L)) rfl rfl ?_
        show mWP mTb_ mFT ro (d + 7, 98, 24, [some (.ref 0), some (.int v0)], [.int 0], 0, 0, (mSH, I, L)) _
        refine mBT (s2 := (d + 7, 98, 34, [some (.ref 0), some (.int v0)], [], 0, 0, (mSH, I, L))) rfl (by decide) ?_
        refine mB 3 (s2 := (d + 7, 98, 39, [some (.ref 0), some (.int v0)], [.int v0, .ref 26], 0, 0, (mSH, I, L))) rfl ?_
        refine mCall (s2 := (d + 6, 44, 0, [some (.ref 26), some (.int v0)], [], 0, 0, (mSH, I, L))) rfl ?_
        refine mB 1 (s2 := (d + 6, 44, 1, [some (.ref 26), some (.int v0)], [.ref 26], 0, 0, (mSH, I, L))) rfl ?_
        refine mCall (s2 := (d + 5, 40, 0, [some (.ref 26)], [], 0, 0, (mSH, I, L))) rfl ?_
        refine mB 5 (s2 := (d + 5, 40, 9, [some (.ref 26)], [.int 120, .int (I 26 1)], 0, 0, (mSH, I, L))) rfl ?_
        refine mBT (c := decide ((I 26 1) < 120)) (s2 := (d + 5, 40, 16, [some (.ref 26)], [], 0, 0, (mSH, I, L))) rfl (decide_eq_true (by have a0 := of_decide_eq_false c0; have a1 := of_decide_eq_true c1; have a2 := of_decide_eq_true c2; simp only [Int32.lt_iff_toInt_lt, Int32.le_iff_toInt_le, ← Int32.toInt_inj, mLi0, mLi1, mLi2, mLi3, mLi4, mLi5, mLi6, mLi7, mLi8, mLi9, mLi10, mLi16, mLi32, mLi48, mLi57, mLi59, mLi65, mLi90, mLi97, mLi99, mLi120, mLi122, mLi127, mLi1584, mLi999999, mLim] at a0 a1 a2 ⊢; omega)) ?_
        refine mB 1 (s2 := (d + 5, 40, 17, [some (.ref 26)], [.int 0], 0, 0, (mSH, I, L))) rfl ?_
        refine mRt (r := (some (.int 0))) (h := (mSH, I, L)) rfl rfl ?_
        show mWP mTb_ mFT ro (d + 6, 44, 4, [some (.ref 26), some (.int v0)], [.int 0], 0, 0, (mSH, I, L)) _
        refine mBT (s2 := (d + 6, 44, 7, [some (.ref 26), some (.int v0)], [], 0, 0, (mSH, I, L))) rfl (by decide) ?_
        refine mB 5 (s2 := (d + 6, 44, 16, [some (.ref 26), some (.int v0)], [.int v0, .int (I 26 1), .ref 27], 0, 0, (mSH, I, L))) rfl ?_
        refine mRq (s2 := (d + 6, 44, 17, [some (.ref 26), some (.int v0)], [], 0, 0, (mSH, (mUp I 27 ((I 26 1).toNatClampNeg) v0), L))) rfl (mVp_of (mVpC (m := 120) hI.2.2.2.1 (Int32.lt_iff_toInt_lt.mpr (by have a0 := of_decide_eq_true c2; simp only [Int32.lt_iff_toInt_lt, Int32.le_iff_toInt_le, ← Int32.toInt_inj, mLi0, mLi1, mLi2, mLi3, mLi4, mLi5, mLi6, mLi7, mLi8, mLi9, mLi10, mLi16, mLi32, mLi48, mLi57, mLi59, mLi65, mLi90, mLi97, mLi99, mLi120, mLi122, mLi127, mLi1584, mLi999999, mLim] at a0 ⊢; omega)) rfl)) ?_
        refine mB 6 (s2 := (d + 6, 44, 27, [some (.ref 26), some (.int v0)], [], 0, 0, (mSH, (mUp (mUp I 27 ((I 26 1).toNatClampNeg) v0) 26 1 ((I 26 1) + 1)), L))) rfl ?_
        refine mRt (r := none) (h := (mSH, (mUp (mUp I 27 ((I 26 1).toNatClampNeg) v0) 26 1 ((I 26 1) + 1)), L)) rfl rfl ?_
        show mWP mTb_ mFT ro (d + 7, 98, 42, [some (.ref 0), some (.int v0)], [], 0, 0, (mSH, (mUp (mUp I 27 ((I 26 1).toNatClampNeg) v0) 26 1 ((I 26 1) + 1)), L)) _
        refine mB 2 (s2 := (d + 7, 98, 46, [some (.ref 0), some (.int v0)], [.ref 26], 0, 0, (mSH, (mUp (mUp I 27 ((I 26 1).toNatClampNeg) v0) 26 1 ((I 26 1) + 1)), L))) rfl ?_
        refine mCall (s2 := (d + 6, 39, 0, [some (.ref 26)], [], 0, 0, (mSH, (mUp (mUp I 27 ((I 26 1).toNatClampNeg) v0) 26 1 ((I 26 1) + 1)), L))) rfl ?_
        refine mB 2 (s2 := (d + 6, 39, 4, [some (.ref 26)], [.int ((I 26 1) + 1)], 0, 0, (mSH, (mUp (mUp I 27 ((I 26 1).toNatClampNeg) v0) 26 1 ((I 26 1) + 1)), L))) rfl ?_
        refine mRt (r := (some (.int ((I 26 1) + 1)))) (h := (mSH, (mUp (mUp I 27 ((I 26 1).toNatClampNeg) v0) 26 1 ((I 26 1) + 1)), L)) rfl (mRet_int rfl) ?_
        show mWP mTb_ mFT ro (d + 7, 98, 49, [some (.ref 0), some (.int v0)], [.int ((I 26 1) + 1)], 0, 0, (mSH, (mUp (mUp I 27 ((I 26 1).toNatClampNeg) v0) 26 1 ((I 26 1) + 1)), L)) _
        refine mRt (r := (some (.int ((I 26 1) + 1)))) (h := (mSH, (mUp (mUp I 27 ((I 26 1).toNatClampNeg) v0) 26 1 ((I 26 1) + 1)), L)) rfl (mRet_int rfl) ?_
        exact hq _ _ (mFr.up (by rfl) (mFr.up (by rfl) mFr.rf)) ⟨hI.1, hI.2.1, hI.2.2.1, mCn_add hI.2.2.2.1 (m := 120) (Int32.lt_iff_toInt_lt.mpr (by have a0 := of_decide_eq_true c2; simp only [Int32.lt_iff_toInt_lt, Int32.le_iff_toInt_le, ← Int32.toInt_inj, mLi0, mLi1, mLi2, mLi3, mLi4, mLi5, mLi6, mLi7, mLi8, mLi9, mLi10, mLi16, mLi32, mLi48, mLi57, mLi59, mLi65, mLi90, mLi97, mLi99, mLi120, mLi122, mLi127, mLi1584, mLi999999, mLim] at a0 ⊢; omega)) rfl, hI.2.2.2.2.1, hI.2.2.2.2.2.1, hI.2.2.2.2.2.2⟩ (mTy3 (n := I 26 1) (c := v0) (by have a0 := of_decide_eq_false c0; have a1 := of_decide_eq_true c1; simp only [Int32.lt_iff_toInt_lt, Int32.le_iff_toInt_le, ← Int32.toInt_inj, mLi0, mLi1, mLi2, mLi3, mLi4, mLi5, mLi6, mLi7, mLi8, mLi9, mLi10, mLi16, mLi32, mLi48, mLi57, mLi59, mLi65, mLi90, mLi97, mLi99, mLi120, mLi122, mLi127, mLi1584, mLi999999, mLim] at a0 a1 ⊢; omega) (by have a0 := of_decide_eq_true c2; simp only [Int32.lt_iff_toInt_lt, Int32.le_iff_toInt_le, ← Int32.toInt_inj, mLi0, mLi1, mLi2, mLi3, mLi4, mLi5, mLi6, mLi7, mLi8, mLi9, mLi10, mLi16, mLi32, mLi48, mLi57, mLi59, mLi65, mLi90, mLi97, mLi99, mLi120, mLi122, mLi127, mLi1584, mLi999999, mLim] at a0 ⊢; omega)).1 (mTy3 (n := I 26 1) (c := v0) (by have a0 := of_decide_eq_false c0; have a1 := of_decide_eq_true c1; simp only [Int32.lt_iff_toInt_lt, Int32.le_iff_toInt_le, ← Int32.toInt_inj, mLi0, mLi1, mLi2, mLi3, mLi4, mLi5, mLi6, mLi7, mLi8, mLi9, mLi10, mLi16, mLi32, mLi48, mLi57, mLi59, mLi65, mLi90, mLi97, mLi99, mLi120, mLi122, mLi127, mLi1584, mLi999999, mLim] at a0 a1 ⊢; omega) (by have a0 := of_decide_eq_true c2; simp only [Int32.lt_iff_toInt_lt, Int32.le_iff_toInt_le, ← Int32.toInt_inj, mLi0, mLi1, mLi2, mLi3, mLi4, mLi5, mLi6, mLi7, mLi8, mLi9, mLi10, mLi16, mLi32, mLi48, mLi57, mLi59, mLi65, mLi90, mLi97, mLi99, mLi120, mLi122, mLi127, mLi1584, mLi999999, mLim] at a0 ⊢; omega)).2 ((kPut_e (I := I) (c := 27) (J := (I 26 1).toNatClampNeg) (v := v0)).trans (kTy1 (n := I 26 1) (c := v0) (f := I 27) (by have a0 := of_decide_eq_false c0; have a1 := of_decide_eq_true c1; have a2 := of_decide_eq_true c2; simp only [Int32.lt_iff_toInt_lt, Int32.le_iff_toInt_le, ← Int32.toInt_inj, mLi0, mLi1, mLi2, mLi3, mLi4, mLi5, mLi6, mLi7, mLi8, mLi9, mLi10, mLi16, mLi32, mLi48, mLi57, mLi59, mLi65, mLi90, mLi97, mLi99, mLi120, mLi122, mLi127, mLi1584, mLi999999, mLim] at a0 a1 a2 <;> omega))) (kf_0 (by have a0 := of_decide_eq_false c0; have a1 := of_decide_eq_true c1; simp only [Int32.lt_iff_toInt_lt, Int32.le_iff_toInt_le, ← Int32.toInt_inj, mLi0, mLi1, mLi2, mLi3, mLi4, mLi5, mLi6, mLi7, mLi8, mLi9, mLi10, mLi16, mLi32, mLi48, mLi57, mLi59, mLi65, mLi90, mLi97, mLi99, mLi120, mLi122, mLi127, mLi1584, mLi999999, mLim] at a0 a1 <;> omega) (by have a0 := of_decide_eq_true c2; simp only [Int32.lt_iff_toInt_lt, Int32.le_iff_toInt_le, ← Int32.toInt_inj, mLi0, mLi1, mLi2, mLi3, mLi4, mLi5, mLi6, mLi7, mLi8, mLi9, mLi10, mLi16, mLi32, mLi48, mLi57, mLi59, mLi65, mLi90, mLi97, mLi99, mLi120, mLi122, mLi127, mLi1584, mLi999999, mLim] at a0 <;> omega) (by rfl))
      · refine mB 2 (s2 := (d + 6, 40, 17, [some (.ref 26)], [.int 1], 0, 0, (mSH, I, L))) rfl ?_
        refine mRt (r := (some (.int 1))) (h := (mSH, I, L)) rfl rfl ?_
        show mWP mTb_ mFT ro (d + 7, 98, 24, [some (.ref 0), some (.int v0)], [.int 1], 0, 0, (mSH, I, L)) _
        refine mBF (s3 := (d + 7, 98, 27, [some (.ref 0), some (.int v0)], [], 0, 0, (mSH, I, L))) rfl (by decide) ?_
        refine mB 2 (s2 := (d + 7, 98, 30, [some (.ref 0), some (.int v0)], [.int (-4), .ref 0], 0, 0, (mSH, I, L))) rfl ?_
        refine mCall (s2 := (d + 6, 103, 0, [some (.ref 0), some (.int (-4))], [], 0, 0, (mSH, I, L))) rfl ?_
        refine mB 2 (s2 := (d + 6, 103, 3, [some (.ref 0), some (.int (-4))], [.int (-2), .int (-4)], 0, 0, (mSH, I, L))) rfl ?_
        refine mBF (s3 := (d + 6, 103, 19, [some (.ref 0), some (.int (-4))], [], 0, 0, (mSH, I, L))) rfl (by decide) ?_
        refine mB 2 (s2 := (d + 6, 103, 22, [some (.ref 0), some (.int (-4))], [.int (-3), .int (-4)], 0, 0, (mSH, I, L))) rfl ?_
        refine mBF (s3 := (d + 6, 103, 38, [some (.ref 0), some (.int (-4))], [], 0, 0, (mSH, I, L))) rfl (by decide) ?_
        refine mB 7 (s2 := (d + 6, 103, 49, [some (.ref 0), some (.int (-4))], [.int (-4)], 0, 0, (mSH, (mUp I 0 11 ((I 0 11) + 1)), L))) rfl ?_
        refine mRt (r := (some (.int (-4)))) (h := (mSH, (mUp I 0 11 ((I 0 11) + 1)), L)) rfl (mRet_int rfl) ?_
        show mWP mTb_ mFT ro (d + 7, 98, 33, [some (.ref 0), some (.int v0)], [.int (-4)], 0, 0, (mSH, (mUp I 0 11 ((I 0 11) + 1)), L)) _
        refine mRt (r := (some (.int (-4)))) (h := (mSH, (mUp I 0 11 ((I 0 11) + 1)), L)) rfl (mRet_int rfl) ?_
        exact hq _ _ (mFr.up (by rfl) mFr.rf) ⟨hI.1, hI.2.1, hI.2.2.1, hI.2.2.2.1, hI.2.2.2.2.1, hI.2.2.2.2.2.1, (mRk.up hI.2.2.2.2.2.2 (by rfl) (by rfl))⟩ (mTy2 (n := I 26 1) (c := v0) (by have a0 := of_decide_eq_false c0; have a1 := of_decide_eq_true c1; simp only [Int32.lt_iff_toInt_lt, Int32.le_iff_toInt_le, ← Int32.toInt_inj, mLi0, mLi1, mLi2, mLi3, mLi4, mLi5, mLi6, mLi7, mLi8, mLi9, mLi10, mLi16, mLi32, mLi48, mLi57, mLi59, mLi65, mLi90, mLi97, mLi99, mLi120, mLi122, mLi127, mLi1584, mLi999999, mLim] at a0 a1 ⊢; omega) (by have a0 := of_decide_eq_false c2; simp only [Int32.lt_iff_toInt_lt, Int32.le_iff_toInt_le, ← Int32.toInt_inj, mLi0, mLi1, mLi2, mLi3, mLi4, mLi5, mLi6, mLi7, mLi8, mLi9, mLi10, mLi16, mLi32, mLi48, mLi57, mLi59, mLi65, mLi90, mLi97, mLi99, mLi120, mLi122, mLi127, mLi1584, mLi999999, mLim] at a0 ⊢; omega)).1 (mTy2 (n := I 26 1) (c := v0) (by have a0 := of_decide_eq_false c0; have a1 := of_decide_eq_true c1; simp only [Int32.lt_iff_toInt_lt, Int32.le_iff_toInt_le, ← Int32.toInt_inj, mLi0, mLi1, mLi2, mLi3, mLi4, mLi5, mLi6, mLi7, mLi8, mLi9, mLi10, mLi16, mLi32, mLi48, mLi57, mLi59, mLi65, mLi90, mLi97, mLi99, mLi120, mLi122, mLi127, mLi1584, mLi999999, mLim] at a0 a1 ⊢; omega) (by have a0 := of_decide_eq_false c2; simp only [Int32.lt_iff_toInt_lt, Int32.le_iff_toInt_le, ← Int32.toInt_inj, mLi0, mLi1, mLi2, mLi3, mLi4, mLi5, mLi6, mLi7, mLi8, mLi9, mLi10, mLi16, mLi32, mLi48, mLi57, mLi59, mLi65, mLi90, mLi97, mLi99, mLi120, mLi122, mLi127, mLi1584, mLi999999, mLim] at a0 ⊢; omega)).2 (kTy0 (by have a0 := of_decide_eq_false c0; have a1 := of_decide_eq_true c1; have a2 := of_decide_eq_false c2; simp only [Int32.lt_iff_toInt_lt, Int32.le_iff_toInt_le, ← Int32.toInt_inj, mLi0, mLi1, mLi2, mLi3, mLi4, mLi5, mLi6, mLi7, mLi8, mLi9, mLi10, mLi16, mLi32, mLi48, mLi57, mLi59, mLi65, mLi90, mLi97, mLi99, mLi120, mLi122, mLi127, mLi1584, mLi999999, mLim] at a0 a1 a2 <;> omega)) (kf_3 (by have a0 := of_decide_eq_false c0; have a1 := of_decide_eq_true c1; simp only [Int32.lt_iff_toInt_lt, Int32.le_iff_toInt_le, ← Int32.toInt_inj, mLi0, mLi1, mLi2, mLi3, mLi4, mLi5, mLi6, mLi7, mLi8, mLi9, mLi10, mLi16, mLi32, mLi48, mLi57, mLi59, mLi65, mLi90, mLi97, mLi99, mLi120, mLi122, mLi127, mLi1584, mLi999999, mLim] at a0 a1 <;> omega) (by have a0 := of_decide_eq_false c2; simp only [Int32.lt_iff_toInt_lt, Int32.le_iff_toInt_le, ← Int32.toInt_inj, mLi0, mLi1, mLi2, mLi3, mLi4, mLi5, mLi6, mLi7, mLi8, mLi9, mLi10, mLi16, mLi32, mLi48, mLi57, mLi59, mLi65, mLi90, mLi97, mLi99, mLi120, mLi122, mLi127, mLi1584, mLi999999, mLim] at a0 <;> omega) (by rfl))
    · refine mB 2 (s2 := (d + 7, 98, 13, [some (.ref 0), some (.int v0)], [.int (-2), .ref 0], 0, 0, (mSH, I, L))) rfl ?_
      refine mCall (s2 := (d + 6, 103, 0, [some (.ref 0), some (.int (-2))], [], 0, 0, (mSH, I, L))) rfl ?_
      refine mB 2 (s2 := (d + 6, 103, 3, [some (.ref 0), some (.int (-2))], [.int (-2), .int (-2)], 0, 0, (mSH, I, L))) rfl ?_
      refine mBT (s2 := (d + 6, 103, 6, [some (.ref 0), some (.int (-2))], [], 0, 0, (mSH, I, L))) rfl (by decide) ?_
      refine mB 8 (s2 := (d + 6, 103, 49, [some (.ref 0), some (.int (-2))], [.int (-2)], 0, 0, (mSH, (mUp I 0 9 ((I 0 9) + 1)), L))) rfl ?_
      refine mRt (r := (some (.int (-2)))) (h := (mSH, (mUp I 0 9 ((I 0 9) + 1)), L)) rfl (mRet_int rfl) ?_
      show mWP mTb_ mFT ro (d + 7, 98, 16, [some (.ref 0), some (.int v0)], [.int (-2)], 0, 0, (mSH, (mUp I 0 9 ((I 0 9) + 1)), L)) _
      refine mRt (r := (some (.int (-2)))) (h := (mSH, (mUp I 0 9 ((I 0 9) + 1)), L)) rfl (mRet_int rfl) ?_
      exact hq _ _ (mFr.up (by rfl) mFr.rf) ⟨hI.1, hI.2.1, hI.2.2.1, hI.2.2.2.1, hI.2.2.2.2.1, hI.2.2.2.2.2.1, (mRk.up hI.2.2.2.2.2.2 (by rfl) (by rfl))⟩ (mTy1 (n := I 26 1) (c := v0) (by have a0 := of_decide_eq_false c0; have a1 := of_decide_eq_false c1; simp only [Int32.lt_iff_toInt_lt, Int32.le_iff_toInt_le, ← Int32.toInt_inj, mLi0, mLi1, mLi2, mLi3, mLi4, mLi5, mLi6, mLi7, mLi8, mLi9, mLi10, mLi16, mLi32, mLi48, mLi57, mLi59, mLi65, mLi90, mLi97, mLi99, mLi120, mLi122, mLi127, mLi1584, mLi999999, mLim] at a0 a1 ⊢; omega)).1 (mTy1 (n := I 26 1) (c := v0) (by have a0 := of_decide_eq_false c0; have a1 := of_decide_eq_false c1; simp only [Int32.lt_iff_toInt_lt, Int32.le_iff_toInt_le, ← Int32.toInt_inj, mLi0, mLi1, mLi2, mLi3, mLi4, mLi5, mLi6, mLi7, mLi8, mLi9, mLi10, mLi16, mLi32, mLi48, mLi57, mLi59, mLi65, mLi90, mLi97, mLi99, mLi120, mLi122, mLi127, mLi1584, mLi999999, mLim] at a0 a1 ⊢; omega)).2 (kTy0 (by have a0 := of_decide_eq_false c0; have a1 := of_decide_eq_false c1; simp only [Int32.lt_iff_toInt_lt, Int32.le_iff_toInt_le, ← Int32.toInt_inj, mLi0, mLi1, mLi2, mLi3, mLi4, mLi5, mLi6, mLi7, mLi8, mLi9, mLi10, mLi16, mLi32, mLi48, mLi57, mLi59, mLi65, mLi90, mLi97, mLi99, mLi120, mLi122, mLi127, mLi1584, mLi999999, mLim] at a0 a1 <;> omega)) (kf_1 (by have a0 := of_decide_eq_false c0; have a1 := of_decide_eq_false c1; simp only [Int32.lt_iff_toInt_lt, Int32.le_iff_toInt_le, ← Int32.toInt_inj, mLi0, mLi1, mLi2, mLi3, mLi4, mLi5, mLi6, mLi7, mLi8, mLi9, mLi10, mLi16, mLi32, mLi48, mLi57, mLi59, mLi65, mLi90, mLi97, mLi99, mLi120, mLi122, mLi127, mLi1584, mLi999999, mLim] at a0 a1 <;> omega) (by rfl))
theorem z_judge {ro : Nat → Nat × (Nat → Int32)} {Q : mPo} {d : Nat} {I : Nat → Nat → Int32} {L : Nat → Nat → Int64} {v0 v1 : Int32} (hI : mIC I) (hJ : mRJ ro) (hq : ∀ r I1, mFr [0, 9] I I1 → mIC I1 → r = mJdR (I 9) v0 v1 → (∀ j, I1 9 j = mJdN (I 9) v0 v1 j) → kC (cdN (mJdK v0 v1) True) I I1 → Q (some (.int r)) (mSH, I1, L))   : mWP mTb_ mFT ro (d + 7, 83, 0, [some (.ref 0), some (.int v0), some (.int v1), none], [], 0, 0, (mSH, I, L)) Q := by
  obtain ⟨hro1, hro1_0, hro1_1, hro1_2, hro2, hro2_0, hro2_1, hro2_2⟩ := hJ
  refine mB 4 (s2 := (d + 7, 83, 6, [some (.ref 0), some (.int v0), some (.int v1), none], [.int v1, .int v0, .ref 8], 0, 0, (mSH, I, L))) rfl ?_
  by_cases c0 : v0 = 0
  · refine mCall (s2 := (d + 6, 9, 0, [some (.ref 8), some (.int v0), some (.int v1)], [], 0, 0, (mSH, I, L))) rfl ?_
    refine mB 2 (s2 := (d + 6, 9, 2, [some (.ref 8), some (.int v0), some (.int v1)], [.int v0, .ref 8], 0, 0, (mSH, I, L))) rfl ?_
    refine mCall (s2 := (d + 5, 8, 0, [some (.ref 8), some (.int v0)], [], 0, 0, (mSH, I, L))) rfl ?_
    refine mB 1 (s2 := (d + 5, 8, 1, [some (.ref 8), some (.int v0)], [.int v0], 0, 0, (mSH, I, L))) rfl ?_
    refine mBF (s3 := (d + 5, 8, 4, [some (.ref 8), some (.int v0)], [], 0, 0, (mSH, I, L))) rfl (by first | (simp only [hro1, hro1_0, hro1_1, hro1_2, hro2, hro2_0, hro2_1, hro2_2, mTn0, mTn1, mTn2, c0]; first | decide | rfl) | decide | rfl) ?_
    refine mB 4 (s2 := (d + 5, 8, 10, [some (.ref 8), some (.int v0)], [.int 3, .int v0], 0, 0, (mSH, I, L))) rfl ?_
    refine mBF (s3 := (d + 5, 8, 13, [some (.ref 8), some (.int v0)], [], 0, 0, (mSH, I, L))) rfl (by first | (simp only [hro1, hro1_0, hro1_1, hro1_2, hro2, hro2_0, hro2_1, hro2_2, mTn0, mTn1, mTn2, c0]; first | decide | rfl) | decide | rfl) ?_
    refine mB 2 (s2 := (d + 5, 8, 18, [some (.ref 8), some (.int v0)], [.int 1], 0, 0, (mSH, I, L))) rfl ?_
    refine mRt (r := (some (.int 1))) (h := (mSH, I, L)) rfl rfl ?_
    show mWP mTb_ mFT ro (d + 6, 9, 5, [some (.ref 8), some (.int v0), some (.int v1)], [.int 1], 0, 0, (mSH, I, L)) _
    refine mBF (s3 := (d + 6, 9, 8, [some (.ref 8), some (.int v0), some (.int v1)], [], 0, 0, (mSH, I, L))) rfl (by decide) ?_
    refine mB 3 (s2 := (d + 6, 9, 13, [some (.ref 8), some (.int v0), some (.int v1)], [.int v0, .ref 1001, .int v1], 0, 0, (mSH, I, L))) rfl ?_
    refine mRq (s2 := (d + 6, 9, 14, [some (.ref 8), some (.int v0), some (.int v1)], [.int ((ro 1).2 v0.toNatClampNeg), .int v1], 0, 0, (mSH, I, L))) rfl (by first | (simp only [hro1, hro1_0, hro1_1, hro1_2, hro2, hro2_0, hro2_1, hro2_2, mTn0, mTn1, mTn2, c0]; first | decide | rfl) | decide | rfl) ?_
    refine mBr (s2 := (d + 6, 9, 30, [some (.ref 8), some (.int v0), some (.int v1)], [], 0, 0, (mSH, I, L))) (s3 := (d + 6, 9, 17, [some (.ref 8), some (.int v0), some (.int v1)], [], 0, 0, (mSH, I, L))) rfl (fun c1 => ?_) (fun c1 => ?_)
    · refine mB 1 (s2 := (d + 6, 9, 31, [some (.ref 8), some (.int v0), some (.int v1)], [.int 0], 0, 0, (mSH, I, L))) rfl ?_
      refine mRt (r := (some (.int 0))) (h := (mSH, I, L)) rfl rfl ?_
      show mWP mTb_ mFT ro (d + 7, 83, 9, [some (.ref 0), some (.int v0), some (.int v1), none], [.int 0], 0, 0, (mSH, I, L)) _
      refine mBT (s2 := (d + 7, 83, 12, [some (.ref 0), some (.int v0), some (.int v1), none], [], 0, 0, (mSH, I, L))) rfl (by decide) ?_
      refine mB 2 (s2 := (d + 7, 83, 15, [some (.ref 0), some (.int v0), some (.int v1), none], [.int (-2), .ref 0], 0, 0, (mSH, I, L))) rfl ?_
      refine mCall (s2 := (d + 6, 103, 0, [some (.ref 0), some (.int (-2))], [], 0, 0, (mSH, I, L))) rfl ?_
      refine mB 2 (s2 := (d + 6, 103, 3, [some (.ref 0), some (.int (-2))], [.int (-2), .int (-2)], 0, 0, (mSH, I, L))) rfl ?_
      refine mBT (s2 := (d + 6, 103, 6, [some (.ref 0), some (.int (-2))], [], 0, 0, (mSH, I, L))) rfl (by decide) ?_
      refine mB 8 (s2 := (d + 6, 103, 49, [some (.ref 0), some (.int (-2))], [.int (-2)], 0, 0, (mSH, (mUp I 0 9 ((I 0 9) + 1)), L))) rfl ?_
      refine mRt (r := (some (.int (-2)))) (h := (mSH, (mUp I 0 9 ((I 0 9) + 1)), L)) rfl (mRet_int rfl) ?_
      show mWP mTb_ mFT ro (d + 7, 83, 18, [some (.ref 0), some (.int v0), some (.int v1), none], [.int (-2)], 0, 0, (mSH, (mUp I 0 9 ((I 0 9) + 1)), L)) _
      refine mRt (r := (some (.int (-2)))) (h := (mSH, (mUp I 0 9 ((I 0 9) + 1)), L)) rfl (mRet_int rfl) ?_
      exact hq _ _ (mFr.up (by rfl) mFr.rf) ⟨hI.1, hI.2.1, hI.2.2.1, hI.2.2.2.1, hI.2.2.2.2.1, hI.2.2.2.2.2.1, (mRk.up hI.2.2.2.2.2.2 (by rfl) (by rfl))⟩ (if_neg (by have b0 : (v0).toInt = 0 := (by have z := c0; rw [z]; rfl); have a0 := of_decide_eq_true c1; simp only [hro1, hro1_0, hro1_1, hro1_2, hro2, hro2_0, hro2_1, hro2_2, mTn0, mTn1, mTn2, c0, Int32.lt_iff_toInt_lt, Int32.le_iff_toInt_le, ← Int32.toInt_inj, mLi0, mLi1, mLi2, mLi3, mLi4, mLi5, mLi6, mLi7, mLi8, mLi9, mLi10, mLi16, mLi32, mLi48, mLi57, mLi59, mLi65, mLi90, mLi97, mLi99, mLi120, mLi122, mLi127, mLi1584, mLi999999, mLim] at a0 <;> omega)).symm (mJd0 (by have b0 : (v0).toInt = 0 := (by have z := c0; rw [z]; rfl); have a0 := of_decide_eq_true c1; simp only [hro1, hro1_0, hro1_1, hro1_2, hro2, hro2_0, hro2_1, hro2_2, mTn0, mTn1, mTn2, c0, Int32.lt_iff_toInt_lt, Int32.le_iff_toInt_le, ← Int32.toInt_inj, mLi0, mLi1, mLi2, mLi3, mLi4, mLi5, mLi6, mLi7, mLi8, mLi9, mLi10, mLi16, mLi32, mLi48, mLi57, mLi59, mLi65, mLi90, mLi97, mLi99, mLi120, mLi122, mLi127, mLi1584, mLi999999, mLim] at a0 <;> omega)) (kc_1 (by have b0 : (v0).toInt = 0 := (by have z := c0; rw [z]; rfl); have a0 := of_decide_eq_true c1; simp only [hro1, hro1_0, hro1_1, hro1_2, hro2, hro2_0, hro2_1, hro2_2, mTn0, mTn1, mTn2, c0, Int32.lt_iff_toInt_lt, Int32.le_iff_toInt_le, ← Int32.toInt_inj, mLi0, mLi1, mLi2, mLi3, mLi4, mLi5, mLi6, mLi7, mLi8, mLi9, mLi10, mLi16, mLi32, mLi48, mLi57, mLi59, mLi65, mLi90, mLi97, mLi99, mLi120, mLi122, mLi127, mLi1584, mLi999999, mLim] at a0 <;> omega) (by rfl))
    · refine mB 3 (s2 := (d + 6, 9, 22, [some (.ref 8), some (.int v0), some (.int v1)], [.int v0, .ref 1002, .int v1], 0, 0, (mSH, I, L))) rfl ?_
      refine mRq (s2 := (d + 6, 9, 23, [some (.ref 8), some (.int v0), some (.int v1)], [.int ((ro 2).2 v0.toNatClampNeg), .int v1], 0, 0, (mSH, I, L))) rfl (by first | (simp only [hro1, hro1_0, hro1_1, hro1_2, hro2, hro2_0, hro2_1, hro2_2, mTn0, mTn1, mTn2, c0]; first | decide | rfl) | decide | rfl) ?_
      refine mBr (s2 := (d + 6, 9, 30, [some (.ref 8), some (.int v0), some (.int v1)], [], 0, 0, (mSH, I, L))) (s3 := (d + 6, 9, 26, [some (.ref 8), some (.int v0), some (.int v1)], [], 0, 0, (mSH, I, L))) rfl (fun c2 => ?_) (fun c2 => ?_)
      · refine mB 1 (s2 := (d + 6, 9, 31, [some (.ref 8), some (.int v0), some (.int v1)], [.int 0], 0, 0, (mSH, I, L))) rfl ?_
        refine mRt (r := (some (.int 0))) (h := (mSH, I, L)) rfl rfl ?_
        show mWP mTb_ mFT ro (d + 7, 83, 9, [some (.ref 0), some (.int v0), some (.int v1), none], [.int 0], 0, 0, (mSH, I, L)) _
        refine mBT (s2 := (d + 7, 83, 12, [some (.ref 0), some (.int v0), some (.int v1), none], [], 0, 0, (mSH, I, L))) rfl (by decide) ?_
        refine mB 2 (s2 := (d + 7, 83, 15, [some (.ref 0), some (.int v0), some (.int v1), none], [.int (-2), .ref 0], 0, 0, (mSH, I, L))) rfl ?_
        refine mCall (s2 := (d + 6, 103, 0, [some (.ref 0), some (.int (-2))], [], 0, 0, (mSH, I, L))) rfl ?_
        refine mB 2 (s2 := (d + 6, 103, 3, [some (.ref 0), some (.int (-2))], [.int (-2), .int (-2)], 0, 0, (mSH, I, L))) rfl ?_
        refine mBT (s2 := (d + 6, 103, 6, [some (.ref 0), some (.int (-2))], [], 0, 0, (mSH, I, L))) rfl (by decide) ?_
        refine mB 8 (s2 := (d + 6, 103, 49, [some (.ref 0), some (.int (-2))], [.int (-2)], 0, 0, (mSH, (mUp I 0 9 ((I 0 9) + 1)), L))) rfl ?_
        refine mRt (r := (some (.int (-2)))) (h := (mSH, (mUp I 0 9 ((I 0 9) + 1)), L)) rfl (mRet_int rfl) ?_
        show mWP mTb_ mFT ro (d + 7, 83, 18, [some (.ref 0), some (.int v0), some (.int v1), none], [.int (-2)], 0, 0, (mSH, (mUp I 0 9 ((I 0 9) + 1)), L)) _
        refine mRt (r := (some (.int (-2)))) (h := (mSH, (mUp I 0 9 ((I 0 9) + 1)), L)) rfl (mRet_int rfl) ?_
        exact hq _ _ (mFr.up (by rfl) mFr.rf) ⟨hI.1, hI.2.1, hI.2.2.1, hI.2.2.2.1, hI.2.2.2.2.1, hI.2.2.2.2.2.1, (mRk.up hI.2.2.2.2.2.2 (by rfl) (by rfl))⟩ (if_neg (by have b0 : (v0).toInt = 0 := (by have z := c0; rw [z]; rfl); have a0 := of_decide_eq_false c1; have a1 := of_decide_eq_true c2; simp only [hro1, hro1_0, hro1_1, hro1_2, hro2, hro2_0, hro2_1, hro2_2, mTn0, mTn1, mTn2, c0, Int32.lt_iff_toInt_lt, Int32.le_iff_toInt_le, ← Int32.toInt_inj, mLi0, mLi1, mLi2, mLi3, mLi4, mLi5, mLi6, mLi7, mLi8, mLi9, mLi10, mLi16, mLi32, mLi48, mLi57, mLi59, mLi65, mLi90, mLi97, mLi99, mLi120, mLi122, mLi127, mLi1584, mLi999999, mLim] at a0 a1 <;> omega)).symm (mJd0 (by have b0 : (v0).toInt = 0 := (by have z := c0; rw [z]; rfl); have a0 := of_decide_eq_false c1; have a1 := of_decide_eq_true c2; simp only [hro1, hro1_0, hro1_1, hro1_2, hro2, hro2_0, hro2_1, hro2_2, mTn0, mTn1, mTn2, c0, Int32.lt_iff_toInt_lt, Int32.le_iff_toInt_le, ← Int32.toInt_inj, mLi0, mLi1, mLi2, mLi3, mLi4, mLi5, mLi6, mLi7, mLi8, mLi9, mLi10, mLi16, mLi32, mLi48, mLi57, mLi59, mLi65, mLi90, mLi97, mLi99, mLi120, mLi122, mLi127, mLi1584, mLi999999, mLim] at a0 a1 <;> omega)) (kc_1 (by have b0 : (v0).toInt = 0 := (by have z := c0; rw [z]; rfl); have a0 := of_decide_eq_false c1; have a1 := of_decide_eq_true c2; simp only [hro1, hro1_0, hro1_1, hro1_2, hro2, hro2_0, hro2_1, hro2_2, mTn0, mTn1, mTn2, c0, Int32.lt_iff_toInt_lt, Int32.le_iff_toInt_le, ← Int32.toInt_inj, mLi0, mLi1, mLi2, mLi3, mLi4, mLi5, mLi6, mLi7, mLi8, mLi9, mLi10, mLi16, mLi32, mLi48, mLi57, mLi59, mLi65, mLi90, mLi97, mLi99, mLi120, mLi122, mLi127, mLi1584, mLi999999, mLim] at a0 a1 <;> omega) (by rfl))
      · refine mB 2 (s2 := (d + 6, 9, 31, [some (.ref 8), some (.int v0), some (.int v1)], [.int 1], 0, 0, (mSH, I, L))) rfl ?_
        refine mRt (r := (some (.int 1))) (h := (mSH, I, L)) rfl rfl ?_
        show mWP mTb_ mFT ro (d + 7, 83, 9, [some (.ref 0), some (.int v0), some (.int v1), none], [.int 1], 0, 0, (mSH, I, L)) _
        refine mBF (s3 := (d + 7, 83, 19, [some (.ref 0), some (.int v0), some (.int v1), none], [], 0, 0, (mSH, I, L))) rfl (by decide) ?_
        refine mB 3 (s2 := (d + 7, 83, 24, [some (.ref 0), some (.int v0), some (.int v1), none], [.int v0, .ref 8], 0, 0, (mSH, I, L))) rfl ?_
        refine mCall (s2 := (d + 6, 10, 0, [some (.ref 8), some (.int v0)], [], 0, 0, (mSH, I, L))) rfl ?_
        refine mB 2 (s2 := (d + 6, 10, 2, [some (.ref 8), some (.int v0)], [.int v0, .ref 8], 0, 0, (mSH, I, L))) rfl ?_
        refine mCall (s2 := (d + 5, 8, 0, [some (.ref 8), some (.int v0)], [], 0, 0, (mSH, I, L))) rfl ?_
        refine mB 1 (s2 := (d + 5, 8, 1, [some (.ref 8), some (.int v0)], [.int v0], 0, 0, (mSH, I, L))) rfl ?_
        refine mBF (s3 := (d + 5, 8, 4, [some (.ref 8), some (.int v0)], [], 0, 0, (mSH, I, L))) rfl (by first | (simp only [hro1, hro1_0, hro1_1, hro1_2, hro2, hro2_0, hro2_1, hro2_2, mTn0, mTn1, mTn2, c0]; first | decide | rfl) | decide | rfl) ?_
        refine mB 4 (s2 := (d + 5, 8, 10, [some (.ref 8), some (.int v0)], [.int 3, .int v0], 0, 0, (mSH, I, L))) rfl ?_
        refine mBF (s3 := (d + 5, 8, 13, [some (.ref 8), some (.int v0)], [], 0, 0, (mSH, I, L))) rfl (by first | (simp only [hro1, hro1_0, hro1_1, hro1_2, hro2, hro2_0, hro2_1, hro2_2, mTn0, mTn1, mTn2, c0]; first | decide | rfl) | decide | rfl) ?_
        refine mB 2 (s2 := (d + 5, 8, 18, [some (.ref 8), some (.int v0)], [.int 1], 0, 0, (mSH, I, L))) rfl ?_
        refine mRt (r := (some (.int 1))) (h := (mSH, I, L)) rfl rfl ?_
        show mWP mTb_ mFT ro (d + 6, 10, 5, [some (.ref 8), some (.int v0)], [.int 1], 0, 0, (mSH, I, L)) _
        refine mBF (s3 := (d + 6, 10, 8, [some (.ref 8), some (.int v0)], [], 0, 0, (mSH, I, L))) rfl (by decide) ?_
        refine mB 3 (s2 := (d + 6, 10, 13, [some (.ref 8), some (.int v0)], [.int v0, .ref 9], 0, 0, (mSH, I, L))) rfl ?_
        refine mRq (s2 := (d + 6, 10, 14, [some (.ref 8), some (.int v0)], [.int (I 9 v0.toNatClampNeg)], 0, 0, (mSH, I, L))) rfl (by first | (simp only [hro1, hro1_0, hro1_1, hro1_2, hro2, hro2_0, hro2_1, hro2_2, mTn0, mTn1, mTn2, c0]; first | decide | rfl) | decide | rfl) ?_
        refine mB 1 (s2 := (d + 6, 10, 18, [some (.ref 8), some (.int v0)], [.int (I 9 v0.toNatClampNeg)], 0, 0, (mSH, I, L))) rfl ?_
        refine mRt (r := (some (.int (I 9 v0.toNatClampNeg)))) (h := (mSH, I, L)) rfl (mRet_int rfl) ?_
        show mWP mTb_ mFT ro (d + 7, 83, 27, [some (.ref 0), some (.int v0), some (.int v1), none], [.int (I 9 v0.toNatClampNeg)], 0, 0, (mSH, I, L)) _
        refine mB 5 (s2 := (d + 7, 83, 34, [some (.ref 0), some (.int v0), some (.int v1), some (.int (I 9 v0.toNatClampNeg))], [.int v1, .int v0, .ref 8], 0, 0, (mSH, I, L))) rfl ?_
        refine mCall (s2 := (d + 6, 11, 0, [some (.ref 8), some (.int v0), some (.int v1)], [], 0, 0, (mSH, I, L))) rfl ?_
        refine mB 2 (s2 := (d + 6, 11, 2, [some (.ref 8), some (.int v0), some (.int v1)], [.int v0, .ref 8], 0, 0, (mSH, I, L))) rfl ?_
        refine mCall (s2 := (d + 5, 8, 0, [some (.ref 8), some (.int v0)], [], 0, 0, (mSH, I, L))) rfl ?_
        refine mB 1 (s2 := (d + 5, 8, 1, [some (.ref 8), some (.int v0)], [.int v0], 0, 0, (mSH, I, L))) rfl ?_
        refine mBF (s3 := (d + 5, 8, 4, [some (.ref 8), some (.int v0)], [], 0, 0, (mSH, I, L))) rfl (by first | (simp only [hro1, hro1_0, hro1_1, hro1_2, hro2, hro2_0, hro2_1, hro2_2, mTn0, mTn1, mTn2, c0]; first | decide | rfl) | decide | rfl) ?_
        refine mB 4 (s2 := (d + 5, 8, 10, [some (.ref 8), some (.int v0)], [.int 3, .int v0], 0, 0, (mSH, I, L))) rfl ?_
        refine mBF (s3 := (d + 5, 8, 13, [some (.ref 8), some (.int v0)], [], 0, 0, (mSH, I, L))) rfl (by first | (simp only [hro1, hro1_0, hro1_1, hro1_2, hro2, hro2_0, hro2_1, hro2_2, mTn0, mTn1, mTn2, c0]; first | decide | rfl) | decide | rfl) ?_
        refine mB 2 (s2 := (d + 5, 8, 18, [some (.ref 8), some (.int v0)], [.int 1], 0, 0, (mSH, I, L))) rfl ?_
        refine mRt (r := (some (.int 1))) (h := (mSH, I, L)) rfl rfl ?_
        show mWP mTb_ mFT ro (d + 6, 11, 5, [some (.ref 8), some (.int v0), some (.int v1)], [.int 1], 0, 0, (mSH, I, L)) _
        refine mBF (s3 := (d + 6, 11, 8, [some (.ref 8), some (.int v0), some (.int v1)], [], 0, 0, (mSH, I, L))) rfl (by decide) ?_
        refine mB 4 (s2 := (d + 6, 11, 14, [some (.ref 8), some (.int v0), some (.int v1)], [.int v1, .int v0, .ref 9], 0, 0, (mSH, I, L))) rfl ?_
        refine mRq (s2 := (d + 6, 11, 15, [some (.ref 8), some (.int v0), some (.int v1)], [], 0, 0, (mSH, (mUp I 9 v0.toNatClampNeg v1), L))) rfl (by first | (simp only [hro1, hro1_0, hro1_1, hro1_2, hro2, hro2_0, hro2_1, hro2_2, mTn0, mTn1, mTn2, c0]; first | decide | rfl) | decide | rfl) ?_
        refine mRt (r := none) (h := (mSH, (mUp I 9 v0.toNatClampNeg v1), L)) rfl rfl ?_
        show mWP mTb_ mFT ro (d + 7, 83, 37, [some (.ref 0), some (.int v0), some (.int v1), some (.int (I 9 v0.toNatClampNeg))], [], 0, 0, (mSH, (mUp I 9 v0.toNatClampNeg v1), L)) _
        refine mB 1 (s2 := (d + 7, 83, 38, [some (.ref 0), some (.int v0), some (.int v1), some (.int (I 9 v0.toNatClampNeg))], [.int (I 9 v0.toNatClampNeg)], 0, 0, (mSH, (mUp I 9 v0.toNatClampNeg v1), L))) rfl ?_
        refine mRt (r := (some (.int (I 9 v0.toNatClampNeg)))) (h := (mSH, (mUp I 9 v0.toNatClampNeg v1), L)) rfl (mRet_int rfl) ?_
        exact hq _ _ (mFr.up (by rfl) mFr.rf) ⟨hI.1, hI.2.1, hI.2.2.1, hI.2.2.2.1, hI.2.2.2.2.1, hI.2.2.2.2.2.1, (mRk.up hI.2.2.2.2.2.2 (by rfl) (by rfl))⟩ (if_pos (by have b0 : (v0).toInt = 0 := (by have z := c0; rw [z]; rfl); have a0 := of_decide_eq_false c1; have a1 := of_decide_eq_false c2; simp only [hro1, hro1_0, hro1_1, hro1_2, hro2, hro2_0, hro2_1, hro2_2, mTn0, mTn1, mTn2, c0, Int32.lt_iff_toInt_lt, Int32.le_iff_toInt_le, ← Int32.toInt_inj, mLi0, mLi1, mLi2, mLi3, mLi4, mLi5, mLi6, mLi7, mLi8, mLi9, mLi10, mLi16, mLi32, mLi48, mLi57, mLi59, mLi65, mLi90, mLi97, mLi99, mLi120, mLi122, mLi127, mLi1584, mLi999999, mLim] at a0 a1 <;> omega)).symm (mJd1 (by have b0 : (v0).toInt = 0 := (by have z := c0; rw [z]; rfl); have a0 := of_decide_eq_false c1; have a1 := of_decide_eq_false c2; simp only [hro1, hro1_0, hro1_1, hro1_2, hro2, hro2_0, hro2_1, hro2_2, mTn0, mTn1, mTn2, c0, Int32.lt_iff_toInt_lt, Int32.le_iff_toInt_le, ← Int32.toInt_inj, mLi0, mLi1, mLi2, mLi3, mLi4, mLi5, mLi6, mLi7, mLi8, mLi9, mLi10, mLi16, mLi32, mLi48, mLi57, mLi59, mLi65, mLi90, mLi97, mLi99, mLi120, mLi122, mLi127, mLi1584, mLi999999, mLim] at a0 a1 <;> omega)) (kc_0 (by have b0 : (v0).toInt = 0 := (by have z := c0; rw [z]; rfl); have a0 := of_decide_eq_false c1; have a1 := of_decide_eq_false c2; simp only [hro1, hro1_0, hro1_1, hro1_2, hro2, hro2_0, hro2_1, hro2_2, mTn0, mTn1, mTn2, c0, Int32.lt_iff_toInt_lt, Int32.le_iff_toInt_le, ← Int32.toInt_inj, mLi0, mLi1, mLi2, mLi3, mLi4, mLi5, mLi6, mLi7, mLi8, mLi9, mLi10, mLi16, mLi32, mLi48, mLi57, mLi59, mLi65, mLi90, mLi97, mLi99, mLi120, mLi122, mLi127, mLi1584, mLi999999, mLim] at a0 a1 <;> omega) trivial (by rfl))
  · by_cases c1 : v0 = 1
    · refine mCall (s2 := (d + 6, 9, 0, [some (.ref 8), some (.int v0), some (.int v1)], [], 0, 0, (mSH, I, L))) rfl ?_
      refine mB 2 (s2 := (d + 6, 9, 2, [some (.ref 8), some (.int v0), some (.int v1)], [.int v0, .ref 8], 0, 0, (mSH, I, L))) rfl ?_
      refine mCall (s2 := (d + 5, 8, 0, [some (.ref 8), some (.int v0)], [], 0, 0, (mSH, I, L))) rfl ?_
      refine mB 1 (s2 := (d + 5, 8, 1, [some (.ref 8), some (.int v0)], [.int v0], 0, 0, (mSH, I, L))) rfl ?_
      refine mBF (s3 := (d + 5, 8, 4, [some (.ref 8), some (.int v0)], [], 0, 0, (mSH, I, L))) rfl (by first | (simp only [hro1, hro1_0, hro1_1, hro1_2, hro2, hro2_0, hro2_1, hro2_2, mTn0, mTn1, mTn2, c1]; first | decide | rfl) | decide | rfl) ?_
      refine mB 4 (s2 := (d + 5, 8, 10, [some (.ref 8), some (.int v0)], [.int 3, .int v0], 0, 0, (mSH, I, L))) rfl ?_
      refine mBF (s3 := (d + 5, 8, 13, [some (.ref 8), some (.int v0)], [], 0, 0, (mSH, I, L))) rfl (by first | (simp only [hro1, hro1_0, hro1_1, hro1_2, hro2, hro2_0, hro2_1, hro2_2, mTn0, mTn1, mTn2, c1]; first | decide | rfl) | decide | rfl) ?_
      refine mB 2 (s2 := (d + 5, 8, 18, [some (.ref 8), some (.int v0)], [.int 1], 0, 0, (mSH, I, L))) rfl ?_
      refine mRt (r := (some (.int 1))) (h := (mSH, I, L)) rfl rfl ?_
      show mWP mTb_ mFT ro (d + 6, 9, 5, [some (.ref 8), some (.int v0), some (.int v1)], [.int 1], 0, 0, (mSH, I, L)) _
      refine mBF (s3 := (d + 6, 9, 8, [some (.ref 8), some (.int v0), some (.int v1)], [], 0, 0, (mSH, I, L))) rfl (by decide) ?_
      refine mB 3 (s2 := (d + 6, 9, 13, [some (.ref 8), some (.int v0), some (.int v1)], [.int v0, .ref 1001, .int v1], 0, 0, (mSH, I, L))) rfl ?_
      refine mRq (s2 := (d + 6, 9, 14, [some (.ref 8), some (.int v0), some (.int v1)], [.int ((ro 1).2 v0.toNatClampNeg), .int v1], 0, 0, (mSH, I, L))) rfl (by first | (simp only [hro1, hro1_0, hro1_1, hro1_2, hro2, hro2_0, hro2_1, hro2_2, mTn0, mTn1, mTn2, c1]; first | decide | rfl) | decide | rfl) ?_
      refine mBr (s2 := (d + 6, 9, 30, [some (.ref 8), some (.int v0), some (.int v1)], [], 0, 0, (mSH, I, L))) (s3 := (d + 6, 9, 17, [some (.ref 8), some (.int v0), some (.int v1)], [], 0, 0, (mSH, I, L))) rfl (fun c2 => ?_) (fun c2 => ?_)
      · refine mB 1 (s2 := (d + 6, 9, 31, [some (.ref 8), some (.int v0), some (.int v1)], [.int 0], 0, 0, (mSH, I, L))) rfl ?_
        refine mRt (r := (some (.int 0))) (h := (mSH, I, L)) rfl rfl ?_
        show mWP mTb_ mFT ro (d + 7, 83, 9, [some (.ref 0), some (.int v0), some (.int v1), none], [.int 0], 0, 0, (mSH, I, L)) _
        refine mBT (s2 := (d + 7, 83, 12, [some (.ref 0), some (.int v0), some (.int v1), none], [], 0, 0, (mSH, I, L))) rfl (by decide) ?_
        refine mB 2 (s2 := (d + 7, 83, 15, [some (.ref 0), some (.int v0), some (.int v1), none], [.int (-2), .ref 0], 0, 0, (mSH, I, L))) rfl ?_
        refine mCall (s2 := (d + 6, 103, 0, [some (.ref 0), some (.int (-2))], [], 0, 0, (mSH, I, L))) rfl ?_
        refine mB 2 (s2 := (d + 6, 103, 3, [some (.ref 0), some (.int (-2))], [.int (-2), .int (-2)], 0, 0, (mSH, I, L))) rfl ?_
        refine mBT (s2 := (d + 6, 103, 6, [some (.ref 0), some (.int (-2))], [], 0, 0, (mSH, I, L))) rfl (by decide) ?_
        refine mB 8 (s2 := (d + 6, 103, 49, [some (.ref 0), some (.int (-2))], [.int (-2)], 0, 0, (mSH, (mUp I 0 9 ((I 0 9) + 1)), L))) rfl ?_
        refine mRt (r := (some (.int (-2)))) (h := (mSH, (mUp I 0 9 ((I 0 9) + 1)), L)) rfl (mRet_int rfl) ?_
        show mWP mTb_ mFT ro (d + 7, 83, 18, [some (.ref 0), some (.int v0), some (.int v1), none], [.int (-2)], 0, 0, (mSH, (mUp I 0 9 ((I 0 9) + 1)), L)) _
        refine mRt (r := (some (.int (-2)))) (h := (mSH, (mUp I 0 9 ((I 0 9) + 1)), L)) rfl (mRet_int rfl) ?_
        exact hq _ _ (mFr.up (by rfl) mFr.rf) ⟨hI.1, hI.2.1, hI.2.2.1, hI.2.2.2.1, hI.2.2.2.2.1, hI.2.2.2.2.2.1, (mRk.up hI.2.2.2.2.2.2 (by rfl) (by rfl))⟩ (if_neg (by have b0 : (v0).toInt = 1 := (by have z := c1; rw [z]; rfl); have a0 := c0; have a1 := of_decide_eq_true c2; simp only [hro1, hro1_0, hro1_1, hro1_2, hro2, hro2_0, hro2_1, hro2_2, mTn0, mTn1, mTn2, c1, Int32.lt_iff_toInt_lt, Int32.le_iff_toInt_le, ← Int32.toInt_inj, mLi0, mLi1, mLi2, mLi3, mLi4, mLi5, mLi6, mLi7, mLi8, mLi9, mLi10, mLi16, mLi32, mLi48, mLi57, mLi59, mLi65, mLi90, mLi97, mLi99, mLi120, mLi122, mLi127, mLi1584, mLi999999, mLim] at a0 a1 <;> omega)).symm (mJd0 (by have b0 : (v0).toInt = 1 := (by have z := c1; rw [z]; rfl); have a0 := c0; have a1 := of_decide_eq_true c2; simp only [hro1, hro1_0, hro1_1, hro1_2, hro2, hro2_0, hro2_1, hro2_2, mTn0, mTn1, mTn2, c1, Int32.lt_iff_toInt_lt, Int32.le_iff_toInt_le, ← Int32.toInt_inj, mLi0, mLi1, mLi2, mLi3, mLi4, mLi5, mLi6, mLi7, mLi8, mLi9, mLi10, mLi16, mLi32, mLi48, mLi57, mLi59, mLi65, mLi90, mLi97, mLi99, mLi120, mLi122, mLi127, mLi1584, mLi999999, mLim] at a0 a1 <;> omega)) (kc_1 (by have b0 : (v0).toInt = 1 := (by have z := c1; rw [z]; rfl); have a0 := c0; have a1 := of_decide_eq_true c2; simp only [hro1, hro1_0, hro1_1, hro1_2, hro2, hro2_0, hro2_1, hro2_2, mTn0, mTn1, mTn2, c1, Int32.lt_iff_toInt_lt, Int32.le_iff_toInt_le, ← Int32.toInt_inj, mLi0, mLi1, mLi2, mLi3, mLi4, mLi5, mLi6, mLi7, mLi8, mLi9, mLi10, mLi16, mLi32, mLi48, mLi57, mLi59, mLi65, mLi90, mLi97, mLi99, mLi120, mLi122, mLi127, mLi1584, mLi999999, mLim] at a0 a1 <;> omega) (by rfl))
      · refine mB 3 (s2 := (d + 6, 9, 22, [some (.ref 8), some (.int v0), some (.int v1)], [.int v0, .ref 1002, .int v1], 0, 0, (mSH, I, L))) rfl ?_
        refine mRq (s2 := (d + 6, 9, 23, [some (.ref 8), some (.int v0), some (.int v1)], [.int ((ro 2).2 v0.toNatClampNeg), .int v1], 0, 0, (mSH, I, L))) rfl (by first | (simp only [hro1, hro1_0, hro1_1, hro1_2, hro2, hro2_0, hro2_1, hro2_2, mTn0, mTn1, mTn2, c1]; first | decide | rfl) | decide | rfl) ?_
        refine mBr (s2 := (d + 6, 9, 30, [some (.ref 8), some (.int v0), some (.int v1)], [], 0, 0, (mSH, I, L))) (s3 := (d + 6, 9, 26, [some (.ref 8), some (.int v0), some (.int v1)], [], 0, 0, (mSH, I, L))) rfl (fun c3 => ?_) (fun c3 => ?_)
        · refine mB 1 (s2 := (d + 6, 9, 31, [some (.ref 8), some (.int v0), some (.int v1)], [.int 0], 0, 0, (mSH, I, L))) rfl ?_
          refine mRt (r := (some (.int 0))) (h := (mSH, I, L)) rfl rfl ?_
          show mWP mTb_ mFT ro (d + 7, 83, 9, [some (.ref 0), some (.int v0), some (.int v1), none], [.int 0], 0, 0, (mSH, I, L)) _
          refine mBT (s2 := (d + 7, 83, 12, [some (.ref 0), some (.int v0), some (.int v1), none], [], 0, 0, (mSH, I, L))) rfl (by decide) ?_
          refine mB 2 (s2 := (d + 7, 83, 15, [some (.ref 0), some (.int v0), some (.int v1), none], [.int (-2), .ref 0], 0, 0, (mSH, I, L))) rfl ?_
          refine mCall (s2 := (d + 6, 103, 0, [some (.ref 0), some (.int (-2))], [], 0, 0, (mSH, I, L))) rfl ?_
          refine mB 2 (s2 := (d + 6, 103, 3, [some (.ref 0), some (.int (-2))], [.int (-2), .int (-2)], 0, 0, (mSH, I, L))) rfl ?_
          refine mBT (s2 := (d + 6, 103, 6, [some (.ref 0), some (.int (-2))], [], 0, 0, (mSH, I, L))) rfl (by decide) ?_
          refine mB 8 (s2 := (d + 6, 103, 49, [some (.ref 0), some (.int (-2))], [.int (-2)], 0, 0, (mSH, (mUp I 0 9 ((I 0 9) + 1)), L))) rfl ?_
          refine mRt (r := (some (.int (-2)))) (h := (mSH, (mUp I 0 9 ((I 0 9) + 1)), L)) rfl (mRet_int rfl) ?_
          show mWP mTb_ mFT ro (d + 7, 83, 18, [some (.ref 0), some (.int v0), some (.int v1), none], [.int (-2)], 0, 0, (mSH, (mUp I 0 9 ((I 0 9) + 1)), L)) _
          refine mRt (r := (some (.int (-2)))) (h := (mSH, (mUp I 0 9 ((I 0 9) + 1)), L)) rfl (mRet_int rfl) ?_
          exact hq _ _ (mFr.up (by rfl) mFr.rf) ⟨hI.1, hI.2.1, hI.2.2.1, hI.2.2.2.1, hI.2.2.2.2.1, hI.2.2.2.2.2.1, (mRk.up hI.2.2.2.2.2.2 (by rfl) (by rfl))⟩ (if_neg (by have b0 : (v0).toInt = 1 := (by have z := c1; rw [z]; rfl); have a0 := c0; have a1 := of_decide_eq_false c2; have a2 := of_decide_eq_true c3; simp only [hro1, hro1_0, hro1_1, hro1_2, hro2, hro2_0, hro2_1, hro2_2, mTn0, mTn1, mTn2, c1, Int32.lt_iff_toInt_lt, Int32.le_iff_toInt_le, ← Int32.toInt_inj, mLi0, mLi1, mLi2, mLi3, mLi4, mLi5, mLi6, mLi7, mLi8, mLi9, mLi10, mLi16, mLi32, mLi48, mLi57, mLi59, mLi65, mLi90, mLi97, mLi99, mLi120, mLi122, mLi127, mLi1584, mLi999999, mLim] at a0 a1 a2 <;> omega)).symm (mJd0 (by have b0 : (v0).toInt = 1 := (by have z := c1; rw [z]; rfl); have a0 := c0; have a1 := of_decide_eq_false c2; have a2 := of_decide_eq_true c3; simp only [hro1, hro1_0, hro1_1, hro1_2, hro2, hro2_0, hro2_1, hro2_2, mTn0, mTn1, mTn2, c1, Int32.lt_iff_toInt_lt, Int32.le_iff_toInt_le, ← Int32.toInt_inj, mLi0, mLi1, mLi2, mLi3, mLi4, mLi5, mLi6, mLi7, mLi8, mLi9, mLi10, mLi16, mLi32, mLi48, mLi57, mLi59, mLi65, mLi90, mLi97, mLi99, mLi120, mLi122, mLi127, mLi1584, mLi999999, mLim] at a0 a1 a2 <;> omega)) (kc_1 (by have b0 : (v0).toInt = 1 := (by have z := c1; rw [z]; rfl); have a0 := c0; have a1 := of_decide_eq_false c2; have a2 := of_decide_eq_true c3; simp only [hro1, hro1_0, hro1_1, hro1_2, hro2, hro2_0, hro2_1, hro2_2, mTn0, mTn1, mTn2, c1, Int32.lt_iff_toInt_lt, Int32.le_iff_toInt_le, ← Int32.toInt_inj, mLi0, mLi1, mLi2, mLi3, mLi4, mLi5, mLi6, mLi7, mLi8, mLi9, mLi10, mLi16, mLi32, mLi48, mLi57, mLi59, mLi65, mLi90, mLi97, mLi99, mLi120, mLi122, mLi127, mLi1584, mLi999999, mLim] at a0 a1 a2 <;> omega) (by rfl))
        · refine mB 2 (s2 := (d + 6, 9, 31, [some (.ref 8), some (.int v0), some (.int v1)], [.int 1], 0, 0, (mSH, I, L))) rfl ?_
          refine mRt (r := (some (.int 1))) (h := (mSH, I, L)) rfl rfl ?_
          show mWP mTb_ mFT ro (d + 7, 83, 9, [some (.ref 0), some (.int v0), some (.int v1), none], [.int 1], 0, 0, (mSH, I, L)) _
          refine mBF (s3 := (d + 7, 83, 19, [some (.ref 0), some (.int v0), some (.int v1), none], [], 0, 0, (mSH, I, L))) rfl (by decide) ?_
          refine mB 3 (s2 := (d + 7, 83, 24, [some (.ref 0), some (.int v0), some (.int v1), none], [.int v0, .ref 8], 0, 0, (mSH, I, L))) rfl ?_
          refine mCall (s2 := (d + 6, 10, 0, [some (.ref 8), some (.int v0)], [], 0, 0, (mSH, I, L))) rfl ?_
          refine mB 2 (s2 := (d + 6, 10, 2, [some (.ref 8), some (.int v0)], [.int v0, .ref 8], 0, 0, (mSH, I, L))) rfl ?_
          refine mCall (s2 := (d + 5, 8, 0, [some (.ref 8), some (.int v0)], [], 0, 0, (mSH, I, L))) rfl ?_
          refine mB 1 (s2 := (d + 5, 8, 1, [some (.ref 8), some (.int v0)], [.int v0], 0, 0, (mSH, I, L))) rfl ?_
          refine mBF (s3 := (d + 5, 8, 4, [some (.ref 8), some (.int v0)], [], 0, 0, (mSH, I, L))) rfl (by first | (simp only [hro1, hro1_0, hro1_1, hro1_2, hro2, hro2_0, hro2_1, hro2_2, mTn0, mTn1, mTn2, c1]; first | decide | rfl) | decide | rfl) ?_
          refine mB 4 (s2 := (d + 5, 8, 10, [some (.ref 8), some (.int v0)], [.int 3, .int v0], 0, 0, (mSH, I, L))) rfl ?_
          refine mBF (s3 := (d + 5, 8, 13, [some (.ref 8), some (.int v0)], [], 0, 0, (mSH, I, L))) rfl (by first | (simp only [hro1, hro1_0, hro1_1, hro1_2, hro2, hro2_0, hro2_1, hro2_2, mTn0, mTn1, mTn2, c1]; first | decide | rfl) | decide | rfl) ?_
          refine mB 2 (s2 := (d + 5, 8, 18, [some (.ref 8), some (.int v0)], [.int 1], 0, 0, (mSH, I, L))) rfl ?_
          refine mRt (r := (some (.int 1))) (h := (mSH, I, L)) rfl rfl ?_
          show mWP mTb_ mFT ro (d + 6, 10, 5, [some (.ref 8), some (.int v0)], [.int 1], 0, 0, (mSH, I, L)) _
          refine mBF (s3 := (d + 6, 10, 8, [some (.ref 8), some (.int v0)], [], 0, 0, (mSH, I, L))) rfl (by decide) ?_
          refine mB 3 (s2 := (d + 6, 10, 13, [some (.ref 8), some (.int v0)], [.int v0, .ref 9], 0, 0, (mSH, I, L))) rfl ?_
          refine mRq (s2 := (d + 6, 10, 14, [some (.ref 8), some (.int v0)], [.int (I 9 v0.toNatClampNeg)], 0, 0, (mSH, I, L))) rfl (by first | (simp only [hro1, hro1_0, hro1_1, hro1_2, hro2, hro2_0, hro2_1, hro2_2, mTn0, mTn1, mTn2, c1]; first | decide | rfl) | decide | rfl) ?_
          refine mB 1 (s2 := (d + 6, 10, 18, [some (.ref 8), some (.int v0)], [.int (I 9 v0.toNatClampNeg)], 0, 0, (mSH, I, L))) rfl ?_
          refine mRt (r := (some (.int (I 9 v0.toNatClampNeg)))) (h := (mSH, I, L)) rfl (mRet_int rfl) ?_
          show mWP mTb_ mFT ro (d + 7, 83, 27, [some (.ref 0), some (.int v0), some (.int v1), none], [.int (I 9 v0.toNatClampNeg)], 0, 0, (mSH, I, L)) _
          refine mB 5 (s2 := (d + 7, 83, 34, [some (.ref 0), some (.int v0), some (.int v1), some (.int (I 9 v0.toNatClampNeg))], [.int v1, .int v0, .ref 8], 0, 0, (mSH, I, L))) rfl ?_
          refine mCall (s2 := (d + 6, 11, 0, [some (.ref 8), some (.int v0), some (.int v1)], [], 0, 0, (mSH, I, L))) rfl ?_
          refine mB 2 (s2 := (d + 6, 11, 2, [some (.ref 8), some (.int v0), some (.int v1)], [.int v0, .ref 8], 0, 0, (mSH, I, L))) rfl ?_
          refine mCall (s2 := (d + 5, 8, 0, [some (.ref 8), some (.int v0)], [], 0, 0, (mSH, I, L))) rfl ?_
          refine mB 1 (s2 := (d + 5, 8, 1, [some (.ref 8), some (.int v0)], [.int v0], 0, 0, (mSH, I, L))) rfl ?_
          refine mBF (s3 := (d + 5, 8, 4, [some (.ref 8), some (.int v0)], [], 0, 0, (mSH, I, L))) rfl (by first | (simp only [hro1, hro1_0, hro1_1, hro1_2, hro2, hro2_0, hro2_1, hro2_2, mTn0, mTn1, mTn2, c1]; first | decide | rfl) | decide | rfl) ?_
          refine mB 4 (s2 := (d + 5, 8, 10, [some (.ref 8), some (.int v0)], [.int 3, .int v0], 0, 0, (mSH, I, L))) rfl ?_
          refine mBF (s3 := (d + 5, 8, 13, [some (.ref 8), some (.int v0)], [], 0, 0, (mSH, I, L))) rfl (by first | (simp only [hro1, hro1_0, hro1_1, hro1_2, hro2, hro2_0, hro2_1, hro2_2, mTn0, mTn1, mTn2, c1]; first | decide | rfl) | decide | rfl) ?_
          refine mB 2 (s2 := (d + 5, 8, 18, [some (.ref 8), some (.int v0)], [.int 1], 0, 0, (mSH, I, L))) rfl ?_
          refine mRt (r := (some (.int 1))) (h := (mSH, I, L)) rfl rfl ?_
          show mWP mTb_ mFT ro (d + 6, 11, 5, [some (.ref 8), some (.int v0), some (.int v1)], [.int 1], 0, 0, (mSH, I, L)) _
          refine mBF (s3 := (d + 6, 11, 8, [some (.ref 8), some (.int v0), some (.int v1)], [], 0, 0, (mSH, I, L))) rfl (by decide) ?_
          refine mB 4 (s2 := (d + 6, 11, 14, [some (.ref 8), some (.int v0), some (.int v1)], [.int v1, .int v0, .ref 9], 0, 0, (mSH, I, L))) rfl ?_
          refine mRq (s2 := (d + 6, 11, 15, [some (.ref 8), some (.int v0), some (.int v1)], [], 0, 0, (mSH, (mUp I 9 v0.toNatClampNeg v1), L))) rfl (by first | (simp only [hro1, hro1_0, hro1_1, hro1_2, hro2, hro2_0, hro2_1, hro2_2, mTn0, mTn1, mTn2, c1]; first | decide | rfl) | decide | rfl) ?_
          refine mRt (r := none) (h := (mSH, (mUp I 9 v0.toNatClampNeg v1), L)) rfl rfl ?_
          show mWP mTb_ mFT ro (d + 7, 83, 37, [some (.ref 0), some (.int v0), some (.int v1), some (.int (I 9 v0.toNatClampNeg))], [], 0, 0, (mSH, (mUp I 9 v0.toNatClampNeg v1), L)) _
          refine mB 1 (s2 := (d + 7, 83, 38, [some (.ref 0), some (.int v0), some (.int v1), some (.int (I 9 v0.toNatClampNeg))], [.int (I 9 v0.toNatClampNeg)], 0, 0, (mSH, (mUp I 9 v0.toNatClampNeg v1), L))) rfl ?_
          refine mRt (r := (some (.int (I 9 v0.toNatClampNeg)))) (h := (mSH, (mUp I 9 v0.toNatClampNeg v1), L)) rfl (mRet_int rfl) ?_
          exact hq _ _ (mFr.up (by rfl) mFr.rf) ⟨hI.1, hI.2.1, hI.2.2.1, hI.2.2.2.1, hI.2.2.2.2.1, hI.2.2.2.2.2.1, (mRk.up hI.2.2.2.2.2.2 (by rfl) (by rfl))⟩ (if_pos (by have b0 : (v0).toInt = 1 := (by have z := c1; rw [z]; rfl); have a0 := c0; have a1 := of_decide_eq_false c2; have a2 := of_decide_eq_false c3; simp only [hro1, hro1_0, hro1_1, hro1_2, hro2, hro2_0, hro2_1, hro2_2, mTn0, mTn1, mTn2, c1, Int32.lt_iff_toInt_lt, Int32.le_iff_toInt_le, ← Int32.toInt_inj, mLi0, mLi1, mLi2, mLi3, mLi4, mLi5, mLi6, mLi7, mLi8, mLi9, mLi10, mLi16, mLi32, mLi48, mLi57, mLi59, mLi65, mLi90, mLi97, mLi99, mLi120, mLi122, mLi127, mLi1584, mLi999999, mLim] at a0 a1 a2 <;> omega)).symm (mJd1 (by have b0 : (v0).toInt = 1 := (by have z := c1; rw [z]; rfl); have a0 := c0; have a1 := of_decide_eq_false c2; have a2 := of_decide_eq_false c3; simp only [hro1, hro1_0, hro1_1, hro1_2, hro2, hro2_0, hro2_1, hro2_2, mTn0, mTn1, mTn2, c1, Int32.lt_iff_toInt_lt, Int32.le_iff_toInt_le, ← Int32.toInt_inj, mLi0, mLi1, mLi2, mLi3, mLi4, mLi5, mLi6, mLi7, mLi8, mLi9, mLi10, mLi16, mLi32, mLi48, mLi57, mLi59, mLi65, mLi90, mLi97, mLi99, mLi120, mLi122, mLi127, mLi1584, mLi999999, mLim] at a0 a1 a2 <;> omega)) (kc_0 (by have b0 : (v0).toInt = 1 := (by have z := c1; rw [z]; rfl); have a0 := c0; have a1 := of_decide_eq_false c2; have a2 := of_decide_eq_false c3; simp only [hro1, hro1_0, hro1_1, hro1_2, hro2, hro2_0, hro2_1, hro2_2, mTn0, mTn1, mTn2, c1, Int32.lt_iff_toInt_lt, Int32.le_iff_toInt_le, ← Int32.toInt_inj, mLi0, mLi1, mLi2, mLi3, mLi4, mLi5, mLi6, mLi7, mLi8, mLi9, mLi10, mLi16, mLi32, mLi48, mLi57, mLi59, mLi65, mLi90, mLi97, mLi99, mLi120, mLi122, mLi127, mLi1584, mLi999999, mLim] at a0 a1 a2 <;> omega) trivial (by rfl))
    · by_cases c2 : v0 = 2
      · refine mCall (s2 := (d + 6, 9, 0, [some (.ref 8), some (.int v0), some (.int v1)], [], 0, 0, (mSH, I, L))) rfl ?_
        refine mB 2 (s2 := (d + 6, 9, 2, [some (.ref 8), some (.int v0), some (.int v1)], [.int v0, .ref 8], 0, 0, (mSH, I, L))) rfl ?_
        refine mCall (s2 := (d + 5, 8, 0, [some (.ref 8), some (.int v0)], [], 0, 0, (mSH, I, L))) rfl ?_
        refine mB 1 (s2 := (d + 5, 8, 1, [some (.ref 8), some (.int v0)], [.int v0], 0, 0, (mSH, I, L))) rfl ?_
        refine mBF (s3 := (d + 5, 8, 4, [some (.ref 8), some (.int v0)], [], 0, 0, (mSH, I, L))) rfl (by first | (simp only [hro1, hro1_0, hro1_1, hro1_2, hro2, hro2_0, hro2_1, hro2_2, mTn0, mTn1, mTn2, c2]; first | decide | rfl) | decide | rfl) ?_
        refine mB 4 (s2 := (d + 5, 8, 10, [some (.ref 8), some (.int v0)], [.int 3, .int v0], 0, 0, (mSH, I, L))) rfl ?_
        refine mBF (s3 := (d + 5, 8, 13, [some (.ref 8), some (.int v0)], [], 0, 0, (mSH, I, L))) rfl (by first | (simp only [hro1, hro1_0, hro1_1, hro1_2, hro2, hro2_0, hro2_1, hro2_2, mTn0, mTn1, mTn2, c2]; first | decide | rfl) | decide | rfl) ?_
        refine mB 2 (s2 := (d + 5, 8, 18, [some (.ref 8), some (.int v0)], [.int 1], 0, 0, (mSH, I, L))) rfl ?_
        refine mRt (r := (some (.int 1))) (h := (mSH, I, L)) rfl rfl ?_
        show mWP mTb_ mFT ro (d + 6, 9, 5, [some (.ref 8), some (.int v0), some (.int v1)], [.int 1], 0, 0, (mSH, I, L)) _
        refine mBF (s3 := (d + 6, 9, 8, [some (.ref 8), some (.int v0), some (.int v1)], [], 0, 0, (mSH, I, L))) rfl (by decide) ?_
        refine mB 3 (s2 := (d + 6, 9, 13, [some (.ref 8), some (.int v0), some (.int v1)], [.int v0, .ref 1001, .int v1], 0, 0, (mSH, I, L))) rfl ?_
        refine mRq (s2 := (d + 6, 9, 14, [some (.ref 8), some (.int v0), some (.int v1)], [.int ((ro 1).2 v0.toNatClampNeg), .int v1], 0, 0, (mSH, I, L))) rfl (by first | (simp only [hro1, hro1_0, hro1_1, hro1_2, hro2, hro2_0, hro2_1, hro2_2, mTn0, mTn1, mTn2, c2]; first | decide | rfl) | decide | rfl) ?_
        refine mBr (s2 := (d + 6, 9, 30, [some (.ref 8), some (.int v0), some (.int v1)], [], 0, 0, (mSH, I, L))) (s3 := (d + 6, 9, 17, [some (.ref 8), some (.int v0), some (.int v1)], [], 0, 0, (mSH, I, L))) rfl (fun c3 => ?_) (fun c3 => ?_)
        · refine mB 1 (s2 := (d + 6, 9, 31, [some (.ref 8), some (.int v0), some (.int v1)], [.int 0], 0, 0, (mSH, I, L))) rfl ?_
          refine mRt (r := (some (.int 0))) (h := (mSH, I, L)) rfl rfl ?_
          show mWP mTb_ mFT ro (d + 7, 83, 9, [some (.ref 0), some (.int v0), some (.int v1), none], [.int 0], 0, 0, (mSH, I, L)) _
          refine mBT (s2 := (d + 7, 83, 12, [some (.ref 0), some (.int v0), some (.int v1), none], [], 0, 0, (mSH, I, L))) rfl (by decide) ?_
          refine mB 2 (s2 := (d + 7, 83, 15, [some (.ref 0), some (.int v0), some (.int v1), none], [.int (-2), .ref 0], 0, 0, (mSH, I, L))) rfl ?_
          refine mCall (s2 := (d + 6, 103, 0, [some (.ref 0), some (.int (-2))], [], 0, 0, (mSH, I, L))) rfl ?_
          refine mB 2 (s2 := (d + 6, 103, 3, [some (.ref 0), some (.int (-2))], [.int (-2), .int (-2)], 0, 0, (mSH, I, L))) rfl ?_
          refine mBT (s2 := (d + 6, 103, 6, [some (.ref 0), some (.int (-2))], [], 0, 0, (mSH, I, L))) rfl (by decide) ?_
          refine mB 8 (s2 := (d + 6, 103, 49, [some (.ref 0), some (.int (-2))], [.int (-2)], 0, 0, (mSH, (mUp I 0 9 ((I 0 9) + 1)), L))) rfl ?_
          refine mRt (r := (some (.int (-2)))) (h := (mSH, (mUp I 0 9 ((I 0 9) + 1)), L)) rfl (mRet_int rfl) ?_
          show mWP mTb_ mFT ro (d + 7, 83, 18, [some (.ref 0), some (.int v0), some (.int v1), none], [.int (-2)], 0, 0, (mSH, (mUp I 0 9 ((I 0 9) + 1)), L)) _
          refine mRt (r := (some (.int (-2)))) (h := (mSH, (mUp I 0 9 ((I 0 9) + 1)), L)) rfl (mRet_int rfl) ?_
          exact hq _ _ (mFr.up (by rfl) mFr.rf) ⟨hI.1, hI.2.1, hI.2.2.1, hI.2.2.2.1, hI.2.2.2.2.1, hI.2.2.2.2.2.1, (mRk.up hI.2.2.2.2.2.2 (by rfl) (by rfl))⟩ (if_neg (by have b0 : (v0).toInt = 2 := (by have z := c2; rw [z]; rfl); have a0 := c0; have a1 := c1; have a2 := of_decide_eq_true c3; simp only [hro1, hro1_0, hro1_1, hro1_2, hro2, hro2_0, hro2_1, hro2_2, mTn0, mTn1, mTn2, c2, Int32.lt_iff_toInt_lt, Int32.le_iff_toInt_le, ← Int32.toInt_inj, mLi0, mLi1, mLi2, mLi3, mLi4, mLi5, mLi6, mLi7, mLi8, mLi9, mLi10, mLi16, mLi32, mLi48, mLi57, mLi59, mLi65, mLi90, mLi97, mLi99, mLi120, mLi122, mLi127, mLi1584, mLi999999, mLim] at a0 a1 a2 <;> omega)).symm (mJd0 (by have b0 : (v0).toInt = 2 := (by have z := c2; rw [z]; rfl); have a0 := c0; have a1 := c1; have a2 := of_decide_eq_true c3; simp only [hro1, hro1_0, hro1_1, hro1_2, hro2, hro2_0, hro2_1, hro2_2, mTn0, mTn1, mTn2, c2, Int32.lt_iff_toInt_lt, Int32.le_iff_toInt_le, ← Int32.toInt_inj, mLi0, mLi1, mLi2, mLi3, mLi4, mLi5, mLi6, mLi7, mLi8, mLi9, mLi10, mLi16, mLi32, mLi48, mLi57, mLi59, mLi65, mLi90, mLi97, mLi99, mLi120, mLi122, mLi127, mLi1584, mLi999999, mLim] at a0 a1 a2 <;> omega)) (kc_1 (by have b0 : (v0).toInt = 2 := (by have z := c2; rw [z]; rfl); have a0 := c0; have a1 := c1; have a2 := of_decide_eq_true c3; simp only [hro1, hro1_0, hro1_1, hro1_2, hro2, hro2_0, hro2_1, hro2_2, mTn0, mTn1, mTn2, c2, Int32.lt_iff_toInt_lt, Int32.le_iff_toInt_le, ← Int32.toInt_inj, mLi0, mLi1, mLi2, mLi3, mLi4, mLi5, mLi6, mLi7, mLi8, mLi9, mLi10, mLi16, mLi32, mLi48, mLi57, mLi59, mLi65, mLi90, mLi97, mLi99, mLi120, mLi122, mLi127, mLi1584, mLi999999, mLim] at a0 a1 a2 <;> omega) (by rfl))
        · refine mB 3 (s2 := (d + 6, 9, 22, [some (.ref 8), some (.int v0), some (.int v1)], [.int v0, .ref 1002, .int v1], 0, 0, (mSH, I, L))) rfl ?_
          refine mRq (s2 := (d + 6, 9, 23, [some (.ref 8), some (.int v0), some (.int v1)], [.int ((ro 2).2 v0.toNatClampNeg), .int v1], 0, 0, (mSH, I, L))) rfl (by first | (simp only [hro1, hro1_0, hro1_1, hro1_2, hro2, hro2_0, hro2_1, hro2_2, mTn0, mTn1, mTn2, c2]; first | decide | rfl) | decide | rfl) ?_
          refine mBr (s2 := (d + 6, 9, 30, [some (.ref 8), some (.int v0), some (.int v1)], [], 0, 0, (mSH, I, L))) (s3 := (d + 6, 9, 26, [some (.ref 8), some (.int v0), some (.int v1)], [], 0, 0, (mSH, I, L))) rfl (fun c4 => ?_) (fun c4 => ?_)
          · refine mB 1 (s2 := (d + 6, 9, 31, [some (.ref 8), some (.int v0), some (.int v1)], [.int 0], 0, 0, (mSH, I, L))) rfl ?_
            refine mRt (r := (some (.int 0))) (h := (mSH, I, L)) rfl rfl ?_
            show mWP mTb_ mFT ro (d + 7, 83, 9, [some (.ref 0), some (.int v0), some (.int v1), none], [.int 0], 0, 0, (mSH, I, L)) _
            refine mBT (s2 := (d + 7, 83, 12, [some (.ref 0), some (.int v0), some (.int v1), none], [], 0, 0, (mSH, I, L))) rfl (by decide) ?_
            refine mB 2 (s2 := (d + 7, 83, 15, [some (.ref 0), some (.int v0), some (.int v1), none], [.int (-2), .ref 0], 0, 0, (mSH, I, L))) rfl ?_
            refine mCall (s2 := (d + 6, 103, 0, [some (.ref 0), some (.int (-2))], [], 0, 0, (mSH, I, L))) rfl ?_
            refine mB 2 (s2 := (d + 6, 103, 3, [some (.ref 0), some (.int (-2))], [.int (-2), .int (-2)], 0, 0, (mSH, I, L))) rfl ?_
            refine mBT (s2 := (d + 6, 103, 6, [some (.ref 0), some (.int (-2))], [], 0, 0, (mSH, I, L))) rfl (by decide) ?_
            refine mB 8 (s2 := (d + 6, 103, 49, [some (.ref 0), some (.int (-2))], [.int (-2)], 0, 0, (mSH, (mUp I 0 9 ((I 0 9) + 1)), L))) rfl ?_
            refine mRt (r := (some (.int (-2)))) (h := (mSH, (mUp I 0 9 ((I 0 9) + 1)), L)) rfl (mRet_int rfl) ?_
            show mWP mTb_ mFT ro (d + 7, 83, 18, [some (.ref 0), some (.int v0), some (.int v1), none], [.int (-2)], 0, 0, (mSH, (mUp I 0 9 ((I 0 9) + 1)), L)) _
            refine mRt (r := (some (.int (-2)))) (h := (mSH, (mUp I 0 9 ((I 0 9) + 1)), L)) rfl (mRet_int rfl) ?_
            exact hq _ _ (mFr.up (by rfl) mFr.rf) ⟨hI.1, hI.2.1, hI.2.2.1, hI.2.2.2.1, hI.2.2.2.2.1, hI.2.2.2.2.2.1, (mRk.up hI.2.2.2.2.2.2 (by rfl) (by rfl))⟩ (if_neg (by have b0 : (v0).toInt = 2 := (by have z := c2; rw [z]; rfl); have a0 := c0; have a1 := c1; have a2 := of_decide_eq_false c3; have a3 := of_decide_eq_true c4; simp only [hro1, hro1_0, hro1_1, hro1_2, hro2, hro2_0, hro2_1, hro2_2, mTn0, mTn1, mTn2, c2, Int32.lt_iff_toInt_lt, Int32.le_iff_toInt_le, ← Int32.toInt_inj, mLi0, mLi1, mLi2, mLi3, mLi4, mLi5, mLi6, mLi7, mLi8, mLi9, mLi10, mLi16, mLi32, mLi48, mLi57, mLi59, mLi65, mLi90, mLi97, mLi99, mLi120, mLi122, mLi127, mLi1584, mLi999999, mLim] at a0 a1 a2 a3 <;> omega)).symm (mJd0 (by have b0 : (v0).toInt = 2 := (by have z := c2; rw [z]; rfl); have a0 := c0; have a1 := c1; have a2 := of_decide_eq_false c3; have a3 := of_decide_eq_true c4; simp only [hro1, hro1_0, hro1_1, hro1_2, hro2, hro2_0, hro2_1, hro2_2, mTn0, mTn1, mTn2, c2, Int32.lt_iff_toInt_lt, Int32.le_iff_toInt_le, ← Int32.toInt_inj, mLi0, mLi1, mLi2, mLi3, mLi4, mLi5, mLi6, mLi7, mLi8, mLi9, mLi10, mLi16, mLi32, mLi48, mLi57, mLi59, mLi65, mLi90, mLi97, mLi99, mLi120, mLi122, mLi127, mLi1584, mLi999999, mLim] at a0 a1 a2 a3 <;> omega)) (kc_1 (by have b0 : (v0).toInt = 2 := (by have z := c2; rw [z]; rfl); have a0 := c0; have a1 := c1; have a2 := of_decide_eq_false c3; have a3 := of_decide_eq_true c4; simp only [hro1, hro1_0, hro1_1, hro1_2, hro2, hro2_0, hro2_1, hro2_2, mTn0, mTn1, mTn2, c2, Int32.lt_iff_toInt_lt, Int32.le_iff_toInt_le, ← Int32.toInt_inj, mLi0, mLi1, mLi2, mLi3, mLi4, mLi5, mLi6, mLi7, mLi8, mLi9, mLi10, mLi16, mLi32, mLi48, mLi57, mLi59, mLi65, mLi90, mLi97, mLi99, mLi120, mLi122, mLi127, mLi1584, mLi999999, mLim] at a0 a1 a2 a3 <;> omega) (by rfl))
          · refine mB 2 (s2 := (d + 6, 9, 31, [some (.ref 8), some (.int v0), some (.int v1)], [.int 1], 0, 0, (mSH, I, L))) rfl ?_
            refine mRt (r := (some (.int 1))) (h := (mSH, I, L)) rfl rfl ?_
            show mWP mTb_ mFT ro (d + 7, 83, 9, [some (.ref 0), some (.int v0), some (.int v1), none], [.int 1], 0, 0, (mSH, I, L)) _
            refine mBF (s3 := (d + 7, 83, 19, [some (.ref 0), some (.int v0), some (.int v1), none], [], 0, 0, (mSH, I, L))) rfl (by decide) ?_
            refine mB 3 (s2 := (d + 7, 83, 24, [some (.ref 0), some (.int v0), some (.int v1), none], [.int v0, .ref 8], 0, 0, (mSH, I, L))) rfl ?_
            refine mCall (s2 := (d + 6, 10, 0, [some (.ref 8), some (.int v0)], [], 0, 0, (mSH, I, L))) rfl ?_
            refine mB 2 (s2 := (d + 6, 10, 2, [some (.ref 8), some (.int v0)], [.int v0, .ref 8], 0, 0, (mSH, I, L))) rfl ?_
            refine mCall (s2 := (d + 5, 8, 0, [some (.ref 8), some (.int v0)], [], 0, 0, (mSH, I, L))) rfl ?_
            refine mB 1 (s2 := (d + 5, 8, 1, [some (.ref 8), some (.int v0)], [.int v0], 0, 0, (mSH, I, L))) rfl ?_
            refine mBF (s3 := (d + 5, 8, 4, [some (.ref 8), some (.int v0)], [], 0, 0, (mSH, I, L))) rfl (by first | (simp only [hro1, hro1_0, hro1_1, hro1_2, hro2, hro2_0, hro2_1, hro2_2, mTn0, mTn1, mTn2, c2]; first | decide | rfl) | decide | rfl) ?_
            refine mB 4 (s2 := (d + 5, 8, 10, [some (.ref 8), some (.int v0)], [.int 3, .int v0], 0, 0, (mSH, I, L))) rfl ?_
            refine mBF (s3 := (d + 5, 8, 13, [some (.ref 8), some (.int v0)], [], 0, 0, (mSH, I, L))) rfl (by first | (simp only [hro1, hro1_0, hro1_1, hro1_2, hro2, hro2_0, hro2_1, hro2_2, mTn0, mTn1, mTn2, c2]; first | decide | rfl) | decide | rfl) ?_
            refine mB 2 (s2 := (d + 5, 8, 18, [some (.ref 8), some (.int v0)], [.int 1], 0, 0, (mSH, I, L))) rfl ?_
            refine mRt (r := (some (.int 1))) (h := (mSH, I, L)) rfl rfl ?_
            show mWP mTb_ mFT ro (d + 6, 10, 5, [some (.ref 8), some (.int v0)], [.int 1], 0, 0, (mSH, I, L)) _
            refine mBF (s3 := (d + 6, 10, 8, [some (.ref 8), some (.int v0)], [], 0, 0, (mSH, I, L))) rfl (by decide) ?_
            refine mB 3 (s2 := (d + 6, 10, 13, [some (.ref 8), some (.int v0)], [.int v0, .ref 9], 0, 0, (mSH, I, L))) rfl ?_
            refine mRq (s2 := (d + 6, 10, 14, [some (.ref 8), some (.int v0)], [.int (I 9 v0.toNatClampNeg)], 0, 0, (mSH, I, L))) rfl (by first | (simp only [hro1, hro1_0, hro1_1, hro1_2, hro2, hro2_0, hro2_1, hro2_2, mTn0, mTn1, mTn2, c2]; first | decide | rfl) | decide | rfl) ?_
            refine mB 1 (s2 := (d + 6, 10, 18, [some (.ref 8), some (.int v0)], [.int (I 9 v0.toNatClampNeg)], 0, 0, (mSH, I, L))) rfl ?_
            refine mRt (r := (some (.int (I 9 v0.toNatClampNeg)))) (h := (mSH, I, L)) rfl (mRet_int rfl) ?_
            show mWP mTb_ mFT ro (d + 7, 83, 27, [some (.ref 0), some (.int v0), some (.int v1), none], [.int (I 9 v0.toNatClampNeg)], 0, 0, (mSH, I, L)) _
            refine mB 5 (s2 := (d + 7, 83, 34, [some (.ref 0), some (.int v0), some (.int v1), some (.int (I 9 v0.toNatClampNeg))], [.int v1, .int v0, .ref 8], 0, 0, (mSH, I, L))) rfl ?_
            refine mCall (s2 := (d + 6, 11, 0, [some (.ref 8), some (.int v0), some (.int v1)], [], 0, 0, (mSH, I, L))) rfl ?_
            refine mB 2 (s2 := (d + 6, 11, 2, [some (.ref 8), some (.int v0), some (.int v1)], [.int v0, .ref 8], 0, 0, (mSH, I, L))) rfl ?_
            refine mCall (s2 := (d + 5, 8, 0, [some (.ref 8), some (.int v0)], [], 0, 0, (mSH, I, L))) rfl ?_
            refine mB 1 (s2 := (d + 5, 8, 1, [some (.ref 8), some (.int v0)], [.int v0], 0, 0, (mSH, I, L))) rfl ?_
            refine mBF (s3 := (d + 5, 8, 4, [some (.ref 8), some (.int v0)], [], 0, 0, (mSH, I, L))) rfl (by first | (simp only [hro1, hro1_0, hro1_1, hro1_2, hro2, hro2_0, hro2_1, hro2_2, mTn0, mTn1, mTn2, c2]; first | decide | rfl) | decide | rfl) ?_
            refine mB 4 (s2 := (d + 5, 8, 10, [some (.ref 8), some (.int v0)], [.int 3, .int v0], 0, 0, (mSH, I, L))) rfl ?_
            refine mBF (s3 := (d + 5, 8, 13, [some (.ref 8), some (.int v0)], [], 0, 0, (mSH, I, L))) rfl (by first | (simp only [hro1, hro1_0, hro1_1, hro1_2, hro2, hro2_0, hro2_1, hro2_2, mTn0, mTn1, mTn2, c2]; first | decide | rfl) | decide | rfl) ?_
            refine mB 2 (s2 := (d + 5, 8, 18, [some (.ref 8), some (.int v0)], [.int 1], 0, 0, (mSH, I, L))) rfl ?_
            refine mRt (r := (some (.int 1))) (h := (mSH, I, L)) rfl rfl ?_
            show mWP mTb_ mFT ro (d + 6, 11, 5, [some (.ref 8), some (.int v0), some (.int v1)], [.int 1], 0, 0, (mSH, I, L)) _
            refine mBF (s3 := (d + 6, 11, 8, [some (.ref 8), some (.int v0), some (.int v1)], [], 0, 0, (mSH, I, L))) rfl (by decide) ?_
            refine mB 4 (s2 := (d + 6, 11, 14, [some (.ref 8), some (.int v0), some (.int v1)], [.int v1, .int v0, .ref 9], 0, 0, (mSH, I, L))) rfl ?_
            refine mRq (s2 := (d + 6, 11, 15, [some (.ref 8), some (.int v0), some (.int v1)], [], 0, 0, (mSH, (mUp I 9 v0.toNatClampNeg v1), L))) rfl (by first | (simp only [hro1, hro1_0, hro1_1, hro1_2, hro2, hro2_0, hro2_1, hro2_2, mTn0, mTn1, mTn2, c2]; first | decide | rfl) | decide | rfl) ?_
            refine mRt (r := none) (h := (mSH, (mUp I 9 v0.toNatClampNeg v1), L)) rfl rfl ?_
            show mWP mTb_ mFT ro (d + 7, 83, 37, [some (.ref 0), some (.int v0), some (.int v1), some (.int (I 9 v0.toNatClampNeg))], [], 0, 0, (mSH, (mUp I 9 v0.toNatClampNeg v1), L)) _
            refine mB 1 (s2 := (d + 7, 83, 38, [some (.ref 0), some (.int v0), some (.int v1), some (.int (I 9 v0.toNatClampNeg))], [.int (I 9 v0.toNatClampNeg)], 0, 0, (mSH, (mUp I 9 v0.toNatClampNeg v1), L))) rfl ?_
            refine mRt (r := (some (.int (I 9 v0.toNatClampNeg)))) (h := (mSH, (mUp I 9 v0.toNatClampNeg v1), L)) rfl (mRet_int rfl) ?_
            exact hq _ _ (mFr.up (by rfl) mFr.rf) ⟨hI.1, hI.2.1, hI.2.2.1, hI.2.2.2.1, hI.2.2.2.2.1, hI.2.2.2.2.2.1, (mRk.up hI.2.2.2.2.2.2 (by rfl) (by rfl))⟩ (if_pos (by have b0 : (v0).toInt = 2 := (by have z := c2; rw [z]; rfl); have a0 := c0; have a1 := c1; have a2 := of_decide_eq_false c3; have a3 := of_decide_eq_false c4; simp only [hro1, hro1_0, hro1_1, hro1_2, hro2, hro2_0, hro2_1, hro2_2, mTn0, mTn1, mTn2, c2, Int32.lt_iff_toInt_lt, Int32.le_iff_toInt_le, ← Int32.toInt_inj, mLi0, mLi1, mLi2, mLi3, mLi4, mLi5, mLi6, mLi7, mLi8, mLi9, mLi10, mLi16, mLi32, mLi48, mLi57, mLi59, mLi65, mLi90, mLi97, mLi99, mLi120, mLi122, mLi127, mLi1584, mLi999999, mLim] at a0 a1 a2 a3 <;> omega)).symm (mJd1 (by have b0 : (v0).toInt = 2 := (by have z := c2; rw [z]; rfl); have a0 := c0; have a1 := c1; have a2 := of_decide_eq_false c3; have a3 := of_decide_eq_false c4; simp only [hro1, hro1_0, hro1_1, hro1_2, hro2, hro2_0, hro2_1, hro2_2, mTn0, mTn1, mTn2, c2, Int32.lt_iff_toInt_lt, Int32.le_iff_toInt_le, ← Int32.toInt_inj, mLi0, mLi1, mLi2, mLi3, mLi4, mLi5, mLi6, mLi7, mLi8, mLi9, mLi10, mLi16, mLi32, mLi48, mLi57, mLi59, mLi65, mLi90, mLi97, mLi99, mLi120, mLi122, mLi127, mLi1584, mLi999999, mLim] at a0 a1 a2 a3 <;> omega)) (kc_0 (by have b0 : (v0).toInt = 2 := (by have z := c2; rw [z]; rfl); have a0 := c0; have a1 := c1; have a2 := of_decide_eq_false c3; have a3 := of_decide_eq_false c4; simp only [hro1, hro1_0, hro1_1, hro1_2, hro2, hro2_0, hro2_1, hro2_2, mTn0, mTn1, mTn2, c2, Int32.lt_iff_toInt_lt, Int32.le_iff_toInt_le, ← Int32.toInt_inj, mLi0, mLi1, mLi2, mLi3, mLi4, mLi5, mLi6, mLi7, mLi8, mLi9, mLi10, mLi16, mLi32, mLi48, mLi57, mLi59, mLi65, mLi90, mLi97, mLi99, mLi120, mLi122, mLi127, mLi1584, mLi999999, mLim] at a0 a1 a2 a3 <;> omega) trivial (by rfl))
      · refine mCall (s2 := (d + 6, 9, 0, [some (.ref 8), some (.int v0), some (.int v1)], [], 0, 0, (mSH, I, L))) rfl ?_
        refine mB 2 (s2 := (d + 6, 9, 2, [some (.ref 8), some (.int v0), some (.int v1)], [.int v0, .ref 8], 0, 0, (mSH, I, L))) rfl ?_
        refine mCall (s2 := (d + 5, 8, 0, [some (.ref 8), some (.int v0)], [], 0, 0, (mSH, I, L))) rfl ?_
        refine mB 1 (s2 := (d + 5, 8, 1, [some (.ref 8), some (.int v0)], [.int v0], 0, 0, (mSH, I, L))) rfl ?_
        refine mBr (s2 := (d + 5, 8, 17, [some (.ref 8), some (.int v0)], [], 0, 0, (mSH, I, L))) (s3 := (d + 5, 8, 4, [some (.ref 8), some (.int v0)], [], 0, 0, (mSH, I, L))) rfl (fun c3 => ?_) (fun c3 => ?_)
        · refine mB 1 (s2 := (d + 5, 8, 18, [some (.ref 8), some (.int v0)], [.int 0], 0, 0, (mSH, I, L))) rfl ?_
          refine mRt (r := (some (.int 0))) (h := (mSH, I, L)) rfl rfl ?_
          show mWP mTb_ mFT ro (d + 6, 9, 5, [some (.ref 8), some (.int v0), some (.int v1)], [.int 0], 0, 0, (mSH, I, L)) _
          refine mBT (s2 := (d + 6, 9, 30, [some (.ref 8), some (.int v0), some (.int v1)], [], 0, 0, (mSH, I, L))) rfl (by decide) ?_
          refine mB 1 (s2 := (d + 6, 9, 31, [some (.ref 8), some (.int v0), some (.int v1)], [.int 0], 0, 0, (mSH, I, L))) rfl ?_
          refine mRt (r := (some (.int 0))) (h := (mSH, I, L)) rfl rfl ?_
          show mWP mTb_ mFT ro (d + 7, 83, 9, [some (.ref 0), some (.int v0), some (.int v1), none], [.int 0], 0, 0, (mSH, I, L)) _
          refine mBT (s2 := (d + 7, 83, 12, [some (.ref 0), some (.int v0), some (.int v1), none], [], 0, 0, (mSH, I, L))) rfl (by decide) ?_
          refine mB 2 (s2 := (d + 7, 83, 15, [some (.ref 0), some (.int v0), some (.int v1), none], [.int (-2), .ref 0], 0, 0, (mSH, I, L))) rfl ?_
          refine mCall (s2 := (d + 6, 103, 0, [some (.ref 0), some (.int (-2))], [], 0, 0, (mSH, I, L))) rfl ?_
          refine mB 2 (s2 := (d + 6, 103, 3, [some (.ref 0), some (.int (-2))], [.int (-2), .int (-2)], 0, 0, (mSH, I, L))) rfl ?_
          refine mBT (s2 := (d + 6, 103, 6, [some (.ref 0), some (.int (-2))], [], 0, 0, (mSH, I, L))) rfl (by decide) ?_
          refine mB 8 (s2 := (d + 6, 103, 49, [some (.ref 0), some (.int (-2))], [.int (-2)], 0, 0, (mSH, (mUp I 0 9 ((I 0 9) + 1)), L))) rfl ?_
          refine mRt (r := (some (.int (-2)))) (h := (mSH, (mUp I 0 9 ((I 0 9) + 1)), L)) rfl (mRet_int rfl) ?_
          show mWP mTb_ mFT ro (d + 7, 83, 18, [some (.ref 0), some (.int v0), some (.int v1), none], [.int (-2)], 0, 0, (mSH, (mUp I 0 9 ((I 0 9) + 1)), L)) _
          refine mRt (r := (some (.int (-2)))) (h := (mSH, (mUp I 0 9 ((I 0 9) + 1)), L)) rfl (mRet_int rfl) ?_
          exact hq _ _ (mFr.up (by rfl) mFr.rf) ⟨hI.1, hI.2.1, hI.2.2.1, hI.2.2.2.1, hI.2.2.2.2.1, hI.2.2.2.2.2.1, (mRk.up hI.2.2.2.2.2.2 (by rfl) (by rfl))⟩ (if_neg (by have a0 := c0; have a1 := c1; have a2 := c2; have a3 := of_decide_eq_true c3; simp only [hro1, hro1_0, hro1_1, hro1_2, hro2, hro2_0, hro2_1, hro2_2, mTn0, mTn1, mTn2, Int32.lt_iff_toInt_lt, Int32.le_iff_toInt_le, ← Int32.toInt_inj, mLi0, mLi1, mLi2, mLi3, mLi4, mLi5, mLi6, mLi7, mLi8, mLi9, mLi10, mLi16, mLi32, mLi48, mLi57, mLi59, mLi65, mLi90, mLi97, mLi99, mLi120, mLi122, mLi127, mLi1584, mLi999999, mLim] at a0 a1 a2 a3 <;> omega)).symm (mJd0 (by have a0 := c0; have a1 := c1; have a2 := c2; have a3 := of_decide_eq_true c3; simp only [hro1, hro1_0, hro1_1, hro1_2, hro2, hro2_0, hro2_1, hro2_2, mTn0, mTn1, mTn2, Int32.lt_iff_toInt_lt, Int32.le_iff_toInt_le, ← Int32.toInt_inj, mLi0, mLi1, mLi2, mLi3, mLi4, mLi5, mLi6, mLi7, mLi8, mLi9, mLi10, mLi16, mLi32, mLi48, mLi57, mLi59, mLi65, mLi90, mLi97, mLi99, mLi120, mLi122, mLi127, mLi1584, mLi999999, mLim] at a0 a1 a2 a3 <;> omega)) (kc_1 (by have a0 := c0; have a1 := c1; have a2 := c2; have a3 := of_decide_eq_true c3; simp only [hro1, hro1_0, hro1_1, hro1_2, hro2, hro2_0, hro2_1, hro2_2, mTn0, mTn1, mTn2, Int32.lt_iff_toInt_lt, Int32.le_iff_toInt_le, ← Int32.toInt_inj, mLi0, mLi1, mLi2, mLi3, mLi4, mLi5, mLi6, mLi7, mLi8, mLi9, mLi10, mLi16, mLi32, mLi48, mLi57, mLi59, mLi65, mLi90, mLi97, mLi99, mLi120, mLi122, mLi127, mLi1584, mLi999999, mLim] at a0 a1 a2 a3 <;> omega) (by rfl))
        · refine mB 4 (s2 := (d + 5, 8, 10, [some (.ref 8), some (.int v0)], [.int 3, .int v0], 0, 0, (mSH, I, L))) rfl ?_
          refine mBT (c := decide ((3 : Int32) ≤ v0)) (s2 := (d + 5, 8, 17, [some (.ref 8), some (.int v0)], [], 0, 0, (mSH, I, L))) rfl (decide_eq_true (by have a0 := c0; have a1 := c1; have a2 := c2; have a3 := of_decide_eq_false c3; simp only [hro1, hro1_0, hro1_1, hro1_2, hro2, hro2_0, hro2_1, hro2_2, mTn0, mTn1, mTn2, Int32.lt_iff_toInt_lt, Int32.le_iff_toInt_le, ← Int32.toInt_inj, mLi0, mLi1, mLi2, mLi3, mLi4, mLi5, mLi6, mLi7, mLi8, mLi9, mLi10, mLi16, mLi32, mLi48, mLi57, mLi59, mLi65, mLi90, mLi97, mLi99, mLi120, mLi122, mLi127, mLi1584, mLi999999, mLim] at a0 a1 a2 a3 ⊢; omega)) ?_
          refine mB 1 (s2 := (d + 5, 8, 18, [some (.ref 8), some (.int v0)], [.int 0], 0, 0, (mSH, I, L))) rfl ?_
          refine mRt (r := (some (.int 0))) (h := (mSH, I, L)) rfl rfl ?_
          show mWP mTb_ mFT ro (d + 6, 9, 5, [some (.ref 8), some (.int v0), some (.int v1)], [.int 0], 0, 0, (mSH, I, L)) _
          refine mBT (s2 := (d + 6, 9, 30, [some (.ref 8), some (.int v0), some (.int v1)], [], 0, 0, (mSH, I, L))) rfl (by decide) ?_
          refine mB 1 (s2 := (d + 6, 9, 31, [some (.ref 8), some (.int v0), some (.int v1)], [.int 0], 0, 0, (mSH, I, L))) rfl ?_
          refine mRt (r := (some (.int 0))) (h := (mSH, I, L)) rfl rfl ?_
          show mWP mTb_ mFT ro (d + 7, 83, 9, [some (.ref 0), some (.int v0), some (.int v1), none], [.int 0], 0, 0, (mSH, I, L)) _
          refine mBT (s2 := (d + 7, 83, 12, [some (.ref 0), some (.int v0), some (.int v1), none], [], 0, 0, (mSH, I, L))) rfl (by decide) ?_
          refine mB 2 (s2 := (d + 7, 83, 15, [some (.ref 0), some (.int v0), some (.int v1), none], [.int (-2), .ref 0], 0, 0, (mSH, I, L))) rfl ?_
          refine mCall (s2 := (d + 6, 103, 0, [some (.ref 0), some (.int (-2))], [], 0, 0, (mSH, I, L))) rfl ?_
          refine mB 2 (s2 := (d + 6, 103, 3, [some (.ref 0), some (.int (-2))], [.int (-2), .int (-2)], 0, 0, (mSH, I, L))) rfl ?_
          refine mBT (s2 := (d + 6, 103, 6, [some (.ref 0), some (.int (-2))], [], 0, 0, (mSH, I, L))) rfl (by decide) ?_
          refine mB 8 (s2 := (d + 6, 103, 49, [some (.ref 0), some (.int (-2))], [.int (-2)], 0, 0, (mSH, (mUp I 0 9 ((I 0 9) + 1)), L))) rfl ?_
          refine mRt (r := (some (.int (-2)))) (h := (mSH, (mUp I 0 9 ((I 0 9) + 1)), L)) rfl (mRet_int rfl) ?_
          show mWP mTb_ mFT ro (d + 7, 83, 18, [some (.ref 0), some (.int v0), some (.int v1), none], [.int (-2)], 0, 0, (mSH, (mUp I 0 9 ((I 0 9) + 1)), L)) _
          refine mRt (r := (some (.int (-2)))) (h := (mSH, (mUp I 0 9 ((I 0 9) + 1)), L)) rfl (mRet_int rfl) ?_
          exact hq _ _ (mFr.up (by rfl) mFr.rf) ⟨hI.1, hI.2.1, hI.2.2.1, hI.2.2.2.1, hI.2.2.2.2.1, hI.2.2.2.2.2.1, (mRk.up hI.2.2.2.2.2.2 (by rfl) (by rfl))⟩ (if_neg (by have a0 := c0; have a1 := c1; have a2 := c2; have a3 := of_decide_eq_false c3; simp only [hro1, hro1_0, hro1_1, hro1_2, hro2, hro2_0, hro2_1, hro2_2, mTn0, mTn1, mTn2, Int32.lt_iff_toInt_lt, Int32.le_iff_toInt_le, ← Int32.toInt_inj, mLi0, mLi1, mLi2, mLi3, mLi4, mLi5, mLi6, mLi7, mLi8, mLi9, mLi10, mLi16, mLi32, mLi48, mLi57, mLi59, mLi65, mLi90, mLi97, mLi99, mLi120, mLi122, mLi127, mLi1584, mLi999999, mLim] at a0 a1 a2 a3 <;> omega)).symm (mJd0 (by have a0 := c0; have a1 := c1; have a2 := c2; have a3 := of_decide_eq_false c3; simp only [hro1, hro1_0, hro1_1, hro1_2, hro2, hro2_0, hro2_1, hro2_2, mTn0, mTn1, mTn2, Int32.lt_iff_toInt_lt, Int32.le_iff_toInt_le, ← Int32.toInt_inj, mLi0, mLi1, mLi2, mLi3, mLi4, mLi5, mLi6, mLi7, mLi8, mLi9, mLi10, mLi16, mLi32, mLi48, mLi57, mLi59, mLi65, mLi90, mLi97, mLi99, mLi120, mLi122, mLi127, mLi1584, mLi999999, mLim] at a0 a1 a2 a3 <;> omega)) (kc_1 (by have a0 := c0; have a1 := c1; have a2 := c2; have a3 := of_decide_eq_false c3; simp only [hro1, hro1_0, hro1_1, hro1_2, hro2, hro2_0, hro2_1, hro2_2, mTn0, mTn1, mTn2, Int32.lt_iff_toInt_lt, Int32.le_iff_toInt_le, ← Int32.toInt_inj, mLi0, mLi1, mLi2, mLi3, mLi4, mLi5, mLi6, mLi7, mLi8, mLi9, mLi10, mLi16, mLi32, mLi48, mLi57, mLi59, mLi65, mLi90, mLi97, mLi99, mLi120, mLi122, mLi127, mLi1584, mLi999999, mLim] at a0 a1 a2 a3 <;> omega) (by rfl))
theorem z_misfit {ro : Nat → Nat × (Nat → Int32)} {Q : mPo} {d : Nat} {I : Nat → Nat → Int32} {L : Nat → Nat → Int64} {T : ct_S} {B : ct_B} {kd g pe : Nat} {v0 v1 v2 : Int32} (hI : mIC I) (hO : pm_O T B kd g pe) (hC : pm_C T B kd g pe I) (hq : ∀ r I1, mFr mSQ2 I I1 → mIC I1 → r = ms_R T B kd g pe v0 v1 v2 → kC (cdN (ms_k T v0 v1 v2) True) I I1 → Q (some (.int r)) (mSH, I1, L))   : mWP mTb_ mFT ro (d + 7, 84, 0, [some (.ref 0), some (.int v0), some (.int v1), some (.int v2)], [], 0, 0, (mSH, I, L)) Q := by
  refine mB 4 (s2 := (d + 7, 84, 8, [some (.ref 0), some (.int v0), some (.int v1), some (.int v2)], [.int v0, .ref 4], 0, 0, (mSH, I, L))) rfl ?_
  refine mCall (s2 := (d + 6, 41, 0, [some (.ref 4), some (.int v0)], [], 0, 0, (mSH, I, L))) rfl ?_
  refine mB 1 (s2 := (d + 6, 41, 1, [some (.ref 4), some (.int v0)], [.int v0], 0, 0, (mSH, I, L))) rfl ?_
  refine mBr (s2 := (d + 6, 41, 16, [some (.ref 4), some (.int v0)], [], 0, 0, (mSH, I, L))) (s3 := (d + 6, 41, 4, [some (.ref 4), some (.int v0)], [], 0, 0, (mSH, I, L))) rfl (fun c0 => ?_) (fun c0 => ?_)
  · refine mB 1 (s2 := (d + 6, 41, 17, [some (.ref 4), some (.int v0)], [.int 0], 0, 0, (mSH, I, L))) rfl ?_
    refine mRt (r := (some (.int 0))) (h := (mSH, I, L)) rfl rfl ?_
    show mWP mTb_ mFT ro (d + 7, 84, 11, [some (.ref 0), some (.int v0), some (.int v1), some (.int v2)], [.int 0], 0, 0, (mSH, I, L)) _
    refine mBT (s2 := (d + 7, 84, 35, [some (.ref 0), some (.int v0), some (.int v1), some (.int v2)], [], 0, 0, (mSH, I, L))) rfl (by decide) ?_
    refine mB 2 (s2 := (d + 7, 84, 38, [some (.ref 0), some (.int v0), some (.int v1), some (.int v2)], [.int (-2), .ref 0], 0, 0, (mSH, I, L))) rfl ?_
    refine mCall (s2 := (d + 6, 103, 0, [some (.ref 0), some (.int (-2))], [], 0, 0, (mSH, I, L))) rfl ?_
    refine mB 2 (s2 := (d + 6, 103, 3, [some (.ref 0), some (.int (-2))], [.int (-2), .int (-2)], 0, 0, (mSH, I, L))) rfl ?_
    refine mBT (s2 := (d + 6, 103, 6, [some (.ref 0), some (.int (-2))], [], 0, 0, (mSH, I, L))) rfl (by decide) ?_
    refine mB 8 (s2 := (d + 6, 103, 49, [some (.ref 0), some (.int (-2))], [.int (-2)], 0, 0, (mSH, (mUp I 0 9 ((I 0 9) + 1)), L))) rfl ?_
    refine mRt (r := (some (.int (-2)))) (h := (mSH, (mUp I 0 9 ((I 0 9) + 1)), L)) rfl (mRet_int rfl) ?_
    show mWP mTb_ mFT ro (d + 7, 84, 41, [some (.ref 0), some (.int v0), some (.int v1), some (.int v2)], [.int (-2)], 0, 0, (mSH, (mUp I 0 9 ((I 0 9) + 1)), L)) _
    refine mRt (r := (some (.int (-2)))) (h := (mSH, (mUp I 0 9 ((I 0 9) + 1)), L)) rfl (mRet_int rfl) ?_
    exact hq _ _ (mFr.up (by rfl) mFr.rf) ⟨hI.1, hI.2.1, hI.2.2.1, hI.2.2.2.1, hI.2.2.2.2.1, hI.2.2.2.2.2.1, (mRk.up hI.2.2.2.2.2.2 (by rfl) (by rfl))⟩ (if_neg (c := ms_k T v0 v1 v2) (by have e1 := pm_ti hC.1.1 (by have := hO.1.1; omega); have e2 := pm_ti hC.1.2.1 (by have := hO.1.2.1; omega); have a0 := of_decide_eq_true c0; simp only [Int32.lt_iff_toInt_lt, Int32.le_iff_toInt_le, ← Int32.toInt_inj, mLi0, mLi1, mLi2, mLi3, mLi4, mLi5, mLi6, mLi7, mLi8, mLi9, mLi10, mLi16, mLi32, mLi48, mLi57, mLi59, mLi65, mLi90, mLi97, mLi99, mLi120, mLi122, mLi127, mLi1584, mLi999999, mLim] at a0 <;> omega)).symm (kc_1 (by have e1 := pm_ti hC.1.1 (by have := hO.1.1; omega); have e2 := pm_ti hC.1.2.1 (by have := hO.1.2.1; omega); have a0 := of_decide_eq_true c0; simp only [Int32.lt_iff_toInt_lt, Int32.le_iff_toInt_le, ← Int32.toInt_inj, mLi0, mLi1, mLi2, mLi3, mLi4, mLi5, mLi6, mLi7, mLi8, mLi9, mLi10, mLi16, mLi32, mLi48, mLi57, mLi59, mLi65, mLi90, mLi97, mLi99, mLi120, mLi122, mLi127, mLi1584, mLi999999, mLim] at a0 <;> omega) (by rfl))
  · refine mB 3 (s2 := (d + 6, 41, 9, [some (.ref 4), some (.int v0)], [.int (I 4 1), .int v0], 0, 0, (mSH, I, L))) rfl ?_
    refine mBr (s2 := (d + 6, 41, 16, [some (.ref 4), some (.int v0)], [], 0, 0, (mSH, I, L))) (s3 := (d + 6, 41, 12, [some (.ref 4), some (.int v0)], [], 0, 0, (mSH, I, L))) rfl (fun c1 => ?_) (fun c1 => ?_)
    · refine mB 1 (s2 := (d + 6, 41, 17, [some (.ref 4), some (.int v0)], [.int 0], 0, 0, (mSH, I, L))) rfl ?_
      refine mRt (r := (some (.int 0))) (h := (mSH, I, L)) rfl rfl ?_
      show mWP mTb_ mFT ro (d + 7, 84, 11, [some (.ref 0), some (.int v0), some (.int v1), some (.int v2)], [.int 0], 0, 0, (mSH, I, L)) _
      refine mBT (s2 := (d + 7, 84, 35, [some (.ref 0), some (.int v0), some (.int v1), some (.int v2)], [], 0, 0, (mSH, I, L))) rfl (by decide) ?_
      refine mB 2 (s2 := (d + 7, 84, 38, [some (.ref 0), some (.int v0), some (.int v1), some (.int v2)], [.int (-2), .ref 0], 0, 0, (mSH, I, L))) rfl ?_
      refine mCall (s2 := (d + 6, 103, 0, [some (.ref 0), some (.int (-2))], [], 0, 0, (mSH, I, L))) rfl ?_
      refine mB 2 (s2 := (d + 6, 103, 3, [some (.ref 0), some (.int (-2))], [.int (-2), .int (-2)], 0, 0, (mSH, I, L))) rfl ?_
      refine mBT (s2 := (d + 6, 103, 6, [some (.ref 0), some (.int (-2))], [], 0, 0, (mSH, I, L))) rfl (by decide) ?_
      refine mB 8 (s2 := (d + 6, 103, 49, [some (.ref 0), some (.int (-2))], [.int (-2)], 0, 0, (mSH, (mUp I 0 9 ((I 0 9) + 1)), L))) rfl ?_
      refine mRt (r := (some (.int (-2)))) (h := (mSH, (mUp I 0 9 ((I 0 9) + 1)), L)) rfl (mRet_int rfl) ?_
      show mWP mTb_ mFT ro (d + 7, 84, 41, [some (.ref 0), some (.int v0), some (.int v1), some (.int v2)], [.int (-2)], 0, 0, (mSH, (mUp I 0 9 ((I 0 9) + 1)), L)) _
      refine mRt (r := (some (.int (-2)))) (h := (mSH, (mUp I 0 9 ((I 0 9) + 1)), L)) rfl (mRet_int rfl) ?_
      exact hq _ _ (mFr.up (by rfl) mFr.rf) ⟨hI.1, hI.2.1, hI.2.2.1, hI.2.2.2.1, hI.2.2.2.2.1, hI.2.2.2.2.2.1, (mRk.up hI.2.2.2.2.2.2 (by rfl) (by rfl))⟩ (if_neg (c := ms_k T v0 v1 v2) (by have e1 := pm_ti hC.1.1 (by have := hO.1.1; omega); have e2 := pm_ti hC.1.2.1 (by have := hO.1.2.1; omega); have a0 := of_decide_eq_false c0; have a1 := of_decide_eq_true c1; simp only [Int32.lt_iff_toInt_lt, Int32.le_iff_toInt_le, ← Int32.toInt_inj, mLi0, mLi1, mLi2, mLi3, mLi4, mLi5, mLi6, mLi7, mLi8, mLi9, mLi10, mLi16, mLi32, mLi48, mLi57, mLi59, mLi65, mLi90, mLi97, mLi99, mLi120, mLi122, mLi127, mLi1584, mLi999999, mLim] at a0 a1 <;> omega)).symm (kc_1 (by have e1 := pm_ti hC.1.1 (by have := hO.1.1; omega); have e2 := pm_ti hC.1.2.1 (by have := hO.1.2.1; omega); have a0 := of_decide_eq_false c0; have a1 := of_decide_eq_true c1; simp only [Int32.lt_iff_toInt_lt, Int32.le_iff_toInt_le, ← Int32.toInt_inj, mLi0, mLi1, mLi2, mLi3, mLi4, mLi5, mLi6, mLi7, mLi8, mLi9, mLi10, mLi16, mLi32, mLi48, mLi57, mLi59, mLi65, mLi90, mLi97, mLi99, mLi120, mLi122, mLi127, mLi1584, mLi999999, mLim] at a0 a1 <;> omega) (by rfl))
    · refine mB 2 (s2 := (d + 6, 41, 17, [some (.ref 4), some (.int v0)], [.int 1], 0, 0, (mSH, I, L))) rfl ?_
      refine mRt (r := (some (.int 1))) (h := (mSH, I, L)) rfl rfl ?_
      show mWP mTb_ mFT ro (d + 7, 84, 11, [some (.ref 0), some (.int v0), some (.int v1), some (.int v2)], [.int 1], 0, 0, (mSH, I, L)) _
      refine mBF (s3 := (d + 7, 84, 14, [some (.ref 0), some (.int v0), some (.int v1), some (.int v2)], [], 0, 0, (mSH, I, L))) rfl (by decide) ?_
      refine mB 4 (s2 := (d + 7, 84, 22, [some (.ref 0), some (.int v0), some (.int v1), some (.int v2)], [.int v1, .ref 2], 0, 0, (mSH, I, L))) rfl ?_
      refine mCall (s2 := (d + 6, 41, 0, [some (.ref 2), some (.int v1)], [], 0, 0, (mSH, I, L))) rfl ?_
      refine mB 1 (s2 := (d + 6, 41, 1, [some (.ref 2), some (.int v1)], [.int v1], 0, 0, (mSH, I, L))) rfl ?_
      refine mBr (s2 := (d + 6, 41, 16, [some (.ref 2), some (.int v1)], [], 0, 0, (mSH, I, L))) (s3 := (d + 6, 41, 4, [some (.ref 2), some (.int v1)], [], 0, 0, (mSH, I, L))) rfl (fun c2 => ?_) (fun c2 => ?_)
      · refine mB 1 (s2 := (d + 6, 41, 17, [some (.ref 2), some (.int v1)], [.int 0], 0, 0, (mSH, I, L))) rfl ?_
        refine mRt (r := (some (.int 0))) (h := (mSH, I, L)) rfl rfl ?_
        show mWP mTb_ mFT ro (d + 7, 84, 25, [some (.ref 0), some (.int v0), some (.int v1), some (.int v2)], [.int 0], 0, 0, (mSH, I, L)) _
        refine mBT (s2 := (d + 7, 84, 35, [some (.ref 0), some (.int v0), some (.int v1), some (.int v2)], [], 0, 0, (mSH, I, L))) rfl (by decide) ?_
        refine mB 2 (s2 := (d + 7, 84, 38, [some (.ref 0), some (.int v0), some (.int v1), some (.int v2)], [.int (-2), .ref 0], 0, 0, (mSH, I, L))) rfl ?_
        refine mCall (s2 := (d + 6, 103, 0, [some (.ref 0), some (.int (-2))], [], 0, 0, (mSH, I, L))) rfl ?_
        refine mB 2 (s2 := (d + 6, 103, 3, [some (.ref 0), some (.int (-2))], [.int (-2), .int (-2)], 0, 0, (mSH, I, L))) rfl ?_
        refine mBT (s2 := (d + 6, 103, 6, [some (.ref 0), some (.int (-2))], [], 0, 0, (mSH, I, L))) rfl (by decide) ?_
        refine mB 8 (s2 := (d + 6, 103, 49, [some (.ref 0), some (.int (-2))], [.int (-2)], 0, 0, (mSH, (mUp I 0 9 ((I 0 9) + 1)), L))) rfl ?_
        refine mRt (r := (some (.int (-2)))) (h := (mSH, (mUp I 0 9 ((I 0 9) + 1)), L)) rfl (mRet_int rfl) ?_
        show mWP mTb_ mFT ro (d + 7, 84, 41, [some (.ref 0), some (.int v0), some (.int v1), some (.int v2)], [.int (-2)], 0, 0, (mSH, (mUp I 0 9 ((I 0 9) + 1)), L)) _
        refine mRt (r := (some (.int (-2)))) (h := (mSH, (mUp I 0 9 ((I 0 9) + 1)), L)) rfl (mRet_int rfl) ?_
        exact hq _ _ (mFr.up (by rfl) mFr.rf) ⟨hI.1, hI.2.1, hI.2.2.1, hI.2.2.2.1, hI.2.2.2.2.1, hI.2.2.2.2.2.1, (mRk.up hI.2.2.2.2.2.2 (by rfl) (by rfl))⟩ (if_neg (c := ms_k T v0 v1 v2) (by have e1 := pm_ti hC.1.1 (by have := hO.1.1; omega); have e2 := pm_ti hC.1.2.1 (by have := hO.1.2.1; omega); have a0 := of_decide_eq_false c0; have a1 := of_decide_eq_false c1; have a2 := of_decide_eq_true c2; simp only [Int32.lt_iff_toInt_lt, Int32.le_iff_toInt_le, ← Int32.toInt_inj, mLi0, mLi1, mLi2, mLi3, mLi4, mLi5, mLi6, mLi7, mLi8, mLi9, mLi10, mLi16, mLi32, mLi48, mLi57, mLi59, mLi65, mLi90, mLi97, mLi99, mLi120, mLi122, mLi127, mLi1584, mLi999999, mLim] at a0 a1 a2 <;> omega)).symm (kc_1 (by have e1 := pm_ti hC.1.1 (by have := hO.1.1; omega); have e2 := pm_ti hC.1.2.1 (by have := hO.1.2.1; omega); have a0 := of_decide_eq_false c0; have a1 := of_decide_eq_false c1; have a2 := of_decide_eq_true c2; simp only [Int32.lt_iff_toInt_lt, Int32.le_iff_toInt_le, ← Int32.toInt_inj, mLi0, mLi1, mLi2, mLi3, mLi4, mLi5, mLi6, mLi7, mLi8, mLi9, mLi10, mLi16, mLi32, mLi48, mLi57, mLi59, mLi65, mLi90, mLi97, mLi99, mLi120, mLi122, mLi127, mLi1584, mLi999999, mLim] at a0 a1 a2 <;> omega) (by rfl))
      · refine mB 3 (s2 := (d + 6, 41, 9, [some (.ref 2), some (.int v1)], [.int (I 2 1), .int v1], 0, 0, (mSH, I, L))) rfl ?_
        refine mBr (s2 := (d + 6, 41, 16, [some (.ref 2), some (.int v1)], [], 0, 0, (mSH, I, L))) (s3 := (d + 6, 41, 12, [some (.ref 2), some (.int v1)], [], 0, 0, (mSH, I, L))) rfl (fun c3 => ?_) (fun c3 => ?_)
        · refine mB 1 (s2 := (d + 6, 41, 17, [some (.ref 2), some (.int v1)], [.int 0], 0, 0, (mSH, I, L))) rfl ?_
          refine mRt (r := (some (.int 0))) (h := (mSH, I, L)) rfl rfl ?_
          show mWP mTb_ mFT ro (d + 7, 84, 25, [some (.ref 0), some (.int v0), some (.int v1), some (.int v2)], [.int 0], 0, 0, (mSH, I, L)) _
          refine mBT (s2 := (d + 7, 84, 35, [some (.ref 0), some (.int v0), some (.int v1), some (.int v2)], [], 0, 0, (mSH, I, L))) rfl (by decide) ?_
          refine mB 2 (s2 := (d + 7, 84, 38, [some (.ref 0), some (.int v0), some (.int v1), some (.int v2)], [.int (-2), .ref 0], 0, 0, (mSH, I, L))) rfl ?_
          refine mCall (s2 := (d + 6, 103, 0, [some (.ref 0), some (.int (-2))], [], 0, 0, (mSH, I, L))) rfl ?_
          refine mB 2 (s2 := (d + 6, 103, 3, [some (.ref 0), some (.int (-2))], [.int (-2), .int (-2)], 0, 0, (mSH, I, L))) rfl ?_
          refine mBT (s2 := (d + 6, 103, 6, [some (.ref 0), some (.int (-2))], [], 0, 0, (mSH, I, L))) rfl (by decide) ?_
          refine mB 8 (s2 := (d + 6, 103, 49, [some (.ref 0), some (.int (-2))], [.int (-2)], 0, 0, (mSH, (mUp I 0 9 ((I 0 9) + 1)), L))) rfl ?_
          refine mRt (r := (some (.int (-2)))) (h := (mSH, (mUp I 0 9 ((I 0 9) + 1)), L)) rfl (mRet_int rfl) ?_
          show mWP mTb_ mFT ro (d + 7, 84, 41, [some (.ref 0), some (.int v0), some (.int v1), some (.int v2)], [.int (-2)], 0, 0, (mSH, (mUp I 0 9 ((I 0 9) + 1)), L)) _
          refine mRt (r := (some (.int (-2)))) (h := (mSH, (mUp I 0 9 ((I 0 9) + 1)), L)) rfl (mRet_int rfl) ?_
          exact hq _ _ (mFr.up (by rfl) mFr.rf) ⟨hI.1, hI.2.1, hI.2.2.1, hI.2.2.2.1, hI.2.2.2.2.1, hI.2.2.2.2.2.1, (mRk.up hI.2.2.2.2.2.2 (by rfl) (by rfl))⟩ (if_neg (c := ms_k T v0 v1 v2) (by have e1 := pm_ti hC.1.1 (by have := hO.1.1; omega); have e2 := pm_ti hC.1.2.1 (by have := hO.1.2.1; omega); have a0 := of_decide_eq_false c0; have a1 := of_decide_eq_false c1; have a2 := of_decide_eq_false c2; have a3 := of_decide_eq_true c3; simp only [Int32.lt_iff_toInt_lt, Int32.le_iff_toInt_le, ← Int32.toInt_inj, mLi0, mLi1, mLi2, mLi3, mLi4, mLi5, mLi6, mLi7, mLi8, mLi9, mLi10, mLi16, mLi32, mLi48, mLi57, mLi59, mLi65, mLi90, mLi97, mLi99, mLi120, mLi122, mLi127, mLi1584, mLi999999, mLim] at a0 a1 a2 a3 <;> omega)).symm (kc_1 (by have e1 := pm_ti hC.1.1 (by have := hO.1.1; omega); have e2 := pm_ti hC.1.2.1 (by have := hO.1.2.1; omega); have a0 := of_decide_eq_false c0; have a1 := of_decide_eq_false c1; have a2 := of_decide_eq_false c2; have a3 := of_decide_eq_true c3; simp only [Int32.lt_iff_toInt_lt, Int32.le_iff_toInt_le, ← Int32.toInt_inj, mLi0, mLi1, mLi2, mLi3, mLi4, mLi5, mLi6, mLi7, mLi8, mLi9, mLi10, mLi16, mLi32, mLi48, mLi57, mLi59, mLi65, mLi90, mLi97, mLi99, mLi120, mLi122, mLi127, mLi1584, mLi999999, mLim] at a0 a1 a2 a3 <;> omega) (by rfl))
        · refine mB 2 (s2 := (d + 6, 41, 17, [some (.ref 2), some (.int v1)], [.int 1], 0, 0, (mSH, I, L))) rfl ?_
          refine mRt (r := (some (.int 1))) (h := (mSH, I, L)) rfl rfl ?_
          show mWP mTb_ mFT ro (d + 7, 84, 25, [some (.ref 0), some (.int v0), some (.int v1), some (.int v2)], [.int 1], 0, 0, (mSH, I, L)) _
          refine mBF (s3 := (d + 7, 84, 28, [some (.ref 0), some (.int v0), some (.int v1), some (.int v2)], [], 0, 0, (mSH, I, L))) rfl (by decide) ?_
          refine mB 1 (s2 := (d + 7, 84, 29, [some (.ref 0), some (.int v0), some (.int v1), some (.int v2)], [.int v2], 0, 0, (mSH, I, L))) rfl ?_
          refine mCall (s2 := (d + 6, 110, 0, [some (.int v2)], [], 0, 0, (mSH, I, L))) rfl ?_
          refine mB 2 (s2 := (d + 6, 110, 2, [some (.int v2)], [.int 1, .int v2], 0, 0, (mSH, I, L))) rfl ?_
          refine mBr (s2 := (d + 6, 110, 15, [some (.int v2)], [], 0, 0, (mSH, I, L))) (s3 := (d + 6, 110, 5, [some (.int v2)], [], 0, 0, (mSH, I, L))) rfl (fun c4 => ?_) (fun c4 => ?_)
          · refine mB 2 (s2 := (d + 6, 110, 20, [some (.int v2)], [.int 1], 0, 0, (mSH, I, L))) rfl ?_
            refine mRt (r := (some (.int 1))) (h := (mSH, I, L)) rfl rfl ?_
            show mWP mTb_ mFT ro (d + 7, 84, 32, [some (.ref 0), some (.int v0), some (.int v1), some (.int v2)], [.int 1], 0, 0, (mSH, I, L)) _
            refine mBF (s3 := (d + 7, 84, 42, [some (.ref 0), some (.int v0), some (.int v1), some (.int v2)], [], 0, 0, (mSH, I, L))) rfl (by decide) ?_
            refine mB 7 (s2 := (d + 7, 84, 55, [some (.ref 0), some (.int v0), some (.int v1), some (.int v2)], [.int 0, .ref 8, .ref 6, .ref 10], 0, 0, (mSH, I, L))) rfl ?_
            refine mCall (s2 := (d + 6, 10, 0, [some (.ref 8), some (.int 0)], [], 0, 0, (mSH, I, L))) rfl ?_
            refine mB 2 (s2 := (d + 6, 10, 2, [some (.ref 8), some (.int 0)], [.int 0, .ref 8], 0, 0, (mSH, I, L))) rfl ?_
            refine mCall (s2 := (d + 5, 8, 0, [some (.ref 8), some (.int 0)], [], 0, 0, (mSH, I, L))) rfl ?_
            refine mB 1 (s2 := (d + 5, 8, 1, [some (.ref 8), some (.int 0)], [.int 0], 0, 0, (mSH, I, L))) rfl ?_
            refine mBF (s3 := (d + 5, 8, 4, [some (.ref 8), some (.int 0)], [], 0, 0, (mSH, I, L))) rfl (by decide) ?_
            refine mB 4 (s2 := (d + 5, 8, 10, [some (.ref 8), some (.int 0)], [.int 3, .int 0], 0, 0, (mSH, I, L))) rfl ?_
            refine mBF (s3 := (d + 5, 8, 13, [some (.ref 8), some (.int 0)], [], 0, 0, (mSH, I, L))) rfl (by decide) ?_
            refine mB 2 (s2 := (d + 5, 8, 18, [some (.ref 8), some (.int 0)], [.int 1], 0, 0, (mSH, I, L))) rfl ?_
            refine mRt (r := (some (.int 1))) (h := (mSH, I, L)) rfl rfl ?_
            show mWP mTb_ mFT ro (d + 6, 10, 5, [some (.ref 8), some (.int 0)], [.int 1], 0, 0, (mSH, I, L)) _
            refine mBF (s3 := (d + 6, 10, 8, [some (.ref 8), some (.int 0)], [], 0, 0, (mSH, I, L))) rfl (by decide) ?_
            refine mB 3 (s2 := (d + 6, 10, 13, [some (.ref 8), some (.int 0)], [.int 0, .ref 9], 0, 0, (mSH, I, L))) rfl ?_
            refine mRq (s2 := (d + 6, 10, 14, [some (.ref 8), some (.int 0)], [.int (I 9 0)], 0, 0, (mSH, I, L))) rfl (by decide) ?_
            refine mB 1 (s2 := (d + 6, 10, 18, [some (.ref 8), some (.int 0)], [.int (I 9 0)], 0, 0, (mSH, I, L))) rfl ?_
            refine mRt (r := (some (.int (I 9 0)))) (h := (mSH, I, L)) rfl (mRet_int rfl) ?_
            show mWP mTb_ mFT ro (d + 7, 84, 58, [some (.ref 0), some (.int v0), some (.int v1), some (.int v2)], [.int (I 9 0), .ref 6, .ref 10], 0, 0, (mSH, I, L)) _
            refine mB 3 (s2 := (d + 7, 84, 61, [some (.ref 0), some (.int v0), some (.int v1), some (.int v2)], [.int v2, .int v1, .int v0, .int (I 9 0), .ref 6, .ref 10], 0, 0, (mSH, I, L))) rfl ?_
            (have k0 : ms_k T v0 v1 v2 := (by have e1 := pm_ti hC.1.1 (by have := hO.1.1; omega); have e2 := pm_ti hC.1.2.1 (by have := hO.1.2.1; omega); have b0 : (v2).toInt = 1 := (by have z := of_decide_eq_true c4; rw [z]; rfl); have a0 := of_decide_eq_false c0; have a1 := of_decide_eq_false c1; have a2 := of_decide_eq_false c2; have a3 := of_decide_eq_false c3; simp only [Int32.lt_iff_toInt_lt, Int32.le_iff_toInt_le, ← Int32.toInt_inj, mLi0, mLi1, mLi2, mLi3, mLi4, mLi5, mLi6, mLi7, mLi8, mLi9, mLi10, mLi16, mLi32, mLi48, mLi57, mLi59, mLi65, mLi90, mLi97, mLi99, mLi120, mLi122, mLi127, mLi1584, mLi999999, mLim] at a0 a1 a2 a3 <;> omega); obtain ⟨j, hj, e⟩ := pm_in hC.1.2.1 (Nat.le_trans hO.1.2.1 (by omega)) (of_decide_eq_false c0) (of_decide_eq_false c1); subst e; obtain ⟨i, hi, e⟩ := pm_in hC.1.1 hO.1.1 (of_decide_eq_false c2) (of_decide_eq_false c3); subst e; have e := of_decide_eq_true c4; subst e; exact v_misfit1 (p := 0) hO hC hC.2.2.2.2 hj hi (by omega) (hq _ _ mFr.rf hI (ms_y hO.1 hj hi (by omega)) (kc_0 k0 trivial rfl)))
          · refine mB 2 (s2 := (d + 6, 110, 7, [some (.int v2)], [.int 3, .int v2], 0, 0, (mSH, I, L))) rfl ?_
            refine mBr (s2 := (d + 6, 110, 15, [some (.int v2)], [], 0, 0, (mSH, I, L))) (s3 := (d + 6, 110, 10, [some (.int v2)], [], 0, 0, (mSH, I, L))) rfl (fun c5 => ?_) (fun c5 => ?_)
            · refine mB 2 (s2 := (d + 6, 110, 20, [some (.int v2)], [.int 1], 0, 0, (mSH, I, L))) rfl ?_
              refine mRt (r := (some (.int 1))) (h := (mSH, I, L)) rfl rfl ?_
              show mWP mTb_ mFT ro (d + 7, 84, 32, [some (.ref 0), some (.int v0), some (.int v1), some (.int v2)], [.int 1], 0, 0, (mSH, I, L)) _
              refine mBF (s3 := (d + 7, 84, 42, [some (.ref 0), some (.int v0), some (.int v1), some (.int v2)], [], 0, 0, (mSH, I, L))) rfl (by decide) ?_
              refine mB 7 (s2 := (d + 7, 84, 55, [some (.ref 0), some (.int v0), some (.int v1), some (.int v2)], [.int 0, .ref 8, .ref 6, .ref 10], 0, 0, (mSH, I, L))) rfl ?_
              refine mCall (s2 := (d + 6, 10, 0, [some (.ref 8), some (.int 0)], [], 0, 0, (mSH, I, L))) rfl ?_
              refine mB 2 (s2 := (d + 6, 10, 2, [some (.ref 8), some (.int 0)], [.int 0, .ref 8], 0, 0, (mSH, I, L))) rfl ?_
              refine mCall (s2 := (d + 5, 8, 0, [some (.ref 8), some (.int 0)], [], 0, 0, (mSH, I, L))) rfl ?_
              refine mB 1 (s2 := (d + 5, 8, 1, [some (.ref 8), some (.int 0)], [.int 0], 0, 0, (mSH, I, L))) rfl ?_
              refine mBF (s3 := (d + 5, 8, 4, [some (.ref 8), some (.int 0)], [], 0, 0, (mSH, I, L))) rfl (by decide) ?_
              refine mB 4 (s2 := (d + 5, 8, 10, [some (.ref 8), some (.int 0)], [.int 3, .int 0], 0, 0, (mSH, I, L))) rfl ?_
              refine mBF (s3 := (d + 5, 8, 13, [some (.ref 8), some (.int 0)], [], 0, 0, (mSH, I, L))) rfl (by decide) ?_
              refine mB 2 (s2 := (d + 5, 8, 18, [some (.ref 8), some (.int 0)], [.int 1], 0, 0, (mSH, I, L))) rfl ?_
              refine mRt (r := (some (.int 1))) (h := (mSH, I, L)) rfl rfl ?_
              show mWP mTb_ mFT ro (d + 6, 10, 5, [some (.ref 8), some (.int 0)], [.int 1], 0, 0, (mSH, I, L)) _
              refine mBF (s3 := (d + 6, 10, 8, [some (.ref 8), some (.int 0)], [], 0, 0, (mSH, I, L))) rfl (by decide) ?_
              refine mB 3 (s2 := (d + 6, 10, 13, [some (.ref 8), some (.int 0)], [.int 0, .ref 9], 0, 0, (mSH, I, L))) rfl ?_
              refine mRq (s2 := (d + 6, 10, 14, [some (.ref 8), some (.int 0)], [.int (I 9 0)], 0, 0, (mSH, I, L))) rfl (by decide) ?_
              refine mB 1 (s2 := (d + 6, 10, 18, [some (.ref 8), some (.int 0)], [.int (I 9 0)], 0, 0, (mSH, I, L))) rfl ?_
              refine mRt (r := (some (.int (I 9 0)))) (h := (mSH, I, L)) rfl (mRet_int rfl) ?_
              show mWP mTb_ mFT ro (d + 7, 84, 58, [some (.ref 0), some (.int v0), some (.int v1), some (.int v2)], [.int (I 9 0), .ref 6, .ref 10], 0, 0, (mSH, I, L)) _
              refine mB 3 (s2 := (d + 7, 84, 61, [some (.ref 0), some (.int v0), some (.int v1), some (.int v2)], [.int v2, .int v1, .int v0, .int (I 9 0), .ref 6, .ref 10], 0, 0, (mSH, I, L))) rfl ?_
              (have k0 : ms_k T v0 v1 v2 := (by have e1 := pm_ti hC.1.1 (by have := hO.1.1; omega); have e2 := pm_ti hC.1.2.1 (by have := hO.1.2.1; omega); have b0 : (v2).toInt = 3 := (by have z := of_decide_eq_true c5; rw [z]; rfl); have a0 := of_decide_eq_false c0; have a1 := of_decide_eq_false c1; have a2 := of_decide_eq_false c2; have a3 := of_decide_eq_false c3; have a4 := of_decide_eq_false c4; simp only [Int32.lt_iff_toInt_lt, Int32.le_iff_toInt_le, ← Int32.toInt_inj, mLi0, mLi1, mLi2, mLi3, mLi4, mLi5, mLi6, mLi7, mLi8, mLi9, mLi10, mLi16, mLi32, mLi48, mLi57, mLi59, mLi65, mLi90, mLi97, mLi99, mLi120, mLi122, mLi127, mLi1584, mLi999999, mLim] at a0 a1 a2 a3 a4 <;> omega); obtain ⟨j, hj, e⟩ := pm_in hC.1.2.1 (Nat.le_trans hO.1.2.1 (by omega)) (of_decide_eq_false c0) (of_decide_eq_false c1); subst e; obtain ⟨i, hi, e⟩ := pm_in hC.1.1 hO.1.1 (of_decide_eq_false c2) (of_decide_eq_false c3); subst e; have e := of_decide_eq_true c5; subst e; exact v_misfit1 (p := 1) hO hC hC.2.2.2.2 hj hi (by omega) (hq _ _ mFr.rf hI (ms_y hO.1 hj hi (by omega)) (kc_0 k0 trivial rfl)))
            · refine mB 2 (s2 := (d + 6, 110, 12, [some (.int v2)], [.int 5, .int v2], 0, 0, (mSH, I, L))) rfl ?_
              refine mBr (s2 := (d + 6, 110, 15, [some (.int v2)], [], 0, 0, (mSH, I, L))) (s3 := (d + 6, 110, 19, [some (.int v2)], [], 0, 0, (mSH, I, L))) rfl (fun c6 => ?_) (fun c6 => ?_)
              · refine mB 2 (s2 := (d + 6, 110, 20, [some (.int v2)], [.int 1], 0, 0, (mSH, I, L))) rfl ?_
                refine mRt (r := (some (.int 1))) (h := (mSH, I, L)) rfl rfl ?_
                show mWP mTb_ mFT ro (d + 7, 84, 32, [some (.ref 0), some (.int v0), some (.int v1), some (.int v2)], [.int 1], 0, 0, (mSH, I, L)) _
                refine mBF (s3 := (d + 7, 84, 42, [some (.ref 0), some (.int v0), some (.int v1), some (.int v2)], [], 0, 0, (mSH, I, L))) rfl (by decide) ?_
                refine mB 7 (s2 := (d + 7, 84, 55, [some (.ref 0), some (.int v0), some (.int v1), some (.int v2)], [.int 0, .ref 8, .ref 6, .ref 10], 0, 0, (mSH, I, L))) rfl ?_
                refine mCall (s2 := (d + 6, 10, 0, [some (.ref 8), some (.int 0)], [], 0, 0, (mSH, I, L))) rfl ?_
                refine mB 2 (s2 := (d + 6, 10, 2, [some (.ref 8), some (.int 0)], [.int 0, .ref 8], 0, 0, (mSH, I, L))) rfl ?_
                refine mCall (s2 := (d + 5, 8, 0, [some (.ref 8), some (.int 0)], [], 0, 0, (mSH, I, L))) rfl ?_
                refine mB 1 (s2 := (d + 5, 8, 1, [some (.ref 8), some (.int 0)], [.int 0], 0, 0, (mSH, I, L))) rfl ?_
                refine mBF (s3 := (d + 5, 8, 4, [some (.ref 8), some (.int 0)], [], 0, 0, (mSH, I, L))) rfl (by decide) ?_
                refine mB 4 (s2 := (d + 5, 8, 10, [some (.ref 8), some (.int 0)], [.int 3, .int 0], 0, 0, (mSH, I, L))) rfl ?_
                refine mBF (s3 := (d + 5, 8, 13, [some (.ref 8), some (.int 0)], [], 0, 0, (mSH, I, L))) rfl (by decide) ?_
                refine mB 2 (s2 := (d + 5, 8, 18, [some (.ref 8), some (.int 0)], [.int 1], 0, 0, (mSH, I, L))) rfl ?_
                refine mRt (r := (some (.int 1))) (h := (mSH, I, L)) rfl rfl ?_
                show mWP mTb_ mFT ro (d + 6, 10, 5, [some (.ref 8), some (.int 0)], [.int 1], 0, 0, (mSH, I, L)) _
                refine mBF (s3 := (d + 6, 10, 8, [some (.ref 8), some (.int 0)], [], 0, 0, (mSH, I, L))) rfl (by decide) ?_
                refine mB 3 (s2 := (d + 6, 10, 13, [some (.ref 8), some (.int 0)], [.int 0, .ref 9], 0, 0, (mSH, I, L))) rfl ?_
                refine mRq (s2 := (d + 6, 10, 14, [some (.ref 8), some (.int 0)], [.int (I 9 0)], 0, 0, (mSH, I, L))) rfl (by decide) ?_
                refine mB 1 (s2 := (d + 6, 10, 18, [some (.ref 8), some (.int 0)], [.int (I 9 0)], 0, 0, (mSH, I, L))) rfl ?_
                refine mRt (r := (some (.int (I 9 0)))) (h := (mSH, I, L)) rfl (mRet_int rfl) ?_
                show mWP mTb_ mFT ro (d + 7, 84, 58, [some (.ref 0), some (.int v0), some (.int v1), some (.int v2)], [.int (I 9 0), .ref 6, .ref 10], 0, 0, (mSH, I, L)) _
                refine mB 3 (s2 := (d + 7, 84, 61, [some (.ref 0), some (.int v0), some (.int v1), some (.int v2)], [.int v2, .int v1, .int v0, .int (I 9 0), .ref 6, .ref 10], 0, 0, (mSH, I, L))) rfl ?_
                (have k0 : ms_k T v0 v1 v2 := (by have e1 := pm_ti hC.1.1 (by have := hO.1.1; omega); have e2 := pm_ti hC.1.2.1 (by have := hO.1.2.1; omega); have b0 : (v2).toInt = 5 := (by have z := of_decide_eq_true c6; rw [z]; rfl); have a0 := of_decide_eq_false c0; have a1 := of_decide_eq_false c1; have a2 := of_decide_eq_false c2; have a3 := of_decide_eq_false c3; have a4 := of_decide_eq_false c4; have a5 := of_decide_eq_false c5; simp only [Int32.lt_iff_toInt_lt, Int32.le_iff_toInt_le, ← Int32.toInt_inj, mLi0, mLi1, mLi2, mLi3, mLi4, mLi5, mLi6, mLi7, mLi8, mLi9, mLi10, mLi16, mLi32, mLi48, mLi57, mLi59, mLi65, mLi90, mLi97, mLi99, mLi120, mLi122, mLi127, mLi1584, mLi999999, mLim] at a0 a1 a2 a3 a4 a5 <;> omega); obtain ⟨j, hj, e⟩ := pm_in hC.1.2.1 (Nat.le_trans hO.1.2.1 (by omega)) (of_decide_eq_false c0) (of_decide_eq_false c1); subst e; obtain ⟨i, hi, e⟩ := pm_in hC.1.1 hO.1.1 (of_decide_eq_false c2) (of_decide_eq_false c3); subst e; have e := of_decide_eq_true c6; subst e; exact v_misfit1 (p := 2) hO hC hC.2.2.2.2 hj hi (by omega) (hq _ _ mFr.rf hI (ms_y hO.1 hj hi (by omega)) (kc_0 k0 trivial rfl)))
              · refine mB 1 (s2 := (d + 6, 110, 20, [some (.int v2)], [.int 0], 0, 0, (mSH, I, L))) rfl ?_
                refine mRt (r := (some (.int 0))) (h := (mSH, I, L)) rfl rfl ?_
                show mWP mTb_ mFT ro (d + 7, 84, 32, [some (.ref 0), some (.int v0), some (.int v1), some (.int v2)], [.int 0], 0, 0, (mSH, I, L)) _
                refine mBT (s2 := (d + 7, 84, 35, [some (.ref 0), some (.int v0), some (.int v1), some (.int v2)], [], 0, 0, (mSH, I, L))) rfl (by decide) ?_
                refine mB 2 (s2 := (d + 7, 84, 38, [some (.ref 0), some (.int v0), some (.int v1), some (.int v2)], [.int (-2), .ref 0], 0, 0, (mSH, I, L))) rfl ?_
                refine mCall (s2 := (d + 6, 103, 0, [some (.ref 0), some (.int (-2))], [], 0, 0, (mSH, I, L))) rfl ?_
                refine mB 2 (s2 := (d + 6, 103, 3, [some (.ref 0), some (.int (-2))], [.int (-2), .int (-2)], 0, 0, (mSH, I, L))) rfl ?_
                refine mBT (s2 := (d + 6, 103, 6, [some (.ref 0), some (.int (-2))], [], 0, 0, (mSH, I, L))) rfl (by decide) ?_
                refine mB 8 (s2 := (d + 6, 103, 49, [some (.ref 0), some (.int (-2))], [.int (-2)], 0, 0, (mSH, (mUp I 0 9 ((I 0 9) + 1)), L))) rfl ?_
                refine mRt (r := (some (.int (-2)))) (h := (mSH, (mUp I 0 9 ((I 0 9) + 1)), L)) rfl (mRet_int rfl) ?_
                show mWP mTb_ mFT ro (d + 7, 84, 41, [some (.ref 0), some (.int v0), some (.int v1), some (.int v2)], [.int (-2)], 0, 0, (mSH, (mUp I 0 9 ((I 0 9) + 1)), L)) _
                refine mRt (r := (some (.int (-2)))) (h := (mSH, (mUp I 0 9 ((I 0 9) + 1)), L)) rfl (mRet_int rfl) ?_
                exact hq _ _ (mFr.up (by rfl) mFr.rf) ⟨hI.1, hI.2.1, hI.2.2.1, hI.2.2.2.1, hI.2.2.2.2.1, hI.2.2.2.2.2.1, (mRk.up hI.2.2.2.2.2.2 (by rfl) (by rfl))⟩ (if_neg (c := ms_k T v0 v1 v2) (by have e1 := pm_ti hC.1.1 (by have := hO.1.1; omega); have e2 := pm_ti hC.1.2.1 (by have := hO.1.2.1; omega); have a0 := of_decide_eq_false c0; have a1 := of_decide_eq_false c1; have a2 := of_decide_eq_false c2; have a3 := of_decide_eq_false c3; have a4 := of_decide_eq_false c4; have a5 := of_decide_eq_false c5; have a6 := of_decide_eq_false c6; simp only [Int32.lt_iff_toInt_lt, Int32.le_iff_toInt_le, ← Int32.toInt_inj, mLi0, mLi1, mLi2, mLi3, mLi4, mLi5, mLi6, mLi7, mLi8, mLi9, mLi10, mLi16, mLi32, mLi48, mLi57, mLi59, mLi65, mLi90, mLi97, mLi99, mLi120, mLi122, mLi127, mLi1584, mLi999999, mLim] at a0 a1 a2 a3 a4 a5 a6 <;> omega)).symm (kc_1 (by have e1 := pm_ti hC.1.1 (by have := hO.1.1; omega); have e2 := pm_ti hC.1.2.1 (by have := hO.1.2.1; omega); have a0 := of_decide_eq_false c0; have a1 := of_decide_eq_false c1; have a2 := of_decide_eq_false c2; have a3 := of_decide_eq_false c3; have a4 := of_decide_eq_false c4; have a5 := of_decide_eq_false c5; have a6 := of_decide_eq_false c6; simp only [Int32.lt_iff_toInt_lt, Int32.le_iff_toInt_le, ← Int32.toInt_inj, mLi0, mLi1, mLi2, mLi3, mLi4, mLi5, mLi6, mLi7, mLi8, mLi9, mLi10, mLi16, mLi32, mLi48, mLi57, mLi59, mLi65, mLi90, mLi97, mLi99, mLi120, mLi122, mLi127, mLi1584, mLi999999, mLim] at a0 a1 a2 a3 a4 a5 a6 <;> omega) (by rfl))
theorem z_match {ro : Nat → Nat × (Nat → Int32)} {Q : mPo} {d : Nat} {I : Nat → Nat → Int32} {L : Nat → Nat → Int64} {T : ct_S} {B : ct_B} {kd g pe : Nat} {v0 v1 : Int32} (hI : mIC I) (hO : pm_O T B kd g pe) (hC : pm_C T B kd g pe I) (hq : ∀ r I1, mFr mSQ2 I I1 → mIC I1 → r = an_match T B kd g pe v0 v1 → kC (cdN (an_mk v0 v1) ((an_E T B kd g pe v0).1 < bt_U)) I I1 → Q (some (.int r)) (mSH, I1, L))   : mWP mTb_ mFT ro (d + 7, 85, 0, [some (.ref 0), some (.int v0), some (.int v1)], [], 0, 0, (mSH, I, L)) Q := by
  refine mB 1 (s2 := (d + 7, 85, 1, [some (.ref 0), some (.int v0), some (.int v1)], [.int v0], 0, 0, (mSH, I, L))) rfl ?_
  refine mCall (s2 := (d + 6, 108, 0, [some (.int v0)], [], 0, 0, (mSH, I, L))) rfl ?_
  refine mB 1 (s2 := (d + 6, 108, 1, [some (.int v0)], [.int v0], 0, 0, (mSH, I, L))) rfl ?_
  refine mBr (s2 := (d + 6, 108, 9, [some (.int v0)], [], 0, 0, (mSH, I, L))) (s3 := (d + 6, 108, 4, [some (.int v0)], [], 0, 0, (mSH, I, L))) rfl (fun c0 => ?_) (fun c0 => ?_)
  · refine mB 2 (s2 := (d + 6, 108, 14, [some (.int v0)], [.int 1], 0, 0, (mSH, I, L))) rfl ?_
    refine mRt (r := (some (.int 1))) (h := (mSH, I, L)) rfl rfl ?_
    show mWP mTb_ mFT ro (d + 7, 85, 4, [some (.ref 0), some (.int v0), some (.int v1)], [.int 1], 0, 0, (mSH, I, L)) _
    refine mBF (s3 := (d + 7, 85, 7, [some (.ref 0), some (.int v0), some (.int v1)], [], 0, 0, (mSH, I, L))) rfl (by decide) ?_
    refine mB 1 (s2 := (d + 7, 85, 8, [some (.ref 0), some (.int v0), some (.int v1)], [.int v1], 0, 0, (mSH, I, L))) rfl ?_
    refine mBr (s2 := (d + 7, 85, 16, [some (.ref 0), some (.int v0), some (.int v1)], [], 0, 0, (mSH, I, L))) (s3 := (d + 7, 85, 11, [some (.ref 0), some (.int v0), some (.int v1)], [], 0, 0, (mSH, I, L))) rfl (fun c1 => ?_) (fun c1 => ?_)
    · refine mB 2 (s2 := (d + 7, 85, 19, [some (.ref 0), some (.int v0), some (.int v1)], [.int (-2), .ref 0], 0, 0, (mSH, I, L))) rfl ?_
      refine mCall (s2 := (d + 6, 103, 0, [some (.ref 0), some (.int (-2))], [], 0, 0, (mSH, I, L))) rfl ?_
      refine mB 2 (s2 := (d + 6, 103, 3, [some (.ref 0), some (.int (-2))], [.int (-2), .int (-2)], 0, 0, (mSH, I, L))) rfl ?_
      refine mBT (s2 := (d + 6, 103, 6, [some (.ref 0), some (.int (-2))], [], 0, 0, (mSH, I, L))) rfl (by decide) ?_
      refine mB 8 (s2 := (d + 6, 103, 49, [some (.ref 0), some (.int (-2))], [.int (-2)], 0, 0, (mSH, (mUp I 0 9 ((I 0 9) + 1)), L))) rfl ?_
      refine mRt (r := (some (.int (-2)))) (h := (mSH, (mUp I 0 9 ((I 0 9) + 1)), L)) rfl (mRet_int rfl) ?_
      show mWP mTb_ mFT ro (d + 7, 85, 22, [some (.ref 0), some (.int v0), some (.int v1)], [.int (-2)], 0, 0, (mSH, (mUp I 0 9 ((I 0 9) + 1)), L)) _
      refine mRt (r := (some (.int (-2)))) (h := (mSH, (mUp I 0 9 ((I 0 9) + 1)), L)) rfl (mRet_int rfl) ?_
      exact hq _ _ (mFr.up (by rfl) mFr.rf) (mIC.u0 hI) (if_neg (c := an_mk v0 v1) (by have e1 := pm_ti hC.1.1 (by have := hO.1.1; omega); have e2 := pm_ti hC.1.2.1 (by have := hO.1.2.1; omega); have b0 : (v0).toInt = 0 := (by have z := of_decide_eq_true c0; rw [z]; rfl); have a0 := of_decide_eq_true c1; simp only [Int32.lt_iff_toInt_lt, Int32.le_iff_toInt_le, ← Int32.toInt_inj, mLi0, mLi1, mLi2, mLi3, mLi4, mLi5, mLi6, mLi7, mLi8, mLi9, mLi10, mLi16, mLi32, mLi48, mLi57, mLi59, mLi65, mLi90, mLi97, mLi99, mLi120, mLi122, mLi127, mLi1584, mLi999999, mLim] at a0 <;> omega)).symm (kc_1 (by have e1 := pm_ti hC.1.1 (by have := hO.1.1; omega); have e2 := pm_ti hC.1.2.1 (by have := hO.1.2.1; omega); have b0 : (v0).toInt = 0 := (by have z := of_decide_eq_true c0; rw [z]; rfl); have a0 := of_decide_eq_true c1; simp only [Int32.lt_iff_toInt_lt, Int32.le_iff_toInt_le, ← Int32.toInt_inj, mLi0, mLi1, mLi2, mLi3, mLi4, mLi5, mLi6, mLi7, mLi8, mLi9, mLi10, mLi16, mLi32, mLi48, mLi57, mLi59, mLi65, mLi90, mLi97, mLi99, mLi120, mLi122, mLi127, mLi1584, mLi999999, mLim] at a0 <;> omega) (by rfl))
    · refine mB 2 (s2 := (d + 7, 85, 13, [some (.ref 0), some (.int v0), some (.int v1)], [.int 3, .int v1], 0, 0, (mSH, I, L))) rfl ?_
      refine mBr (s2 := (d + 7, 85, 23, [some (.ref 0), some (.int v0), some (.int v1)], [], 0, 0, (mSH, I, L))) (s3 := (d + 7, 85, 16, [some (.ref 0), some (.int v0), some (.int v1)], [], 0, 0, (mSH, I, L))) rfl (fun c2 => ?_) (fun c2 => ?_)
      · refine mB 2 (s2 := (d + 7, 85, 25, [some (.ref 0), some (.int v0), some (.int v1)], [.int v0, .ref 0], 0, 0, (mSH, I, L))) rfl ?_
        refine mCall (s2 := (d + 6, 106, 0, [some (.ref 0), some (.int v0)], [], 0, 0, (mSH, I, L))) rfl ?_
        refine x_finds hI hO hC (Or.inl (of_decide_eq_true c0)) ?_ ?_
        · intro hn K fK rK cK
          show mWP mTb_ mFT ro (d + 7, 85, 28, [some (.ref 0), some (.int v0), some (.int v1)], [.int 0], 0, 0, (mSH, K, L)) _
          refine mBT (s2 := (d + 7, 85, 31, [some (.ref 0), some (.int v0), some (.int v1)], [], 0, 0, (mSH, K, L))) rfl (by decide) ?_
          refine mB 2 (s2 := (d + 7, 85, 34, [some (.ref 0), some (.int v0), some (.int v1)], [.int (-3), .ref 0], 0, 0, (mSH, K, L))) rfl ?_
          refine mCall (s2 := (d + 6, 103, 0, [some (.ref 0), some (.int (-3))], [], 0, 0, (mSH, K, L))) rfl ?_
          refine mB 2 (s2 := (d + 6, 103, 3, [some (.ref 0), some (.int (-3))], [.int (-2), .int (-3)], 0, 0, (mSH, K, L))) rfl ?_
          refine mBF (s3 := (d + 6, 103, 19, [some (.ref 0), some (.int (-3))], [], 0, 0, (mSH, K, L))) rfl (by decide) ?_
          refine mB 2 (s2 := (d + 6, 103, 22, [some (.ref 0), some (.int (-3))], [.int (-3), .int (-3)], 0, 0, (mSH, K, L))) rfl ?_
          refine mBT (s2 := (d + 6, 103, 25, [some (.ref 0), some (.int (-3))], [], 0, 0, (mSH, K, L))) rfl (by decide) ?_
          refine mB 8 (s2 := (d + 6, 103, 49, [some (.ref 0), some (.int (-3))], [.int (-3)], 0, 0, (mSH, (mUp K 0 10 ((K 0 10) + 1)), L))) rfl ?_
          refine mRt (r := (some (.int (-3)))) (h := (mSH, (mUp K 0 10 ((K 0 10) + 1)), L)) rfl (mRet_int rfl) ?_
          show mWP mTb_ mFT ro (d + 7, 85, 37, [some (.ref 0), some (.int v0), some (.int v1)], [.int (-3)], 0, 0, (mSH, (mUp K 0 10 ((K 0 10) + 1)), L)) _
          refine mRt (r := (some (.int (-3)))) (h := (mSH, (mUp K 0 10 ((K 0 10) + 1)), L)) rfl (mRet_int rfl) ?_
          exact hq _ _ (mFr.up (by rfl) (mFr.sub (by decide) fK)) (mIC.u0 (hI.sx fK rK cK)) ((an_mtn hn).trans (if_pos (c := an_mk v0 v1) (by have b0 : (v0).toInt = 0 := (by have z := of_decide_eq_true c0; rw [z]; rfl); have a0 := of_decide_eq_false c1; have a1 := of_decide_eq_true c2; simp only [Int32.lt_iff_toInt_lt, Int32.le_iff_toInt_le, ← Int32.toInt_inj, mLi0, mLi1, mLi2, mLi3, mLi4, mLi5, mLi6, mLi7, mLi8, mLi9, mLi10, mLi16, mLi32, mLi48, mLi57, mLi59, mLi65, mLi90, mLi97, mLi99, mLi120, mLi122, mLi127, mLi1584, mLi999999, mLim] at a0 a1 <;> omega)).symm) (kc_2 (by have e1 := pm_ti hC.1.1 (by have := hO.1.1; omega); have e2 := pm_ti hC.1.2.1 (by have := hO.1.2.1; omega); have b0 : (v0).toInt = 0 := (by have z := of_decide_eq_true c0; rw [z]; rfl); have a0 := of_decide_eq_false c1; have a1 := of_decide_eq_true c2; simp only [Int32.lt_iff_toInt_lt, Int32.le_iff_toInt_le, ← Int32.toInt_inj, mLi0, mLi1, mLi2, mLi3, mLi4, mLi5, mLi6, mLi7, mLi8, mLi9, mLi10, mLi16, mLi32, mLi48, mLi57, mLi59, mLi65, mLi90, mLi97, mLi99, mLi120, mLi122, mLi127, mLi1584, mLi999999, mLim] at a0 a1 <;> omega) hn (fK 0 rfl))
        · intro hy K fK rK cK mK
          show mWP mTb_ mFT ro (d + 7, 85, 28, [some (.ref 0), some (.int v0), some (.int v1)], [.int 1], 0, 0, (mSH, K, L)) _
          refine mBF (s3 := (d + 7, 85, 38, [some (.ref 0), some (.int v0), some (.int v1)], [], 0, 0, (mSH, K, L))) rfl (by decide) ?_
          refine mB 1 (s2 := (d + 7, 85, 39, [some (.ref 0), some (.int v0), some (.int v1)], [.int v1], 0, 0, (mSH, K, L))) rfl ?_
          refine mSwA (l := [(decide (v1.toInt < 0 ∨ 2 < v1.toInt), (d + 7, 85, 88, [some (.ref 0), some (.int v0), some (.int v1)], [], 0, 0, (mSH, K, L))), (decide (v1.toInt = 0), (d + 7, 85, 64, [some (.ref 0), some (.int v0), some (.int v1)], [], 0, 0, (mSH, K, L))), (decide (v1.toInt = 1), (d + 7, 85, 72, [some (.ref 0), some (.int v0), some (.int v1)], [], 0, 0, (mSH, K, L))), (decide (v1.toInt = 2), (d + 7, 85, 80, [some (.ref 0), some (.int v0), some (.int v1)], [], 0, 0, (mSH, K, L)))]) rfl ⟨fun c3 => ?_, fun c3 => ?_, fun c3 => ?_, fun c3 => ?_, trivial⟩
          · refine mB 2 (s2 := (d + 7, 85, 92, [some (.ref 0), some (.int v0), some (.int v1)], [.ref 22], 0, 0, (mSH, K, L))) rfl ?_
            refine mCall (s2 := (d + 6, 16, 0, [some (.ref 22)], [], 0, 0, (mSH, K, L))) rfl ?_
            refine x_behind mK (an_v hO hy).1 hO.1.1 hO.1.2.1 ?_
            show mWP mTb_ mFT ro (d + 7, 85, 95, [some (.ref 0), some (.int v0), some (.int v1)], [.int (nI ((an_E T B kd g pe v0).2.headD 0 + ct_ys (bt_bl (an_E T B kd g pe v0).2.tail) 0 T.1.2.1))], 0, 0, (mSH, K, L)) _
            refine mRt (r := (some (.int (nI ((an_E T B kd g pe v0).2.headD 0 + ct_ys (bt_bl (an_E T B kd g pe v0).2.tail) 0 T.1.2.1))))) (h := (mSH, K, L)) rfl (mRet_int rfl) ?_
            exact hq _ _ (mFr.sub (by decide) fK) (hI.sx fK rK cK) ((an_mt3 hy (of_decide_eq_true c3)).trans (if_pos (c := an_mk v0 v1) (by have b0 : (v0).toInt = 0 := (by have z := of_decide_eq_true c0; rw [z]; rfl); have a0 := of_decide_eq_false c1; have a1 := of_decide_eq_true c2; simp only [Int32.lt_iff_toInt_lt, Int32.le_iff_toInt_le, ← Int32.toInt_inj, mLi0, mLi1, mLi2, mLi3, mLi4, mLi5, mLi6, mLi7, mLi8, mLi9, mLi10, mLi16, mLi32, mLi48, mLi57, mLi59, mLi65, mLi90, mLi97, mLi99, mLi120, mLi122, mLi127, mLi1584, mLi999999, mLim] at a0 a1 <;> omega)).symm) (kc_0 (by have e1 := pm_ti hC.1.1 (by have := hO.1.1; omega); have e2 := pm_ti hC.1.2.1 (by have := hO.1.2.1; omega); have b0 : (v0).toInt = 0 := (by have z := of_decide_eq_true c0; rw [z]; rfl); have a0 := of_decide_eq_false c1; have a1 := of_decide_eq_true c2; simp only [Int32.lt_iff_toInt_lt, Int32.le_iff_toInt_le, ← Int32.toInt_inj, mLi0, mLi1, mLi2, mLi3, mLi4, mLi5, mLi6, mLi7, mLi8, mLi9, mLi10, mLi16, mLi32, mLi48, mLi57, mLi59, mLi65, mLi90, mLi97, mLi99, mLi120, mLi122, mLi127, mLi1584, mLi999999, mLim] at a0 a1 <;> omega) hy (fK 0 rfl))
          · refine mB 3 (s2 := (d + 7, 85, 71, [some (.ref 0), some (.int v0), some (.int v1)], [.int (K 22 3)], 0, 0, (mSH, K, L))) rfl ?_
            refine mRt (r := (some (.int (K 22 3)))) (h := (mSH, K, L)) rfl (mRet_int rfl) ?_
            exact hq _ _ (mFr.sub (by decide) fK) (hI.sx fK rK cK) ((mK.1.trans (an_mt0 hy (mTI (y := 0) (of_decide_eq_true c3) rfl))).trans (if_pos (c := an_mk v0 v1) (by have b0 : (v0).toInt = 0 := (by have z := of_decide_eq_true c0; rw [z]; rfl); have a0 := of_decide_eq_false c1; have a1 := of_decide_eq_true c2; simp only [Int32.lt_iff_toInt_lt, Int32.le_iff_toInt_le, ← Int32.toInt_inj, mLi0, mLi1, mLi2, mLi3, mLi4, mLi5, mLi6, mLi7, mLi8, mLi9, mLi10, mLi16, mLi32, mLi48, mLi57, mLi59, mLi65, mLi90, mLi97, mLi99, mLi120, mLi122, mLi127, mLi1584, mLi999999, mLim] at a0 a1 <;> omega)).symm) (kc_0 (by have e1 := pm_ti hC.1.1 (by have := hO.1.1; omega); have e2 := pm_ti hC.1.2.1 (by have := hO.1.2.1; omega); have b0 : (v0).toInt = 0 := (by have z := of_decide_eq_true c0; rw [z]; rfl); have a0 := of_decide_eq_false c1; have a1 := of_decide_eq_true c2; simp only [Int32.lt_iff_toInt_lt, Int32.le_iff_toInt_le, ← Int32.toInt_inj, mLi0, mLi1, mLi2, mLi3, mLi4, mLi5, mLi6, mLi7, mLi8, mLi9, mLi10, mLi16, mLi32, mLi48, mLi57, mLi59, mLi65, mLi90, mLi97, mLi99, mLi120, mLi122, mLi127, mLi1584, mLi999999, mLim] at a0 a1 <;> omega) hy (fK 0 rfl))
          · refine mB 3 (s2 := (d + 7, 85, 79, [some (.ref 0), some (.int v0), some (.int v1)], [.int (K 22 2)], 0, 0, (mSH, K, L))) rfl ?_
            refine mRt (r := (some (.int (K 22 2)))) (h := (mSH, K, L)) rfl (mRet_int rfl) ?_
            exact hq _ _ (mFr.sub (by decide) fK) (hI.sx fK rK cK) ((mK.hd.trans (an_mt1 hy (mTI (y := 1) (of_decide_eq_true c3) rfl))).trans (if_pos (c := an_mk v0 v1) (by have b0 : (v0).toInt = 0 := (by have z := of_decide_eq_true c0; rw [z]; rfl); have a0 := of_decide_eq_false c1; have a1 := of_decide_eq_true c2; simp only [Int32.lt_iff_toInt_lt, Int32.le_iff_toInt_le, ← Int32.toInt_inj, mLi0, mLi1, mLi2, mLi3, mLi4, mLi5, mLi6, mLi7, mLi8, mLi9, mLi10, mLi16, mLi32, mLi48, mLi57, mLi59, mLi65, mLi90, mLi97, mLi99, mLi120, mLi122, mLi127, mLi1584, mLi999999, mLim] at a0 a1 <;> omega)).symm) (kc_0 (by have e1 := pm_ti hC.1.1 (by have := hO.1.1; omega); have e2 := pm_ti hC.1.2.1 (by have := hO.1.2.1; omega); have b0 : (v0).toInt = 0 := (by have z := of_decide_eq_true c0; rw [z]; rfl); have a0 := of_decide_eq_false c1; have a1 := of_decide_eq_true c2; simp only [Int32.lt_iff_toInt_lt, Int32.le_iff_toInt_le, ← Int32.toInt_inj, mLi0, mLi1, mLi2, mLi3, mLi4, mLi5, mLi6, mLi7, mLi8, mLi9, mLi10, mLi16, mLi32, mLi48, mLi57, mLi59, mLi65, mLi90, mLi97, mLi99, mLi120, mLi122, mLi127, mLi1584, mLi999999, mLim] at a0 a1 <;> omega) hy (fK 0 rfl))
          · refine mB 2 (s2 := (d + 7, 85, 84, [some (.ref 0), some (.int v0), some (.int v1)], [.ref 22], 0, 0, (mSH, K, L))) rfl ?_
            refine mCall (s2 := (d + 6, 15, 0, [some (.ref 22)], [], 0, 0, (mSH, K, L))) rfl ?_
            refine x_missed mK (an_v hO hy).1 hO.1.1 hO.1.2.1 ?_
            show mWP mTb_ mFT ro (d + 7, 85, 87, [some (.ref 0), some (.int v0), some (.int v1)], [.int (nI (ct_ys (fun k => (an_E T B kd g pe v0).2.tail.getD k 0) 0 T.1.2.1))], 0, 0, (mSH, K, L)) _
            refine mRt (r := (some (.int (nI (ct_ys (fun k => (an_E T B kd g pe v0).2.tail.getD k 0) 0 T.1.2.1))))) (h := (mSH, K, L)) rfl (mRet_int rfl) ?_
            exact hq _ _ (mFr.sub (by decide) fK) (hI.sx fK rK cK) ((an_mt2 hy (mTI (y := 2) (of_decide_eq_true c3) rfl)).trans (if_pos (c := an_mk v0 v1) (by have b0 : (v0).toInt = 0 := (by have z := of_decide_eq_true c0; rw [z]; rfl); have a0 := of_decide_eq_false c1; have a1 := of_decide_eq_true c2; simp only [Int32.lt_iff_toInt_lt, Int32.le_iff_toInt_le, ← Int32.toInt_inj, mLi0, mLi1, mLi2, mLi3, mLi4, mLi5, mLi6, mLi7, mLi8, mLi9, mLi10, mLi16, mLi32, mLi48, mLi57, mLi59, mLi65, mLi90, mLi97, mLi99, mLi120, mLi122, mLi127, mLi1584, mLi999999, mLim] at a0 a1 <;> omega)).symm) (kc_0 (by have e1 := pm_ti hC.1.1 (by have := hO.1.1; omega); have e2 := pm_ti hC.1.2.1 (by have := hO.1.2.1; omega); have b0 : (v0).toInt = 0 := (by have z := of_decide_eq_true c0; rw [z]; rfl); have a0 := of_decide_eq_false c1; have a1 := of_decide_eq_true c2; simp only [Int32.lt_iff_toInt_lt, Int32.le_iff_toInt_le, ← Int32.toInt_inj, mLi0, mLi1, mLi2, mLi3, mLi4, mLi5, mLi6, mLi7, mLi8, mLi9, mLi10, mLi16, mLi32, mLi48, mLi57, mLi59, mLi65, mLi90, mLi97, mLi99, mLi120, mLi122, mLi127, mLi1584, mLi999999, mLim] at a0 a1 <;> omega) hy (fK 0 rfl))
      · refine mB 2 (s2 := (d + 7, 85, 19, [some (.ref 0), some (.int v0), some (.int v1)], [.int (-2), .ref 0], 0, 0, (mSH, I, L))) rfl ?_
        refine mCall (s2 := (d + 6, 103, 0, [some (.ref 0), some (.int (-2))], [], 0, 0, (mSH, I, L))) rfl ?_
        refine mB 2 (s2 := (d + 6, 103, 3, [some (.ref 0), some (.int (-2))], [.int (-2), .int (-2)], 0, 0, (mSH, I, L))) rfl ?_
        refine mBT (s2 := (d + 6, 103, 6, [some (.ref 0), some (.int (-2))], [], 0, 0, (mSH, I, L))) rfl (by decide) ?_
        refine mB 8 (s2 := (d + 6, 103, 49, [some (.ref 0), some (.int (-2))], [.int (-2)], 0, 0, (mSH, (mUp I 0 9 ((I 0 9) + 1)), L))) rfl ?_
        refine mRt (r := (some (.int (-2)))) (h := (mSH, (mUp I 0 9 ((I 0 9) + 1)), L)) rfl (mRet_int rfl) ?_
        show mWP mTb_ mFT ro (d + 7, 85, 22, [some (.ref 0), some (.int v0), some (.int v1)], [.int (-2)], 0, 0, (mSH, (mUp I 0 9 ((I 0 9) + 1)), L)) _
        refine mRt (r := (some (.int (-2)))) (h := (mSH, (mUp I 0 9 ((I 0 9) + 1)), L)) rfl (mRet_int rfl) ?_
        exact hq _ _ (mFr.up (by rfl) mFr.rf) (mIC.u0 hI) (if_neg (c := an_mk v0 v1) (by have e1 := pm_ti hC.1.1 (by have := hO.1.1; omega); have e2 := pm_ti hC.1.2.1 (by have := hO.1.2.1; omega); have b0 : (v0).toInt = 0 := (by have z := of_decide_eq_true c0; rw [z]; rfl); have a0 := of_decide_eq_false c1; have a1 := of_decide_eq_false c2; simp only [Int32.lt_iff_toInt_lt, Int32.le_iff_toInt_le, ← Int32.toInt_inj, mLi0, mLi1, mLi2, mLi3, mLi4, mLi5, mLi6, mLi7, mLi8, mLi9, mLi10, mLi16, mLi32, mLi48, mLi57, mLi59, mLi65, mLi90, mLi97, mLi99, mLi120, mLi122, mLi127, mLi1584, mLi999999, mLim] at a0 a1 <;> omega)).symm (kc_1 (by have e1 := pm_ti hC.1.1 (by have := hO.1.1; omega); have e2 := pm_ti hC.1.2.1 (by have := hO.1.2.1; omega); have b0 : (v0).toInt = 0 := (by have z := of_decide_eq_true c0; rw [z]; rfl); have a0 := of_decide_eq_false c1; have a1 := of_decide_eq_false c2; simp only [Int32.lt_iff_toInt_lt, Int32.le_iff_toInt_le, ← Int32.toInt_inj, mLi0, mLi1, mLi2, mLi3, mLi4, mLi5, mLi6, mLi7, mLi8, mLi9, mLi10, mLi16, mLi32, mLi48, mLi57, mLi59, mLi65, mLi90, mLi97, mLi99, mLi120, mLi122, mLi127, mLi1584, mLi999999, mLim] at a0 a1 <;> omega) (by rfl))
  · refine mB 2 (s2 := (d + 6, 108, 6, [some (.int v0)], [.int 1, .int v0], 0, 0, (mSH, I, L))) rfl ?_
    refine mBr (s2 := (d + 6, 108, 9, [some (.int v0)], [], 0, 0, (mSH, I, L))) (s3 := (d + 6, 108, 13, [some (.int v0)], [], 0, 0, (mSH, I, L))) rfl (fun c1 => ?_) (fun c1 => ?_)
    · refine mB 2 (s2 := (d + 6, 108, 14, [some (.int v0)], [.int 1], 0, 0, (mSH, I, L))) rfl ?_
      refine mRt (r := (some (.int 1))) (h := (mSH, I, L)) rfl rfl ?_
      show mWP mTb_ mFT ro (d + 7, 85, 4, [some (.ref 0), some (.int v0), some (.int v1)], [.int 1], 0, 0, (mSH, I, L)) _
      refine mBF (s3 := (d + 7, 85, 7, [some (.ref 0), some (.int v0), some (.int v1)], [], 0, 0, (mSH, I, L))) rfl (by decide) ?_
      refine mB 1 (s2 := (d + 7, 85, 8, [some (.ref 0), some (.int v0), some (.int v1)], [.int v1], 0, 0, (mSH, I, L))) rfl ?_
      refine mBr (s2 := (d + 7, 85, 16, [some (.ref 0), some (.int v0), some (.int v1)], [], 0, 0, (mSH, I, L))) (s3 := (d + 7, 85, 11, [some (.ref 0), some (.int v0), some (.int v1)], [], 0, 0, (mSH, I, L))) rfl (fun c2 => ?_) (fun c2 => ?_)
      · refine mB 2 (s2 := (d + 7, 85, 19, [some (.ref 0), some (.int v0), some (.int v1)], [.int (-2), .ref 0], 0, 0, (mSH, I, L))) rfl ?_
        refine mCall (s2 := (d + 6, 103, 0, [some (.ref 0), some (.int (-2))], [], 0, 0, (mSH, I, L))) rfl ?_
        refine mB 2 (s2 := (d + 6, 103, 3, [some (.ref 0), some (.int (-2))], [.int (-2), .int (-2)], 0, 0, (mSH, I, L))) rfl ?_
        refine mBT (s2 := (d + 6, 103, 6, [some (.ref 0), some (.int (-2))], [], 0, 0, (mSH, I, L))) rfl (by decide) ?_
        refine mB 8 (s2 := (d + 6, 103, 49, [some (.ref 0), some (.int (-2))], [.int (-2)], 0, 0, (mSH, (mUp I 0 9 ((I 0 9) + 1)), L))) rfl ?_
        refine mRt (r := (some (.int (-2)))) (h := (mSH, (mUp I 0 9 ((I 0 9) + 1)), L)) rfl (mRet_int rfl) ?_
        show mWP mTb_ mFT ro (d + 7, 85, 22, [some (.ref 0), some (.int v0), some (.int v1)], [.int (-2)], 0, 0, (mSH, (mUp I 0 9 ((I 0 9) + 1)), L)) _
        refine mRt (r := (some (.int (-2)))) (h := (mSH, (mUp I 0 9 ((I 0 9) + 1)), L)) rfl (mRet_int rfl) ?_
        exact hq _ _ (mFr.up (by rfl) mFr.rf) (mIC.u0 hI) (if_neg (c := an_mk v0 v1) (by have e1 := pm_ti hC.1.1 (by have := hO.1.1; omega); have e2 := pm_ti hC.1.2.1 (by have := hO.1.2.1; omega); have b0 : (v0).toInt = 1 := (by have z := of_decide_eq_true c1; rw [z]; rfl); have a0 := of_decide_eq_false c0; have a1 := of_decide_eq_true c2; simp only [Int32.lt_iff_toInt_lt, Int32.le_iff_toInt_le, ← Int32.toInt_inj, mLi0, mLi1, mLi2, mLi3, mLi4, mLi5, mLi6, mLi7, mLi8, mLi9, mLi10, mLi16, mLi32, mLi48, mLi57, mLi59, mLi65, mLi90, mLi97, mLi99, mLi120, mLi122, mLi127, mLi1584, mLi999999, mLim] at a0 a1 <;> omega)).symm (kc_1 (by have e1 := pm_ti hC.1.1 (by have := hO.1.1; omega); have e2 := pm_ti hC.1.2.1 (by have := hO.1.2.1; omega); have b0 : (v0).toInt = 1 := (by have z := of_decide_eq_true c1; rw [z]; rfl); have a0 := of_decide_eq_false c0; have a1 := of_decide_eq_true c2; simp only [Int32.lt_iff_toInt_lt, Int32.le_iff_toInt_le, ← Int32.toInt_inj, mLi0, mLi1, mLi2, mLi3, mLi4, mLi5, mLi6, mLi7, mLi8, mLi9, mLi10, mLi16, mLi32, mLi48, mLi57, mLi59, mLi65, mLi90, mLi97, mLi99, mLi120, mLi122, mLi127, mLi1584, mLi999999, mLim] at a0 a1 <;> omega) (by rfl))
      · refine mB 2 (s2 := (d + 7, 85, 13, [some (.ref 0), some (.int v0), some (.int v1)], [.int 3, .int v1], 0, 0, (mSH, I, L))) rfl ?_
        refine mBr (s2 := (d + 7, 85, 23, [some (.ref 0), some (.int v0), some (.int v1)], [], 0, 0, (mSH, I, L))) (s3 := (d + 7, 85, 16, [some (.ref 0), some (.int v0), some (.int v1)], [], 0, 0, (mSH, I, L))) rfl (fun c3 => ?_) (fun c3 => ?_)
        · refine mB 2 (s2 := (d + 7, 85, 25, [some (.ref 0), some (.int v0), some (.int v1)], [.int v0, .ref 0], 0, 0, (mSH, I, L))) rfl ?_
          refine mCall (s2 := (d + 6, 106, 0, [some (.ref 0), some (.int v0)], [], 0, 0, (mSH, I, L))) rfl ?_
          refine x_finds hI hO hC (Or.inr (of_decide_eq_true c1)) ?_ ?_
          · intro hn K fK rK cK
            show mWP mTb_ mFT ro (d + 7, 85, 28, [some (.ref 0), some (.int v0), some (.int v1)], [.int 0], 0, 0, (mSH, K, L)) _
            refine mBT (s2 := (d + 7, 85, 31, [some (.ref 0), some (.int v0), some (.int v1)], [], 0, 0, (mSH, K, L))) rfl (by decide) ?_
            refine mB 2 (s2 := (d + 7, 85, 34, [some (.ref 0), some (.int v0), some (.int v1)], [.int (-3), .ref 0], 0, 0, (mSH, K, L))) rfl ?_
            refine mCall (s2 := (d + 6, 103, 0, [some (.ref 0), some (.int (-3))], [], 0, 0, (mSH, K, L))) rfl ?_
            refine mB 2 (s2 := (d + 6, 103, 3, [some (.ref 0), some (.int (-3))], [.int (-2), .int (-3)], 0, 0, (mSH, K, L))) rfl ?_
            refine mBF (s3 := (d + 6, 103, 19, [some (.ref 0), some (.int (-3))], [], 0, 0, (mSH, K, L))) rfl (by decide) ?_
            refine mB 2 (s2 := (d + 6, 103, 22, [some (.ref 0), some (.int (-3))], [.int (-3), .int (-3)], 0, 0, (mSH, K, L))) rfl ?_
            refine mBT (s2 := (d + 6, 103, 25, [some (.ref 0), some (.int (-3))], [], 0, 0, (mSH, K, L))) rfl (by decide) ?_
            refine mB 8 (s2 := (d + 6, 103, 49, [some (.ref 0), some (.int (-3))], [.int (-3)], 0, 0, (mSH, (mUp K 0 10 ((K 0 10) + 1)), L))) rfl ?_
            refine mRt (r := (some (.int (-3)))) (h := (mSH, (mUp K 0 10 ((K 0 10) + 1)), L)) rfl (mRet_int rfl) ?_
            show mWP mTb_ mFT ro (d + 7, 85, 37, [some (.ref 0), some (.int v0), some (.int v1)], [.int (-3)], 0, 0, (mSH, (mUp K 0 10 ((K 0 10) + 1)), L)) _
            refine mRt (r := (some (.int (-3)))) (h := (mSH, (mUp K 0 10 ((K 0 10) + 1)), L)) rfl (mRet_int rfl) ?_
            exact hq _ _ (mFr.up (by rfl) (mFr.sub (by decide) fK)) (mIC.u0 (hI.sx fK rK cK)) ((an_mtn hn).trans (if_pos (c := an_mk v0 v1) (by have b0 : (v0).toInt = 1 := (by have z := of_decide_eq_true c1; rw [z]; rfl); have a0 := of_decide_eq_false c0; have a1 := of_decide_eq_false c2; have a2 := of_decide_eq_true c3; simp only [Int32.lt_iff_toInt_lt, Int32.le_iff_toInt_le, ← Int32.toInt_inj, mLi0, mLi1, mLi2, mLi3, mLi4, mLi5, mLi6, mLi7, mLi8, mLi9, mLi10, mLi16, mLi32, mLi48, mLi57, mLi59, mLi65, mLi90, mLi97, mLi99, mLi120, mLi122, mLi127, mLi1584, mLi999999, mLim] at a0 a1 a2 <;> omega)).symm) (kc_2 (by have e1 := pm_ti hC.1.1 (by have := hO.1.1; omega); have e2 := pm_ti hC.1.2.1 (by have := hO.1.2.1; omega); have b0 : (v0).toInt = 1 := (by have z := of_decide_eq_true c1; rw [z]; rfl); have a0 := of_decide_eq_false c0; have a1 := of_decide_eq_false c2; have a2 := of_decide_eq_true c3; simp only [Int32.lt_iff_toInt_lt, Int32.le_iff_toInt_le, ← Int32.toInt_inj, mLi0, mLi1, mLi2, mLi3, mLi4, mLi5, mLi6, mLi7, mLi8, mLi9, mLi10, mLi16, mLi32, mLi48, mLi57, mLi59, mLi65, mLi90, mLi97, mLi99, mLi120, mLi122, mLi127, mLi1584, mLi999999, mLim] at a0 a1 a2 <;> omega) hn (fK 0 rfl))
          · intro hy K fK rK cK mK
            show mWP mTb_ mFT ro (d + 7, 85, 28, [some (.ref 0), some (.int v0), some (.int v1)], [.int 1], 0, 0, (mSH, K, L)) _
            refine mBF (s3 := (d + 7, 85, 38, [some (.ref 0), some (.int v0), some (.int v1)], [], 0, 0, (mSH, K, L))) rfl (by decide) ?_
            refine mB 1 (s2 := (d + 7, 85, 39, [some (.ref 0), some (.int v0), some (.int v1)], [.int v1], 0, 0, (mSH, K, L))) rfl ?_
            refine mSwA (l := [(decide (v1.toInt < 0 ∨ 2 < v1.toInt), (d + 7, 85, 88, [some (.ref 0), some (.int v0), some (.int v1)], [], 0, 0, (mSH, K, L))), (decide (v1.toInt = 0), (d + 7, 85, 64, [some (.ref 0), some (.int v0), some (.int v1)], [], 0, 0, (mSH, K, L))), (decide (v1.toInt = 1), (d + 7, 85, 72, [some (.ref 0), some (.int v0), some (.int v1)], [], 0, 0, (mSH, K, L))), (decide (v1.toInt = 2), (d + 7, 85, 80, [some (.ref 0), some (.int v0), some (.int v1)], [], 0, 0, (mSH, K, L)))]) rfl ⟨fun c4 => ?_, fun c4 => ?_, fun c4 => ?_, fun c4 => ?_, trivial⟩
            · refine mB 2 (s2 := (d + 7, 85, 92, [some (.ref 0), some (.int v0), some (.int v1)], [.ref 22], 0, 0, (mSH, K, L))) rfl ?_
              refine mCall (s2 := (d + 6, 16, 0, [some (.ref 22)], [], 0, 0, (mSH, K, L))) rfl ?_
              refine x_behind mK (an_v hO hy).1 hO.1.1 hO.1.2.1 ?_
              show mWP mTb_ mFT ro (d + 7, 85, 95, [some (.ref 0), some (.int v0), some (.int v1)], [.int (nI ((an_E T B kd g pe v0).2.headD 0 + ct_ys (bt_bl (an_E T B kd g pe v0).2.tail) 0 T.1.2.1))], 0, 0, (mSH, K, L)) _
              refine mRt (r := (some (.int (nI ((an_E T B kd g pe v0).2.headD 0 + ct_ys (bt_bl (an_E T B kd g pe v0).2.tail) 0 T.1.2.1))))) (h := (mSH, K, L)) rfl (mRet_int rfl) ?_
              exact hq _ _ (mFr.sub (by decide) fK) (hI.sx fK rK cK) ((an_mt3 hy (of_decide_eq_true c4)).trans (if_pos (c := an_mk v0 v1) (by have b0 : (v0).toInt = 1 := (by have z := of_decide_eq_true c1; rw [z]; rfl); have a0 := of_decide_eq_false c0; have a1 := of_decide_eq_false c2; have a2 := of_decide_eq_true c3; simp only [Int32.lt_iff_toInt_lt, Int32.le_iff_toInt_le, ← Int32.toInt_inj, mLi0, mLi1, mLi2, mLi3, mLi4, mLi5, mLi6, mLi7, mLi8, mLi9, mLi10, mLi16, mLi32, mLi48, mLi57, mLi59, mLi65, mLi90, mLi97, mLi99, mLi120, mLi122, mLi127, mLi1584, mLi999999, mLim] at a0 a1 a2 <;> omega)).symm) (kc_0 (by have e1 := pm_ti hC.1.1 (by have := hO.1.1; omega); have e2 := pm_ti hC.1.2.1 (by have := hO.1.2.1; omega); have b0 : (v0).toInt = 1 := (by have z := of_decide_eq_true c1; rw [z]; rfl); have a0 := of_decide_eq_false c0; have a1 := of_decide_eq_false c2; have a2 := of_decide_eq_true c3; simp only [Int32.lt_iff_toInt_lt, Int32.le_iff_toInt_le, ← Int32.toInt_inj, mLi0, mLi1, mLi2, mLi3, mLi4, mLi5, mLi6, mLi7, mLi8, mLi9, mLi10, mLi16, mLi32, mLi48, mLi57, mLi59, mLi65, mLi90, mLi97, mLi99, mLi120, mLi122, mLi127, mLi1584, mLi999999, mLim] at a0 a1 a2 <;> omega) hy (fK 0 rfl))
            · refine mB 3 (s2 := (d + 7, 85, 71, [some (.ref 0), some (.int v0), some (.int v1)], [.int (K 22 3)], 0, 0, (mSH, K, L))) rfl ?_
              refine mRt (r := (some (.int (K 22 3)))) (h := (mSH, K, L)) rfl (mRet_int rfl) ?_
              exact hq _ _ (mFr.sub (by decide) fK) (hI.sx fK rK cK) ((mK.1.trans (an_mt0 hy (mTI (y := 0) (of_decide_eq_true c4) rfl))).trans (if_pos (c := an_mk v0 v1) (by have b0 : (v0).toInt = 1 := (by have z := of_decide_eq_true c1; rw [z]; rfl); have a0 := of_decide_eq_false c0; have a1 := of_decide_eq_false c2; have a2 := of_decide_eq_true c3; simp only [Int32.lt_iff_toInt_lt, Int32.le_iff_toInt_le, ← Int32.toInt_inj, mLi0, mLi1, mLi2, mLi3, mLi4, mLi5, mLi6, mLi7, mLi8, mLi9, mLi10, mLi16, mLi32, mLi48, mLi57, mLi59, mLi65, mLi90, mLi97, mLi99, mLi120, mLi122, mLi127, mLi1584, mLi999999, mLim] at a0 a1 a2 <;> omega)).symm) (kc_0 (by have e1 := pm_ti hC.1.1 (by have := hO.1.1; omega); have e2 := pm_ti hC.1.2.1 (by have := hO.1.2.1; omega); have b0 : (v0).toInt = 1 := (by have z := of_decide_eq_true c1; rw [z]; rfl); have a0 := of_decide_eq_false c0; have a1 := of_decide_eq_false c2; have a2 := of_decide_eq_true c3; simp only [Int32.lt_iff_toInt_lt, Int32.le_iff_toInt_le, ← Int32.toInt_inj, mLi0, mLi1, mLi2, mLi3, mLi4, mLi5, mLi6, mLi7, mLi8, mLi9, mLi10, mLi16, mLi32, mLi48, mLi57, mLi59, mLi65, mLi90, mLi97, mLi99, mLi120, mLi122, mLi127, mLi1584, mLi999999, mLim] at a0 a1 a2 <;> omega) hy (fK 0 rfl))
            · refine mB 3 (s2 := (d + 7, 85, 79, [some (.ref 0), some (.int v0), some (.int v1)], [.int (K 22 2)], 0, 0, (mSH, K, L))) rfl ?_
              refine mRt (r := (some (.int (K 22 2)))) (h := (mSH, K, L)) rfl (mRet_int rfl) ?_
              exact hq _ _ (mFr.sub (by decide) fK) (hI.sx fK rK cK) ((mK.hd.trans (an_mt1 hy (mTI (y := 1) (of_decide_eq_true c4) rfl))).trans (if_pos (c := an_mk v0 v1) (by have b0 : (v0).toInt = 1 := (by have z := of_decide_eq_true c1; rw [z]; rfl); have a0 := of_decide_eq_false c0; have a1 := of_decide_eq_false c2; have a2 := of_decide_eq_true c3; simp only [Int32.lt_iff_toInt_lt, Int32.le_iff_toInt_le, ← Int32.toInt_inj, mLi0, mLi1, mLi2, mLi3, mLi4, mLi5, mLi6, mLi7, mLi8, mLi9, mLi10, mLi16, mLi32, mLi48, mLi57, mLi59, mLi65, mLi90, mLi97, mLi99, mLi120, mLi122, mLi127, mLi1584, mLi999999, mLim] at a0 a1 a2 <;> omega)).symm) (kc_0 (by have e1 := pm_ti hC.1.1 (by have := hO.1.1; omega); have e2 := pm_ti hC.1.2.1 (by have := hO.1.2.1; omega); have b0 : (v0).toInt = 1 := (by have z := of_decide_eq_true c1; rw [z]; rfl); have a0 := of_decide_eq_false c0; have a1 := of_decide_eq_false c2; have a2 := of_decide_eq_true c3; simp only [Int32.lt_iff_toInt_lt, Int32.le_iff_toInt_le, ← Int32.toInt_inj, mLi0, mLi1, mLi2, mLi3, mLi4, mLi5, mLi6, mLi7, mLi8, mLi9, mLi10, mLi16, mLi32, mLi48, mLi57, mLi59, mLi65, mLi90, mLi97, mLi99, mLi120, mLi122, mLi127, mLi1584, mLi999999, mLim] at a0 a1 a2 <;> omega) hy (fK 0 rfl))
            · refine mB 2 (s2 := (d + 7, 85, 84, [some (.ref 0), some (.int v0), some (.int v1)], [.ref 22], 0, 0, (mSH, K, L))) rfl ?_
              refine mCall (s2 := (d + 6, 15, 0, [some (.ref 22)], [], 0, 0, (mSH, K, L))) rfl ?_
              refine x_missed mK (an_v hO hy).1 hO.1.1 hO.1.2.1 ?_
              show mWP mTb_ mFT ro (d + 7, 85, 87, [some (.ref 0), some (.int v0), some (.int v1)], [.int (nI (ct_ys (fun k => (an_E T B kd g pe v0).2.tail.getD k 0) 0 T.1.2.1))], 0, 0, (mSH, K, L)) _
              refine mRt (r := (some (.int (nI (ct_ys (fun k => (an_E T B kd g pe v0).2.tail.getD k 0) 0 T.1.2.1))))) (h := (mSH, K, L)) rfl (mRet_int rfl) ?_
              exact hq _ _ (mFr.sub (by decide) fK) (hI.sx fK rK cK) ((an_mt2 hy (mTI (y := 2) (of_decide_eq_true c4) rfl)).trans (if_pos (c := an_mk v0 v1) (by have b0 : (v0).toInt = 1 := (by have z := of_decide_eq_true c1; rw [z]; rfl); have a0 := of_decide_eq_false c0; have a1 := of_decide_eq_false c2; have a2 := of_decide_eq_true c3; simp only [Int32.lt_iff_toInt_lt, Int32.le_iff_toInt_le, ← Int32.toInt_inj, mLi0, mLi1, mLi2, mLi3, mLi4, mLi5, mLi6, mLi7, mLi8, mLi9, mLi10, mLi16, mLi32, mLi48, mLi57, mLi59, mLi65, mLi90, mLi97, mLi99, mLi120, mLi122, mLi127, mLi1584, mLi999999, mLim] at a0 a1 a2 <;> omega)).symm) (kc_0 (by have e1 := pm_ti hC.1.1 (by have := hO.1.1; omega); have e2 := pm_ti hC.1.2.1 (by have := hO.1.2.1; omega); have b0 : (v0).toInt = 1 := (by have z := of_decide_eq_true c1; rw [z]; rfl); have a0 := of_decide_eq_false c0; have a1 := of_decide_eq_false c2; have a2 := of_decide_eq_true c3; simp only [Int32.lt_iff_toInt_lt, Int32.le_iff_toInt_le, ← Int32.toInt_inj, mLi0, mLi1, mLi2, mLi3, mLi4, mLi5, mLi6, mLi7, mLi8, mLi9, mLi10, mLi16, mLi32, mLi48, mLi57, mLi59, mLi65, mLi90, mLi97, mLi99, mLi120, mLi122, mLi127, mLi1584, mLi999999, mLim] at a0 a1 a2 <;> omega) hy (fK 0 rfl))
        · refine mB 2 (s2 := (d + 7, 85, 19, [some (.ref 0), some (.int v0), some (.int v1)], [.int (-2), .ref 0], 0, 0, (mSH, I, L))) rfl ?_
          refine mCall (s2 := (d + 6, 103, 0, [some (.ref 0), some (.int (-2))], [], 0, 0, (mSH, I, L))) rfl ?_
          refine mB 2 (s2 := (d + 6, 103, 3, [some (.ref 0), some (.int (-2))], [.int (-2), .int (-2)], 0, 0, (mSH, I, L))) rfl ?_
          refine mBT (s2 := (d + 6, 103, 6, [some (.ref 0), some (.int (-2))], [], 0, 0, (mSH, I, L))) rfl (by decide) ?_
          refine mB 8 (s2 := (d + 6, 103, 49, [some (.ref 0), some (.int (-2))], [.int (-2)], 0, 0, (mSH, (mUp I 0 9 ((I 0 9) + 1)), L))) rfl ?_
          refine mRt (r := (some (.int (-2)))) (h := (mSH, (mUp I 0 9 ((I 0 9) + 1)), L)) rfl (mRet_int rfl) ?_
          show mWP mTb_ mFT ro (d + 7, 85, 22, [some (.ref 0), some (.int v0), some (.int v1)], [.int (-2)], 0, 0, (mSH, (mUp I 0 9 ((I 0 9) + 1)), L)) _
          refine mRt (r := (some (.int (-2)))) (h := (mSH, (mUp I 0 9 ((I 0 9) + 1)), L)) rfl (mRet_int rfl) ?_
          exact hq _ _ (mFr.up (by rfl) mFr.rf) (mIC.u0 hI) (if_neg (c := an_mk v0 v1) (by have e1 := pm_ti hC.1.1 (by have := hO.1.1; omega); have e2 := pm_ti hC.1.2.1 (by have := hO.1.2.1; omega); have b0 : (v0).toInt = 1 := (by have z := of_decide_eq_true c1; rw [z]; rfl); have a0 := of_decide_eq_false c0; have a1 := of_decide_eq_false c2; have a2 := of_decide_eq_false c3; simp only [Int32.lt_iff_toInt_lt, Int32.le_iff_toInt_le, ← Int32.toInt_inj, mLi0, mLi1, mLi2, mLi3, mLi4, mLi5, mLi6, mLi7, mLi8, mLi9, mLi10, mLi16, mLi32, mLi48, mLi57, mLi59, mLi65, mLi90, mLi97, mLi99, mLi120, mLi122, mLi127, mLi1584, mLi999999, mLim] at a0 a1 a2 <;> omega)).symm (kc_1 (by have e1 := pm_ti hC.1.1 (by have := hO.1.1; omega); have e2 := pm_ti hC.1.2.1 (by have := hO.1.2.1; omega); have b0 : (v0).toInt = 1 := (by have z := of_decide_eq_true c1; rw [z]; rfl); have a0 := of_decide_eq_false c0; have a1 := of_decide_eq_false c2; have a2 := of_decide_eq_false c3; simp only [Int32.lt_iff_toInt_lt, Int32.le_iff_toInt_le, ← Int32.toInt_inj, mLi0, mLi1, mLi2, mLi3, mLi4, mLi5, mLi6, mLi7, mLi8, mLi9, mLi10, mLi16, mLi32, mLi48, mLi57, mLi59, mLi65, mLi90, mLi97, mLi99, mLi120, mLi122, mLi127, mLi1584, mLi999999, mLim] at a0 a1 a2 <;> omega) (by rfl))
    · refine mB 1 (s2 := (d + 6, 108, 14, [some (.int v0)], [.int 0], 0, 0, (mSH, I, L))) rfl ?_
      refine mRt (r := (some (.int 0))) (h := (mSH, I, L)) rfl rfl ?_
      show mWP mTb_ mFT ro (d + 7, 85, 4, [some (.ref 0), some (.int v0), some (.int v1)], [.int 0], 0, 0, (mSH, I, L)) _
      refine mBT (s2 := (d + 7, 85, 16, [some (.ref 0), some (.int v0), some (.int v1)], [], 0, 0, (mSH, I, L))) rfl (by decide) ?_
      refine mB 2 (s2 := (d + 7, 85, 19, [some (.ref 0), some (.int v0), some (.int v1)], [.int (-2), .ref 0], 0, 0, (mSH, I, L))) rfl ?_
      refine mCall (s2 := (d + 6, 103, 0, [some (.ref 0), some (.int (-2))], [], 0, 0, (mSH, I, L))) rfl ?_
      refine mB 2 (s2 := (d + 6, 103, 3, [some (.ref 0), some (.int (-2))], [.int (-2), .int (-2)], 0, 0, (mSH, I, L))) rfl ?_
      refine mBT (s2 := (d + 6, 103, 6, [some (.ref 0), some (.int (-2))], [], 0, 0, (mSH, I, L))) rfl (by decide) ?_
      refine mB 8 (s2 := (d + 6, 103, 49, [some (.ref 0), some (.int (-2))], [.int (-2)], 0, 0, (mSH, (mUp I 0 9 ((I 0 9) + 1)), L))) rfl ?_
      refine mRt (r := (some (.int (-2)))) (h := (mSH, (mUp I 0 9 ((I 0 9) + 1)), L)) rfl (mRet_int rfl) ?_
      show mWP mTb_ mFT ro (d + 7, 85, 22, [some (.ref 0), some (.int v0), some (.int v1)], [.int (-2)], 0, 0, (mSH, (mUp I 0 9 ((I 0 9) + 1)), L)) _
      refine mRt (r := (some (.int (-2)))) (h := (mSH, (mUp I 0 9 ((I 0 9) + 1)), L)) rfl (mRet_int rfl) ?_
      exact hq _ _ (mFr.up (by rfl) mFr.rf) (mIC.u0 hI) (if_neg (c := an_mk v0 v1) (by have e1 := pm_ti hC.1.1 (by have := hO.1.1; omega); have e2 := pm_ti hC.1.2.1 (by have := hO.1.2.1; omega); have a0 := of_decide_eq_false c0; have a1 := of_decide_eq_false c1; simp only [Int32.lt_iff_toInt_lt, Int32.le_iff_toInt_le, ← Int32.toInt_inj, mLi0, mLi1, mLi2, mLi3, mLi4, mLi5, mLi6, mLi7, mLi8, mLi9, mLi10, mLi16, mLi32, mLi48, mLi57, mLi59, mLi65, mLi90, mLi97, mLi99, mLi120, mLi122, mLi127, mLi1584, mLi999999, mLim] at a0 a1 <;> omega)).symm (kc_1 (by have e1 := pm_ti hC.1.1 (by have := hO.1.1; omega); have e2 := pm_ti hC.1.2.1 (by have := hO.1.2.1; omega); have a0 := of_decide_eq_false c0; have a1 := of_decide_eq_false c1; simp only [Int32.lt_iff_toInt_lt, Int32.le_iff_toInt_le, ← Int32.toInt_inj, mLi0, mLi1, mLi2, mLi3, mLi4, mLi5, mLi6, mLi7, mLi8, mLi9, mLi10, mLi16, mLi32, mLi48, mLi57, mLi59, mLi65, mLi90, mLi97, mLi99, mLi120, mLi122, mLi127, mLi1584, mLi999999, mLim] at a0 a1 <;> omega) (by rfl))
theorem z_block {ro : Nat → Nat × (Nat → Int32)} {Q : mPo} {d : Nat} {I : Nat → Nat → Int32} {L : Nat → Nat → Int64} {T : ct_S} {B : ct_B} {kd g pe : Nat} {v0 v1 : Int32} (hI : mIC I) (hO : pm_O T B kd g pe) (hC : pm_C T B kd g pe I) (hq : ∀ r I1, mFr mSQ2 I I1 → mIC I1 → r = an_block T B kd g pe v0 v1 → kC (cdN (an_bk T v0 v1) ((an_E T B kd g pe v0).1 < bt_U)) I I1 → Q (some (.int r)) (mSH, I1, L))   : mWP mTb_ mFT ro (d + 7, 86, 0, [some (.ref 0), some (.int v0), some (.int v1)], [], 0, 0, (mSH, I, L)) Q := by
  refine mB 1 (s2 := (d + 7, 86, 1, [some (.ref 0), some (.int v0), some (.int v1)], [.int v0], 0, 0, (mSH, I, L))) rfl ?_
  refine mCall (s2 := (d + 6, 108, 0, [some (.int v0)], [], 0, 0, (mSH, I, L))) rfl ?_
  refine mB 1 (s2 := (d + 6, 108, 1, [some (.int v0)], [.int v0], 0, 0, (mSH, I, L))) rfl ?_
  refine mBr (s2 := (d + 6, 108, 9, [some (.int v0)], [], 0, 0, (mSH, I, L))) (s3 := (d + 6, 108, 4, [some (.int v0)], [], 0, 0, (mSH, I, L))) rfl (fun c0 => ?_) (fun c0 => ?_)
  · refine mB 2 (s2 := (d + 6, 108, 14, [some (.int v0)], [.int 1], 0, 0, (mSH, I, L))) rfl ?_
    refine mRt (r := (some (.int 1))) (h := (mSH, I, L)) rfl rfl ?_
    show mWP mTb_ mFT ro (d + 7, 86, 4, [some (.ref 0), some (.int v0), some (.int v1)], [.int 1], 0, 0, (mSH, I, L)) _
    refine mBF (s3 := (d + 7, 86, 7, [some (.ref 0), some (.int v0), some (.int v1)], [], 0, 0, (mSH, I, L))) rfl (by decide) ?_
    refine mB 4 (s2 := (d + 7, 86, 15, [some (.ref 0), some (.int v0), some (.int v1)], [.int v1, .ref 4], 0, 0, (mSH, I, L))) rfl ?_
    refine mCall (s2 := (d + 6, 41, 0, [some (.ref 4), some (.int v1)], [], 0, 0, (mSH, I, L))) rfl ?_
    refine mB 1 (s2 := (d + 6, 41, 1, [some (.ref 4), some (.int v1)], [.int v1], 0, 0, (mSH, I, L))) rfl ?_
    refine mBr (s2 := (d + 6, 41, 16, [some (.ref 4), some (.int v1)], [], 0, 0, (mSH, I, L))) (s3 := (d + 6, 41, 4, [some (.ref 4), some (.int v1)], [], 0, 0, (mSH, I, L))) rfl (fun c1 => ?_) (fun c1 => ?_)
    · refine mB 1 (s2 := (d + 6, 41, 17, [some (.ref 4), some (.int v1)], [.int 0], 0, 0, (mSH, I, L))) rfl ?_
      refine mRt (r := (some (.int 0))) (h := (mSH, I, L)) rfl rfl ?_
      show mWP mTb_ mFT ro (d + 7, 86, 18, [some (.ref 0), some (.int v0), some (.int v1)], [.int 0], 0, 0, (mSH, I, L)) _
      refine mBT (s2 := (d + 7, 86, 21, [some (.ref 0), some (.int v0), some (.int v1)], [], 0, 0, (mSH, I, L))) rfl (by decide) ?_
      refine mB 2 (s2 := (d + 7, 86, 24, [some (.ref 0), some (.int v0), some (.int v1)], [.int (-2), .ref 0], 0, 0, (mSH, I, L))) rfl ?_
      refine mCall (s2 := (d + 6, 103, 0, [some (.ref 0), some (.int (-2))], [], 0, 0, (mSH, I, L))) rfl ?_
      refine mB 2 (s2 := (d + 6, 103, 3, [some (.ref 0), some (.int (-2))], [.int (-2), .int (-2)], 0, 0, (mSH, I, L))) rfl ?_
      refine mBT (s2 := (d + 6, 103, 6, [some (.ref 0), some (.int (-2))], [], 0, 0, (mSH, I, L))) rfl (by decide) ?_
      refine mB 8 (s2 := (d + 6, 103, 49, [some (.ref 0), some (.int (-2))], [.int (-2)], 0, 0, (mSH, (mUp I 0 9 ((I 0 9) + 1)), L))) rfl ?_
      refine mRt (r := (some (.int (-2)))) (h := (mSH, (mUp I 0 9 ((I 0 9) + 1)), L)) rfl (mRet_int rfl) ?_
      show mWP mTb_ mFT ro (d + 7, 86, 27, [some (.ref 0), some (.int v0), some (.int v1)], [.int (-2)], 0, 0, (mSH, (mUp I 0 9 ((I 0 9) + 1)), L)) _
      refine mRt (r := (some (.int (-2)))) (h := (mSH, (mUp I 0 9 ((I 0 9) + 1)), L)) rfl (mRet_int rfl) ?_
      exact hq _ _ (mFr.up (by rfl) mFr.rf) (mIC.u0 hI) (if_neg (c := an_bk T v0 v1) (by have e1 := pm_ti hC.1.1 (by have := hO.1.1; omega); have e2 := pm_ti hC.1.2.1 (by have := hO.1.2.1; omega); have b0 : (v0).toInt = 0 := (by have z := of_decide_eq_true c0; rw [z]; rfl); have a0 := of_decide_eq_true c1; simp only [Int32.lt_iff_toInt_lt, Int32.le_iff_toInt_le, ← Int32.toInt_inj, mLi0, mLi1, mLi2, mLi3, mLi4, mLi5, mLi6, mLi7, mLi8, mLi9, mLi10, mLi16, mLi32, mLi48, mLi57, mLi59, mLi65, mLi90, mLi97, mLi99, mLi120, mLi122, mLi127, mLi1584, mLi999999, mLim] at a0 <;> omega)).symm (kc_1 (by have e1 := pm_ti hC.1.1 (by have := hO.1.1; omega); have e2 := pm_ti hC.1.2.1 (by have := hO.1.2.1; omega); have b0 : (v0).toInt = 0 := (by have z := of_decide_eq_true c0; rw [z]; rfl); have a0 := of_decide_eq_true c1; simp only [Int32.lt_iff_toInt_lt, Int32.le_iff_toInt_le, ← Int32.toInt_inj, mLi0, mLi1, mLi2, mLi3, mLi4, mLi5, mLi6, mLi7, mLi8, mLi9, mLi10, mLi16, mLi32, mLi48, mLi57, mLi59, mLi65, mLi90, mLi97, mLi99, mLi120, mLi122, mLi127, mLi1584, mLi999999, mLim] at a0 <;> omega) (by rfl))
    · refine mB 3 (s2 := (d + 6, 41, 9, [some (.ref 4), some (.int v1)], [.int (I 4 1), .int v1], 0, 0, (mSH, I, L))) rfl ?_
      refine mBr (s2 := (d + 6, 41, 16, [some (.ref 4), some (.int v1)], [], 0, 0, (mSH, I, L))) (s3 := (d + 6, 41, 12, [some (.ref 4), some (.int v1)], [], 0, 0, (mSH, I, L))) rfl (fun c2 => ?_) (fun c2 => ?_)
      · refine mB 1 (s2 := (d + 6, 41, 17, [some (.ref 4), some (.int v1)], [.int 0], 0, 0, (mSH, I, L))) rfl ?_
        refine mRt (r := (some (.int 0))) (h := (mSH, I, L)) rfl rfl ?_
        show mWP mTb_ mFT ro (d + 7, 86, 18, [some (.ref 0), some (.int v0), some (.int v1)], [.int 0], 0, 0, (mSH, I, L)) _
        refine mBT (s2 := (d + 7, 86, 21, [some (.ref 0), some (.int v0), some (.int v1)], [], 0, 0, (mSH, I, L))) rfl (by decide) ?_
        refine mB 2 (s2 := (d + 7, 86, 24, [some (.ref 0), some (.int v0), some (.int v1)], [.int (-2), .ref 0], 0, 0, (mSH, I, L))) rfl ?_
        refine mCall (s2 := (d + 6, 103, 0, [some (.ref 0), some (.int (-2))], [], 0, 0, (mSH, I, L))) rfl ?_
        refine mB 2 (s2 := (d + 6, 103, 3, [some (.ref 0), some (.int (-2))], [.int (-2), .int (-2)], 0, 0, (mSH, I, L))) rfl ?_
        refine mBT (s2 := (d + 6, 103, 6, [some (.ref 0), some (.int (-2))], [], 0, 0, (mSH, I, L))) rfl (by decide) ?_
        refine mB 8 (s2 := (d + 6, 103, 49, [some (.ref 0), some (.int (-2))], [.int (-2)], 0, 0, (mSH, (mUp I 0 9 ((I 0 9) + 1)), L))) rfl ?_
        refine mRt (r := (some (.int (-2)))) (h := (mSH, (mUp I 0 9 ((I 0 9) + 1)), L)) rfl (mRet_int rfl) ?_
        show mWP mTb_ mFT ro (d + 7, 86, 27, [some (.ref 0), some (.int v0), some (.int v1)], [.int (-2)], 0, 0, (mSH, (mUp I 0 9 ((I 0 9) + 1)), L)) _
        refine mRt (r := (some (.int (-2)))) (h := (mSH, (mUp I 0 9 ((I 0 9) + 1)), L)) rfl (mRet_int rfl) ?_
        exact hq _ _ (mFr.up (by rfl) mFr.rf) (mIC.u0 hI) (if_neg (c := an_bk T v0 v1) (by have e1 := pm_ti hC.1.1 (by have := hO.1.1; omega); have e2 := pm_ti hC.1.2.1 (by have := hO.1.2.1; omega); have b0 : (v0).toInt = 0 := (by have z := of_decide_eq_true c0; rw [z]; rfl); have a0 := of_decide_eq_false c1; have a1 := of_decide_eq_true c2; simp only [Int32.lt_iff_toInt_lt, Int32.le_iff_toInt_le, ← Int32.toInt_inj, mLi0, mLi1, mLi2, mLi3, mLi4, mLi5, mLi6, mLi7, mLi8, mLi9, mLi10, mLi16, mLi32, mLi48, mLi57, mLi59, mLi65, mLi90, mLi97, mLi99, mLi120, mLi122, mLi127, mLi1584, mLi999999, mLim] at a0 a1 <;> omega)).symm (kc_1 (by have e1 := pm_ti hC.1.1 (by have := hO.1.1; omega); have e2 := pm_ti hC.1.2.1 (by have := hO.1.2.1; omega); have b0 : (v0).toInt = 0 := (by have z := of_decide_eq_true c0; rw [z]; rfl); have a0 := of_decide_eq_false c1; have a1 := of_decide_eq_true c2; simp only [Int32.lt_iff_toInt_lt, Int32.le_iff_toInt_le, ← Int32.toInt_inj, mLi0, mLi1, mLi2, mLi3, mLi4, mLi5, mLi6, mLi7, mLi8, mLi9, mLi10, mLi16, mLi32, mLi48, mLi57, mLi59, mLi65, mLi90, mLi97, mLi99, mLi120, mLi122, mLi127, mLi1584, mLi999999, mLim] at a0 a1 <;> omega) (by rfl))
      · refine mB 2 (s2 := (d + 6, 41, 17, [some (.ref 4), some (.int v1)], [.int 1], 0, 0, (mSH, I, L))) rfl ?_
        refine mRt (r := (some (.int 1))) (h := (mSH, I, L)) rfl rfl ?_
        show mWP mTb_ mFT ro (d + 7, 86, 18, [some (.ref 0), some (.int v0), some (.int v1)], [.int 1], 0, 0, (mSH, I, L)) _
        refine mBF (s3 := (d + 7, 86, 28, [some (.ref 0), some (.int v0), some (.int v1)], [], 0, 0, (mSH, I, L))) rfl (by decide) ?_
        refine mB 2 (s2 := (d + 7, 86, 30, [some (.ref 0), some (.int v0), some (.int v1)], [.int v0, .ref 0], 0, 0, (mSH, I, L))) rfl ?_
        refine mCall (s2 := (d + 6, 106, 0, [some (.ref 0), some (.int v0)], [], 0, 0, (mSH, I, L))) rfl ?_
        refine x_finds hI hO hC (Or.inl (of_decide_eq_true c0)) ?_ ?_
        · intro hn K fK rK cK
          show mWP mTb_ mFT ro (d + 7, 86, 33, [some (.ref 0), some (.int v0), some (.int v1)], [.int 0], 0, 0, (mSH, K, L)) _
          refine mBT (s2 := (d + 7, 86, 36, [some (.ref 0), some (.int v0), some (.int v1)], [], 0, 0, (mSH, K, L))) rfl (by decide) ?_
          refine mB 2 (s2 := (d + 7, 86, 39, [some (.ref 0), some (.int v0), some (.int v1)], [.int (-3), .ref 0], 0, 0, (mSH, K, L))) rfl ?_
          refine mCall (s2 := (d + 6, 103, 0, [some (.ref 0), some (.int (-3))], [], 0, 0, (mSH, K, L))) rfl ?_
          refine mB 2 (s2 := (d + 6, 103, 3, [some (.ref 0), some (.int (-3))], [.int (-2), .int (-3)], 0, 0, (mSH, K, L))) rfl ?_
          refine mBF (s3 := (d + 6, 103, 19, [some (.ref 0), some (.int (-3))], [], 0, 0, (mSH, K, L))) rfl (by decide) ?_
          refine mB 2 (s2 := (d + 6, 103, 22, [some (.ref 0), some (.int (-3))], [.int (-3), .int (-3)], 0, 0, (mSH, K, L))) rfl ?_
          refine mBT (s2 := (d + 6, 103, 25, [some (.ref 0), some (.int (-3))], [], 0, 0, (mSH, K, L))) rfl (by decide) ?_
          refine mB 8 (s2 := (d + 6, 103, 49, [some (.ref 0), some (.int (-3))], [.int (-3)], 0, 0, (mSH, (mUp K 0 10 ((K 0 10) + 1)), L))) rfl ?_
          refine mRt (r := (some (.int (-3)))) (h := (mSH, (mUp K 0 10 ((K 0 10) + 1)), L)) rfl (mRet_int rfl) ?_
          show mWP mTb_ mFT ro (d + 7, 86, 42, [some (.ref 0), some (.int v0), some (.int v1)], [.int (-3)], 0, 0, (mSH, (mUp K 0 10 ((K 0 10) + 1)), L)) _
          refine mRt (r := (some (.int (-3)))) (h := (mSH, (mUp K 0 10 ((K 0 10) + 1)), L)) rfl (mRet_int rfl) ?_
          exact hq _ _ (mFr.up (by rfl) (mFr.sub (by decide) fK)) (mIC.u0 (hI.sx fK rK cK)) ((if_neg hn).symm.trans (if_pos (c := an_bk T v0 v1) (by have e1 := pm_ti hC.1.1 (by have := hO.1.1; omega); have e2 := pm_ti hC.1.2.1 (by have := hO.1.2.1; omega); have b0 : (v0).toInt = 0 := (by have z := of_decide_eq_true c0; rw [z]; rfl); have a0 := of_decide_eq_false c1; have a1 := of_decide_eq_false c2; simp only [Int32.lt_iff_toInt_lt, Int32.le_iff_toInt_le, ← Int32.toInt_inj, mLi0, mLi1, mLi2, mLi3, mLi4, mLi5, mLi6, mLi7, mLi8, mLi9, mLi10, mLi16, mLi32, mLi48, mLi57, mLi59, mLi65, mLi90, mLi97, mLi99, mLi120, mLi122, mLi127, mLi1584, mLi999999, mLim] at a0 a1 <;> omega)).symm) (kc_2 (by have e1 := pm_ti hC.1.1 (by have := hO.1.1; omega); have e2 := pm_ti hC.1.2.1 (by have := hO.1.2.1; omega); have b0 : (v0).toInt = 0 := (by have z := of_decide_eq_true c0; rw [z]; rfl); have a0 := of_decide_eq_false c1; have a1 := of_decide_eq_false c2; simp only [Int32.lt_iff_toInt_lt, Int32.le_iff_toInt_le, ← Int32.toInt_inj, mLi0, mLi1, mLi2, mLi3, mLi4, mLi5, mLi6, mLi7, mLi8, mLi9, mLi10, mLi16, mLi32, mLi48, mLi57, mLi59, mLi65, mLi90, mLi97, mLi99, mLi120, mLi122, mLi127, mLi1584, mLi999999, mLim] at a0 a1 <;> omega) hn (fK 0 rfl))
        · intro hy K fK rK cK mK
          show mWP mTb_ mFT ro (d + 7, 86, 33, [some (.ref 0), some (.int v0), some (.int v1)], [.int 1], 0, 0, (mSH, K, L)) _
          refine mBF (s3 := (d + 7, 86, 43, [some (.ref 0), some (.int v0), some (.int v1)], [], 0, 0, (mSH, K, L))) rfl (by decide) ?_
          refine mB 4 (s2 := (d + 7, 86, 51, [some (.ref 0), some (.int v0), some (.int v1)], [.int v1, .ref 23], 0, 0, (mSH, K, L))) rfl ?_
          refine mCall (s2 := (d + 6, 42, 0, [some (.ref 23), some (.int v1)], [], 0, 0, (mSH, K, L))) rfl ?_
          refine w_at_23 cK ?_
          show mWP mTb_ mFT ro (d + 7, 86, 54, [some (.ref 0), some (.int v0), some (.int v1)], [.int (mAt K 23 24 v1)], 0, 0, (mSH, K, L)) _
          refine mRt (r := (some (.int (mAt K 23 24 v1)))) (h := (mSH, K, L)) rfl (mRet_int rfl) ?_
          exact hq _ _ (mFr.sub (by decide) fK) (hI.sx fK rK cK) ((an_bly hO hC.1.2.1 mK hy (of_decide_eq_false c1) (of_decide_eq_false c2)).trans (if_pos (c := an_bk T v0 v1) (by have e1 := pm_ti hC.1.1 (by have := hO.1.1; omega); have e2 := pm_ti hC.1.2.1 (by have := hO.1.2.1; omega); have b0 : (v0).toInt = 0 := (by have z := of_decide_eq_true c0; rw [z]; rfl); have a0 := of_decide_eq_false c1; have a1 := of_decide_eq_false c2; simp only [Int32.lt_iff_toInt_lt, Int32.le_iff_toInt_le, ← Int32.toInt_inj, mLi0, mLi1, mLi2, mLi3, mLi4, mLi5, mLi6, mLi7, mLi8, mLi9, mLi10, mLi16, mLi32, mLi48, mLi57, mLi59, mLi65, mLi90, mLi97, mLi99, mLi120, mLi122, mLi127, mLi1584, mLi999999, mLim] at a0 a1 <;> omega)).symm) (kc_0 (by have e1 := pm_ti hC.1.1 (by have := hO.1.1; omega); have e2 := pm_ti hC.1.2.1 (by have := hO.1.2.1; omega); have b0 : (v0).toInt = 0 := (by have z := of_decide_eq_true c0; rw [z]; rfl); have a0 := of_decide_eq_false c1; have a1 := of_decide_eq_false c2; simp only [Int32.lt_iff_toInt_lt, Int32.le_iff_toInt_le, ← Int32.toInt_inj, mLi0, mLi1, mLi2, mLi3, mLi4, mLi5, mLi6, mLi7, mLi8, mLi9, mLi10, mLi16, mLi32, mLi48, mLi57, mLi59, mLi65, mLi90, mLi97, mLi99, mLi120, mLi122, mLi127, mLi1584, mLi999999, mLim] at a0 a1 <;> omega) hy (fK 0 rfl))
  · refine mB 2 (s2 := (d + 6, 108, 6, [some (.int v0)], [.int 1, .int v0], 0, 0, (mSH, I, L))) rfl ?_
    refine mBr (s2 := (d + 6, 108, 9, [some (.int v0)], [], 0, 0, (mSH, I, L))) (s3 := (d + 6, 108, 13, [some (.int v0)], [], 0, 0, (mSH, I, L))) rfl (fun c1 => ?_) (fun c1 => ?_)
    · refine mB 2 (s2 := (d + 6, 108, 14, [some (.int v0)], [.int 1], 0, 0, (mSH, I, L))) rfl ?_
      refine mRt (r := (some (.int 1))) (h := (mSH, I, L)) rfl rfl ?_
      show mWP mTb_ mFT ro (d + 7, 86, 4, [some (.ref 0), some (.int v0), some (.int v1)], [.int 1], 0, 0, (mSH, I, L)) _
      refine mBF (s3 := (d + 7, 86, 7, [some (.ref 0), some (.int v0), some (.int v1)], [], 0, 0, (mSH, I, L))) rfl (by decide) ?_
      refine mB 4 (s2 := (d + 7, 86, 15, [some (.ref 0), some (.int v0), some (.int v1)], [.int v1, .ref 4], 0, 0, (mSH, I, L))) rfl ?_
      refine mCall (s2 := (d + 6, 41, 0, [some (.ref 4), some (.int v1)], [], 0, 0, (mSH, I, L))) rfl ?_
      refine mB 1 (s2 := (d + 6, 41, 1, [some (.ref 4), some (.int v1)], [.int v1], 0, 0, (mSH, I, L))) rfl ?_
      refine mBr (s2 := (d + 6, 41, 16, [some (.ref 4), some (.int v1)], [], 0, 0, (mSH, I, L))) (s3 := (d + 6, 41, 4, [some (.ref 4), some (.int v1)], [], 0, 0, (mSH, I, L))) rfl (fun c2 => ?_) (fun c2 => ?_)
      · refine mB 1 (s2 := (d + 6, 41, 17, [some (.ref 4), some (.int v1)], [.int 0], 0, 0, (mSH, I, L))) rfl ?_
        refine mRt (r := (some (.int 0))) (h := (mSH, I, L)) rfl rfl ?_
        show mWP mTb_ mFT ro (d + 7, 86, 18, [some (.ref 0), some (.int v0), some (.int v1)], [.int 0], 0, 0, (mSH, I, L)) _
        refine mBT (s2 := (d + 7, 86, 21, [some (.ref 0), some (.int v0), some (.int v1)], [], 0, 0, (mSH, I, L))) rfl (by decide) ?_
        refine mB 2 (s2 := (d + 7, 86, 24, [some (.ref 0), some (.int v0), some (.int v1)], [.int (-2), .ref 0], 0, 0, (mSH, I, L))) rfl ?_
        refine mCall (s2 := (d + 6, 103, 0, [some (.ref 0), some (.int (-2))], [], 0, 0, (mSH, I, L))) rfl ?_
        refine mB 2 (s2 := (d + 6, 103, 3, [some (.ref 0), some (.int (-2))], [.int (-2), .int (-2)], 0, 0, (mSH, I, L))) rfl ?_
        refine mBT (s2 := (d + 6, 103, 6, [some (.ref 0), some (.int (-2))], [], 0, 0, (mSH, I, L))) rfl (by decide) ?_
        refine mB 8 (s2 := (d + 6, 103, 49, [some (.ref 0), some (.int (-2))], [.int (-2)], 0, 0, (mSH, (mUp I 0 9 ((I 0 9) + 1)), L))) rfl ?_
        refine mRt (r := (some (.int (-2)))) (h := (mSH, (mUp I 0 9 ((I 0 9) + 1)), L)) rfl (mRet_int rfl) ?_
        show mWP mTb_ mFT ro (d + 7, 86, 27, [some (.ref 0), some (.int v0), some (.int v1)], [.int (-2)], 0, 0, (mSH, (mUp I 0 9 ((I 0 9) + 1)), L)) _
        refine mRt (r := (some (.int (-2)))) (h := (mSH, (mUp I 0 9 ((I 0 9) + 1)), L)) rfl (mRet_int rfl) ?_
        exact hq _ _ (mFr.up (by rfl) mFr.rf) (mIC.u0 hI) (if_neg (c := an_bk T v0 v1) (by have e1 := pm_ti hC.1.1 (by have := hO.1.1; omega); have e2 := pm_ti hC.1.2.1 (by have := hO.1.2.1; omega); have b0 : (v0).toInt = 1 := (by have z := of_decide_eq_true c1; rw [z]; rfl); have a0 := of_decide_eq_false c0; have a1 := of_decide_eq_true c2; simp only [Int32.lt_iff_toInt_lt, Int32.le_iff_toInt_le, ← Int32.toInt_inj, mLi0, mLi1, mLi2, mLi3, mLi4, mLi5, mLi6, mLi7, mLi8, mLi9, mLi10, mLi16, mLi32, mLi48, mLi57, mLi59, mLi65, mLi90, mLi97, mLi99, mLi120, mLi122, mLi127, mLi1584, mLi999999, mLim] at a0 a1 <;> omega)).symm (kc_1 (by have e1 := pm_ti hC.1.1 (by have := hO.1.1; omega); have e2 := pm_ti hC.1.2.1 (by have := hO.1.2.1; omega); have b0 : (v0).toInt = 1 := (by have z := of_decide_eq_true c1; rw [z]; rfl); have a0 := of_decide_eq_false c0; have a1 := of_decide_eq_true c2; simp only [Int32.lt_iff_toInt_lt, Int32.le_iff_toInt_le, ← Int32.toInt_inj, mLi0, mLi1, mLi2, mLi3, mLi4, mLi5, mLi6, mLi7, mLi8, mLi9, mLi10, mLi16, mLi32, mLi48, mLi57, mLi59, mLi65, mLi90, mLi97, mLi99, mLi120, mLi122, mLi127, mLi1584, mLi999999, mLim] at a0 a1 <;> omega) (by rfl))
      · refine mB 3 (s2 := (d + 6, 41, 9, [some (.ref 4), some (.int v1)], [.int (I 4 1), .int v1], 0, 0, (mSH, I, L))) rfl ?_
        refine mBr (s2 := (d + 6, 41, 16, [some (.ref 4), some (.int v1)], [], 0, 0, (mSH, I, L))) (s3 := (d + 6, 41, 12, [some (.ref 4), some (.int v1)], [], 0, 0, (mSH, I, L))) rfl (fun c3 => ?_) (fun c3 => ?_)
        · refine mB 1 (s2 := (d + 6, 41, 17, [some (.ref 4), some (.int v1)], [.int 0], 0, 0, (mSH, I, L))) rfl ?_
          refine mRt (r := (some (.int 0))) (h := (mSH, I, L)) rfl rfl ?_
          show mWP mTb_ mFT ro (d + 7, 86, 18, [some (.ref 0), some (.int v0), some (.int v1)], [.int 0], 0, 0, (mSH, I, L)) _
          refine mBT (s2 := (d + 7, 86, 21, [some (.ref 0), some (.int v0), some (.int v1)], [], 0, 0, (mSH, I, L))) rfl (by decide) ?_
          refine mB 2 (s2 := (d + 7, 86, 24, [some (.ref 0), some (.int v0), some (.int v1)], [.int (-2), .ref 0], 0, 0, (mSH, I, L))) rfl ?_
          refine mCall (s2 := (d + 6, 103, 0, [some (.ref 0), some (.int (-2))], [], 0, 0, (mSH, I, L))) rfl ?_
          refine mB 2 (s2 := (d + 6, 103, 3, [some (.ref 0), some (.int (-2))], [.int (-2), .int (-2)], 0, 0, (mSH, I, L))) rfl ?_
          refine mBT (s2 := (d + 6, 103, 6, [some (.ref 0), some (.int (-2))], [], 0, 0, (mSH, I, L))) rfl (by decide) ?_
          refine mB 8 (s2 := (d + 6, 103, 49, [some (.ref 0), some (.int (-2))], [.int (-2)], 0, 0, (mSH, (mUp I 0 9 ((I 0 9) + 1)), L))) rfl ?_
          refine mRt (r := (some (.int (-2)))) (h := (mSH, (mUp I 0 9 ((I 0 9) + 1)), L)) rfl (mRet_int rfl) ?_
          show mWP mTb_ mFT ro (d + 7, 86, 27, [some (.ref 0), some (.int v0), some (.int v1)], [.int (-2)], 0, 0, (mSH, (mUp I 0 9 ((I 0 9) + 1)), L)) _
          refine mRt (r := (some (.int (-2)))) (h := (mSH, (mUp I 0 9 ((I 0 9) + 1)), L)) rfl (mRet_int rfl) ?_
          exact hq _ _ (mFr.up (by rfl) mFr.rf) (mIC.u0 hI) (if_neg (c := an_bk T v0 v1) (by have e1 := pm_ti hC.1.1 (by have := hO.1.1; omega); have e2 := pm_ti hC.1.2.1 (by have := hO.1.2.1; omega); have b0 : (v0).toInt = 1 := (by have z := of_decide_eq_true c1; rw [z]; rfl); have a0 := of_decide_eq_false c0; have a1 := of_decide_eq_false c2; have a2 := of_decide_eq_true c3; simp only [Int32.lt_iff_toInt_lt, Int32.le_iff_toInt_le, ← Int32.toInt_inj, mLi0, mLi1, mLi2, mLi3, mLi4, mLi5, mLi6, mLi7, mLi8, mLi9, mLi10, mLi16, mLi32, mLi48, mLi57, mLi59, mLi65, mLi90, mLi97, mLi99, mLi120, mLi122, mLi127, mLi1584, mLi999999, mLim] at a0 a1 a2 <;> omega)).symm (kc_1 (by have e1 := pm_ti hC.1.1 (by have := hO.1.1; omega); have e2 := pm_ti hC.1.2.1 (by have := hO.1.2.1; omega); have b0 : (v0).toInt = 1 := (by have z := of_decide_eq_true c1; rw [z]; rfl); have a0 := of_decide_eq_false c0; have a1 := of_decide_eq_false c2; have a2 := of_decide_eq_true c3; simp only [Int32.lt_iff_toInt_lt, Int32.le_iff_toInt_le, ← Int32.toInt_inj, mLi0, mLi1, mLi2, mLi3, mLi4, mLi5, mLi6, mLi7, mLi8, mLi9, mLi10, mLi16, mLi32, mLi48, mLi57, mLi59, mLi65, mLi90, mLi97, mLi99, mLi120, mLi122, mLi127, mLi1584, mLi999999, mLim] at a0 a1 a2 <;> omega) (by rfl))
        · refine mB 2 (s2 := (d + 6, 41, 17, [some (.ref 4), some (.int v1)], [.int 1], 0, 0, (mSH, I, L))) rfl ?_
          refine mRt (r := (some (.int 1))) (h := (mSH, I, L)) rfl rfl ?_
          show mWP mTb_ mFT ro (d + 7, 86, 18, [some (.ref 0), some (.int v0), some (.int v1)], [.int 1], 0, 0, (mSH, I, L)) _
          refine mBF (s3 := (d + 7, 86, 28, [some (.ref 0), some (.int v0), some (.int v1)], [], 0, 0, (mSH, I, L))) rfl (by decide) ?_
          refine mB 2 (s2 := (d + 7, 86, 30, [some (.ref 0), some (.int v0), some (.int v1)], [.int v0, .ref 0], 0, 0, (mSH, I, L))) rfl ?_
          refine mCall (s2 := (d + 6, 106, 0, [some (.ref 0), some (.int v0)], [], 0, 0, (mSH, I, L))) rfl ?_
          refine x_finds hI hO hC (Or.inr (of_decide_eq_true c1)) ?_ ?_
          · intro hn K fK rK cK
            show mWP mTb_ mFT ro (d + 7, 86, 33, [some (.ref 0), some (.int v0), some (.int v1)], [.int 0], 0, 0, (mSH, K, L)) _
            refine mBT (s2 := (d + 7, 86, 36, [some (.ref 0), some (.int v0), some (.int v1)], [], 0, 0, (mSH, K, L))) rfl (by decide) ?_
            refine mB 2 (s2 := (d + 7, 86, 39, [some (.ref 0), some (.int v0), some (.int v1)], [.int (-3), .ref 0], 0, 0, (mSH, K, L))) rfl ?_
            refine mCall (s2 := (d + 6, 103, 0, [some (.ref 0), some (.int (-3))], [], 0, 0, (mSH, K, L))) rfl ?_
            refine mB 2 (s2 := (d + 6, 103, 3, [some (.ref 0), some (.int (-3))], [.int (-2), .int (-3)], 0, 0, (mSH, K, L))) rfl ?_
            refine mBF (s3 := (d + 6, 103, 19, [some (.ref 0), some (.int (-3))], [], 0, 0, (mSH, K, L))) rfl (by decide) ?_
            refine mB 2 (s2 := (d + 6, 103, 22, [some (.ref 0), some (.int (-3))], [.int (-3), .int (-3)], 0, 0, (mSH, K, L))) rfl ?_
            refine mBT (s2 := (d + 6, 103, 25, [some (.ref 0), some (.int (-3))], [], 0, 0, (mSH, K, L))) rfl (by decide) ?_
            refine mB 8 (s2 := (d + 6, 103, 49, [some (.ref 0), some (.int (-3))], [.int (-3)], 0, 0, (mSH, (mUp K 0 10 ((K 0 10) + 1)), L))) rfl ?_
            refine mRt (r := (some (.int (-3)))) (h := (mSH, (mUp K 0 10 ((K 0 10) + 1)), L)) rfl (mRet_int rfl) ?_
            show mWP mTb_ mFT ro (d + 7, 86, 42, [some (.ref 0), some (.int v0), some (.int v1)], [.int (-3)], 0, 0, (mSH, (mUp K 0 10 ((K 0 10) + 1)), L)) _
            refine mRt (r := (some (.int (-3)))) (h := (mSH, (mUp K 0 10 ((K 0 10) + 1)), L)) rfl (mRet_int rfl) ?_
            exact hq _ _ (mFr.up (by rfl) (mFr.sub (by decide) fK)) (mIC.u0 (hI.sx fK rK cK)) ((if_neg hn).symm.trans (if_pos (c := an_bk T v0 v1) (by have e1 := pm_ti hC.1.1 (by have := hO.1.1; omega); have e2 := pm_ti hC.1.2.1 (by have := hO.1.2.1; omega); have b0 : (v0).toInt = 1 := (by have z := of_decide_eq_true c1; rw [z]; rfl); have a0 := of_decide_eq_false c0; have a1 := of_decide_eq_false c2; have a2 := of_decide_eq_false c3; simp only [Int32.lt_iff_toInt_lt, Int32.le_iff_toInt_le, ← Int32.toInt_inj, mLi0, mLi1, mLi2, mLi3, mLi4, mLi5, mLi6, mLi7, mLi8, mLi9, mLi10, mLi16, mLi32, mLi48, mLi57, mLi59, mLi65, mLi90, mLi97, mLi99, mLi120, mLi122, mLi127, mLi1584, mLi999999, mLim] at a0 a1 a2 <;> omega)).symm) (kc_2 (by have e1 := pm_ti hC.1.1 (by have := hO.1.1; omega); have e2 := pm_ti hC.1.2.1 (by have := hO.1.2.1; omega); have b0 : (v0).toInt = 1 := (by have z := of_decide_eq_true c1; rw [z]; rfl); have a0 := of_decide_eq_false c0; have a1 := of_decide_eq_false c2; have a2 := of_decide_eq_false c3; simp only [Int32.lt_iff_toInt_lt, Int32.le_iff_toInt_le, ← Int32.toInt_inj, mLi0, mLi1, mLi2, mLi3, mLi4, mLi5, mLi6, mLi7, mLi8, mLi9, mLi10, mLi16, mLi32, mLi48, mLi57, mLi59, mLi65, mLi90, mLi97, mLi99, mLi120, mLi122, mLi127, mLi1584, mLi999999, mLim] at a0 a1 a2 <;> omega) hn (fK 0 rfl))
          · intro hy K fK rK cK mK
            show mWP mTb_ mFT ro (d + 7, 86, 33, [some (.ref 0), some (.int v0), some (.int v1)], [.int 1], 0, 0, (mSH, K, L)) _
            refine mBF (s3 := (d + 7, 86, 43, [some (.ref 0), some (.int v0), some (.int v1)], [], 0, 0, (mSH, K, L))) rfl (by decide) ?_
            refine mB 4 (s2 := (d + 7, 86, 51, [some (.ref 0), some (.int v0), some (.int v1)], [.int v1, .ref 23], 0, 0, (mSH, K, L))) rfl ?_
            refine mCall (s2 := (d + 6, 42, 0, [some (.ref 23), some (.int v1)], [], 0, 0, (mSH, K, L))) rfl ?_
            refine w_at_23 cK ?_
            show mWP mTb_ mFT ro (d + 7, 86, 54, [some (.ref 0), some (.int v0), some (.int v1)], [.int (mAt K 23 24 v1)], 0, 0, (mSH, K, L)) _
            refine mRt (r := (some (.int (mAt K 23 24 v1)))) (h := (mSH, K, L)) rfl (mRet_int rfl) ?_
            exact hq _ _ (mFr.sub (by decide) fK) (hI.sx fK rK cK) ((an_bly hO hC.1.2.1 mK hy (of_decide_eq_false c2) (of_decide_eq_false c3)).trans (if_pos (c := an_bk T v0 v1) (by have e1 := pm_ti hC.1.1 (by have := hO.1.1; omega); have e2 := pm_ti hC.1.2.1 (by have := hO.1.2.1; omega); have b0 : (v0).toInt = 1 := (by have z := of_decide_eq_true c1; rw [z]; rfl); have a0 := of_decide_eq_false c0; have a1 := of_decide_eq_false c2; have a2 := of_decide_eq_false c3; simp only [Int32.lt_iff_toInt_lt, Int32.le_iff_toInt_le, ← Int32.toInt_inj, mLi0, mLi1, mLi2, mLi3, mLi4, mLi5, mLi6, mLi7, mLi8, mLi9, mLi10, mLi16, mLi32, mLi48, mLi57, mLi59, mLi65, mLi90, mLi97, mLi99, mLi120, mLi122, mLi127, mLi1584, mLi999999, mLim] at a0 a1 a2 <;> omega)).symm) (kc_0 (by have e1 := pm_ti hC.1.1 (by have := hO.1.1; omega); have e2 := pm_ti hC.1.2.1 (by have := hO.1.2.1; omega); have b0 : (v0).toInt = 1 := (by have z := of_decide_eq_true c1; rw [z]; rfl); have a0 := of_decide_eq_false c0; have a1 := of_decide_eq_false c2; have a2 := of_decide_eq_false c3; simp only [Int32.lt_iff_toInt_lt, Int32.le_iff_toInt_le, ← Int32.toInt_inj, mLi0, mLi1, mLi2, mLi3, mLi4, mLi5, mLi6, mLi7, mLi8, mLi9, mLi10, mLi16, mLi32, mLi48, mLi57, mLi59, mLi65, mLi90, mLi97, mLi99, mLi120, mLi122, mLi127, mLi1584, mLi999999, mLim] at a0 a1 a2 <;> omega) hy (fK 0 rfl))
    · refine mB 1 (s2 := (d + 6, 108, 14, [some (.int v0)], [.int 0], 0, 0, (mSH, I, L))) rfl ?_
      refine mRt (r := (some (.int 0))) (h := (mSH, I, L)) rfl rfl ?_
      show mWP mTb_ mFT ro (d + 7, 86, 4, [some (.ref 0), some (.int v0), some (.int v1)], [.int 0], 0, 0, (mSH, I, L)) _
      refine mBT (s2 := (d + 7, 86, 21, [some (.ref 0), some (.int v0), some (.int v1)], [], 0, 0, (mSH, I, L))) rfl (by decide) ?_
      refine mB 2 (s2 := (d + 7, 86, 24, [some (.ref 0), some (.int v0), some (.int v1)], [.int (-2), .ref 0], 0, 0, (mSH, I, L))) rfl ?_
      refine mCall (s2 := (d + 6, 103, 0, [some (.ref 0), some (.int (-2))], [], 0, 0, (mSH, I, L))) rfl ?_
      refine mB 2 (s2 := (d + 6, 103, 3, [some (.ref 0), some (.int (-2))], [.int (-2), .int (-2)], 0, 0, (mSH, I, L))) rfl ?_
      refine mBT (s2 := (d + 6, 103, 6, [some (.ref 0), some (.int (-2))], [], 0, 0, (mSH, I, L))) rfl (by decide) ?_
      refine mB 8 (s2 := (d + 6, 103, 49, [some (.ref 0), some (.int (-2))], [.int (-2)], 0, 0, (mSH, (mUp I 0 9 ((I 0 9) + 1)), L))) rfl ?_
      refine mRt (r := (some (.int (-2)))) (h := (mSH, (mUp I 0 9 ((I 0 9) + 1)), L)) rfl (mRet_int rfl) ?_
      show mWP mTb_ mFT ro (d + 7, 86, 27, [some (.ref 0), some (.int v0), some (.int v1)], [.int (-2)], 0, 0, (mSH, (mUp I 0 9 ((I 0 9) + 1)), L)) _
      refine mRt (r := (some (.int (-2)))) (h := (mSH, (mUp I 0 9 ((I 0 9) + 1)), L)) rfl (mRet_int rfl) ?_
      exact hq _ _ (mFr.up (by rfl) mFr.rf) (mIC.u0 hI) (if_neg (c := an_bk T v0 v1) (by have e1 := pm_ti hC.1.1 (by have := hO.1.1; omega); have e2 := pm_ti hC.1.2.1 (by have := hO.1.2.1; omega); have a0 := of_decide_eq_false c0; have a1 := of_decide_eq_false c1; simp only [Int32.lt_iff_toInt_lt, Int32.le_iff_toInt_le, ← Int32.toInt_inj, mLi0, mLi1, mLi2, mLi3, mLi4, mLi5, mLi6, mLi7, mLi8, mLi9, mLi10, mLi16, mLi32, mLi48, mLi57, mLi59, mLi65, mLi90, mLi97, mLi99, mLi120, mLi122, mLi127, mLi1584, mLi999999, mLim] at a0 a1 <;> omega)).symm (kc_1 (by have e1 := pm_ti hC.1.1 (by have := hO.1.1; omega); have e2 := pm_ti hC.1.2.1 (by have := hO.1.2.1; omega); have a0 := of_decide_eq_false c0; have a1 := of_decide_eq_false c1; simp only [Int32.lt_iff_toInt_lt, Int32.le_iff_toInt_le, ← Int32.toInt_inj, mLi0, mLi1, mLi2, mLi3, mLi4, mLi5, mLi6, mLi7, mLi8, mLi9, mLi10, mLi16, mLi32, mLi48, mLi57, mLi59, mLi65, mLi90, mLi97, mLi99, mLi120, mLi122, mLi127, mLi1584, mLi999999, mLim] at a0 a1 <;> omega) (by rfl))
theorem z_many {ro : Nat → Nat × (Nat → Int32)} {Q : mPo} {d : Nat} {I : Nat → Nat → Int32} {L : Nat → Nat → Int64} {T : ct_S} {B : ct_B} {kd g pe : Nat} (hI : mIC I) (hO : pm_O T B kd g pe) (hC : pm_C T B kd g pe I) (hq : ∀ r I1, mFr mSQ2 I I1 → mIC I1 → r = an_many T B kd g pe → kC (cdN True True) I I1 → Q (some (.int r)) (mSH, I1, L))   : mWP mTb_ mFT ro (d + 7, 87, 0, [some (.ref 0)], [], 0, 0, (mSH, I, L)) Q := by
  refine mB 1 (s2 := (d + 7, 87, 1, [some (.ref 0)], [.ref 0], 0, 0, (mSH, I, L))) rfl ?_
  refine mCall (s2 := (d + 6, 105, 0, [some (.ref 0)], [], 0, 0, (mSH, I, L))) rfl ?_
  refine mB 7 (s2 := (d + 6, 105, 13, [some (.ref 0)], [.int 0, .ref 8, .ref 6, .ref 10], 0, 0, (mSH, I, L))) rfl ?_
  refine mCall (s2 := (d + 5, 10, 0, [some (.ref 8), some (.int 0)], [], 0, 0, (mSH, I, L))) rfl ?_
  refine mB 2 (s2 := (d + 5, 10, 2, [some (.ref 8), some (.int 0)], [.int 0, .ref 8], 0, 0, (mSH, I, L))) rfl ?_
  refine mCall (s2 := (d + 4, 8, 0, [some (.ref 8), some (.int 0)], [], 0, 0, (mSH, I, L))) rfl ?_
  refine mB 1 (s2 := (d + 4, 8, 1, [some (.ref 8), some (.int 0)], [.int 0], 0, 0, (mSH, I, L))) rfl ?_
  refine mBF (s3 := (d + 4, 8, 4, [some (.ref 8), some (.int 0)], [], 0, 0, (mSH, I, L))) rfl (by decide) ?_
  refine mB 4 (s2 := (d + 4, 8, 10, [some (.ref 8), some (.int 0)], [.int 3, .int 0], 0, 0, (mSH, I, L))) rfl ?_
  refine mBF (s3 := (d + 4, 8, 13, [some (.ref 8), some (.int 0)], [], 0, 0, (mSH, I, L))) rfl (by decide) ?_
  refine mB 2 (s2 := (d + 4, 8, 18, [some (.ref 8), some (.int 0)], [.int 1], 0, 0, (mSH, I, L))) rfl ?_
  refine mRt (r := (some (.int 1))) (h := (mSH, I, L)) rfl rfl ?_
  show mWP mTb_ mFT ro (d + 5, 10, 5, [some (.ref 8), some (.int 0)], [.int 1], 0, 0, (mSH, I, L)) _
  refine mBF (s3 := (d + 5, 10, 8, [some (.ref 8), some (.int 0)], [], 0, 0, (mSH, I, L))) rfl (by decide) ?_
  refine mB 3 (s2 := (d + 5, 10, 13, [some (.ref 8), some (.int 0)], [.int 0, .ref 9], 0, 0, (mSH, I, L))) rfl ?_
  refine mRq (s2 := (d + 5, 10, 14, [some (.ref 8), some (.int 0)], [.int (I 9 0)], 0, 0, (mSH, I, L))) rfl (by decide) ?_
  refine mB 1 (s2 := (d + 5, 10, 18, [some (.ref 8), some (.int 0)], [.int (I 9 0)], 0, 0, (mSH, I, L))) rfl ?_
  refine mRt (r := (some (.int (I 9 0)))) (h := (mSH, I, L)) rfl (mRet_int rfl) ?_
  show mWP mTb_ mFT ro (d + 6, 105, 16, [some (.ref 0)], [.int (I 9 0), .ref 6, .ref 10], 0, 0, (mSH, I, L)) _
  refine mCall (s2 := (d + 5, 52, 0, [some (.ref 10), some (.ref 6), some (.int (I 9 0)), none, none, none], [], 0, 0, (mSH, I, L))) rfl ?_
  refine x_fillv_6 (k2 := kd) hC.2.2.2.2 hO.2.2.2 hO hC hI.2.2.2.2.2.2 (fun J fJ rJ wJ => ?_)
  show mWP mTb_ mFT ro (d + 6, 105, 19, [some (.ref 0)], [], 0, 0, (mSH, J, L)) _
  refine mRt (r := none) (h := (mSH, J, L)) rfl rfl ?_
  show mWP mTb_ mFT ro (d + 7, 87, 4, [some (.ref 0)], [], 0, 0, (mSH, J, L)) _
  refine mB 3 (s2 := (d + 7, 87, 10, [some (.ref 0)], [.ref 10, .int 1000000000], 0, 0, (mSH, J, L))) rfl ?_
  refine mCall (s2 := (d + 6, 63, 0, [some (.ref 10)], [], 0, 0, (mSH, J, L))) rfl ?_
  refine mB 3 (s2 := (d + 6, 63, 7, [some (.ref 10)], [.int 153, .ref 20], 0, 0, (mSH, J, L))) rfl ?_
  refine mRq (s2 := (d + 6, 63, 8, [some (.ref 10)], [.int (J 20 153)], 0, 0, (mSH, J, L))) rfl (by decide) ?_
  refine mRt (r := (some (.int (J 20 153)))) (h := (mSH, J, L)) rfl (mRet_int rfl) ?_
  show mWP mTb_ mFT ro (d + 7, 87, 13, [some (.ref 0)], [.int (J 20 153), .int 1000000000], 0, 0, (mSH, J, L)) _
  refine mB 1 (s2 := (d + 7, 87, 16, [some (.ref 0)], [.int (if (J 20 153) < 1000000000 then (J 20 153) else 1000000000)], 0, 0, (mSH, J, L))) rfl ?_
  refine mRt (r := (some (.int (if (J 20 153) < 1000000000 then (J 20 153) else 1000000000)))) (h := (mSH, J, L)) rfl (mRet_int rfl) ?_
  exact hq _ _ (mFr.sub (by decide) fJ) (hI.ss fJ rJ) (an_min (an_w hO) wJ.n.2.1) (kc_0 trivial trivial (fJ 0 rfl))
theorem z_unbound {ro : Nat → Nat × (Nat → Int32)} {Q : mPo} {d : Nat} {I : Nat → Nat → Int32} {L : Nat → Nat → Int64} {T : ct_S} {B : ct_B} {kd g pe : Nat} (hI : mIC I) (hO : pm_O T B kd g pe) (hC : pm_C T B kd g pe I) (hq : ∀ r I1, mFr mSQ2 I I1 → mIC I1 → r = an_unbound T kd g pe → kC (cdN True True) I I1 → Q (some (.int r)) (mSH, I1, L))   : mWP mTb_ mFT ro (d + 7, 92, 0, [some (.ref 0)], [], 0, 0, (mSH, I, L)) Q := by
  refine mB 7 (s2 := (d + 7, 92, 13, [some (.ref 0)], [.int 0, .ref 8, .ref 7, .ref 10], 0, 0, (mSH, I, L))) rfl ?_
  refine mCall (s2 := (d + 6, 10, 0, [some (.ref 8), some (.int 0)], [], 0, 0, (mSH, I, L))) rfl ?_
  refine mB 2 (s2 := (d + 6, 10, 2, [some (.ref 8), some (.int 0)], [.int 0, .ref 8], 0, 0, (mSH, I, L))) rfl ?_
  refine mCall (s2 := (d + 5, 8, 0, [some (.ref 8), some (.int 0)], [], 0, 0, (mSH, I, L))) rfl ?_
  refine mB 1 (s2 := (d + 5, 8, 1, [some (.ref 8), some (.int 0)], [.int 0], 0, 0, (mSH, I, L))) rfl ?_
  refine mBF (s3 := (d + 5, 8, 4, [some (.ref 8), some (.int 0)], [], 0, 0, (mSH, I, L))) rfl (by decide) ?_
  refine mB 4 (s2 := (d + 5, 8, 10, [some (.ref 8), some (.int 0)], [.int 3, .int 0], 0, 0, (mSH, I, L))) rfl ?_
  refine mBF (s3 := (d + 5, 8, 13, [some (.ref 8), some (.int 0)], [], 0, 0, (mSH, I, L))) rfl (by decide) ?_
  refine mB 2 (s2 := (d + 5, 8, 18, [some (.ref 8), some (.int 0)], [.int 1], 0, 0, (mSH, I, L))) rfl ?_
  refine mRt (r := (some (.int 1))) (h := (mSH, I, L)) rfl rfl ?_
  show mWP mTb_ mFT ro (d + 6, 10, 5, [some (.ref 8), some (.int 0)], [.int 1], 0, 0, (mSH, I, L)) _
  refine mBF (s3 := (d + 6, 10, 8, [some (.ref 8), some (.int 0)], [], 0, 0, (mSH, I, L))) rfl (by decide) ?_
  refine mB 3 (s2 := (d + 6, 10, 13, [some (.ref 8), some (.int 0)], [.int 0, .ref 9], 0, 0, (mSH, I, L))) rfl ?_
  refine mRq (s2 := (d + 6, 10, 14, [some (.ref 8), some (.int 0)], [.int (I 9 0)], 0, 0, (mSH, I, L))) rfl (by decide) ?_
  refine mB 1 (s2 := (d + 6, 10, 18, [some (.ref 8), some (.int 0)], [.int (I 9 0)], 0, 0, (mSH, I, L))) rfl ?_
  refine mRt (r := (some (.int (I 9 0)))) (h := (mSH, I, L)) rfl (mRet_int rfl) ?_
  show mWP mTb_ mFT ro (d + 7, 92, 16, [some (.ref 0)], [.int (I 9 0), .ref 7, .ref 10], 0, 0, (mSH, I, L)) _
  refine mCall (s2 := (d + 6, 52, 0, [some (.ref 10), some (.ref 7), some (.int (I 9 0)), none, none, none], [], 0, 0, (mSH, I, L))) rfl ?_
  refine x_fillv_7 (k2 := kd) hC.2.2.2.2 hO.2.2.2 hO hC hI.2.2.2.2.2.2 (fun J fJ rJ wJ => ?_)
  show mWP mTb_ mFT ro (d + 7, 92, 19, [some (.ref 0)], [], 0, 0, (mSH, J, L)) _
  refine mB 2 (s2 := (d + 7, 92, 23, [some (.ref 0)], [.ref 10], 0, 0, (mSH, J, L))) rfl ?_
  refine mCall (s2 := (d + 6, 61, 0, [some (.ref 10)], [], 0, 0, (mSH, J, L))) rfl ?_
  refine mB 2 (s2 := (d + 6, 61, 4, [some (.ref 10)], [.int 153, .ref 10], 0, 0, (mSH, J, L))) rfl ?_
  refine mCall (s2 := (d + 5, 60, 0, [some (.ref 10), some (.int 153)], [], 0, 0, (mSH, J, L))) rfl ?_
  refine mB 3 (s2 := (d + 5, 60, 5, [some (.ref 10), some (.int 153)], [.int 0, .ref 11], 0, 0, (mSH, J, L))) rfl ?_
  refine mRq (s2 := (d + 5, 60, 6, [some (.ref 10), some (.int 153)], [.ref 12], 0, 0, (mSH, J, L))) rfl (by decide) ?_
  refine mB 1 (s2 := (d + 5, 60, 7, [some (.ref 10), some (.int 153)], [.int 153, .ref 12], 0, 0, (mSH, J, L))) rfl ?_
  refine mRq (s2 := (d + 5, 60, 8, [some (.ref 10), some (.int 153)], [.int (J 12 153)], 0, 0, (mSH, J, L))) rfl (by decide) ?_
  refine mB 1 (s2 := (d + 5, 60, 10, [some (.ref 10), some (.int 153)], [.int 1000000000, .int (J 12 153)], 0, 0, (mSH, J, L))) rfl ?_
  refine mBr (s2 := (d + 5, 60, 13, [some (.ref 10), some (.int 153)], [], 0, 0, (mSH, J, L))) (s3 := (d + 5, 60, 17, [some (.ref 10), some (.int 153)], [], 0, 0, (mSH, J, L))) rfl (fun c0 => ?_) (fun c0 => ?_)
  · refine mB 2 (s2 := (d + 5, 60, 25, [some (.ref 10), some (.int 153)], [.int (-1)], 0, 0, (mSH, J, L))) rfl ?_
    refine mRt (r := (some (.int (-1)))) (h := (mSH, J, L)) rfl (mRet_int rfl) ?_
    show mWP mTb_ mFT ro (d + 6, 61, 7, [some (.ref 10)], [.int (-1)], 0, 0, (mSH, J, L)) _
    refine mRt (r := (some (.int (-1)))) (h := (mSH, J, L)) rfl (mRet_int rfl) ?_
    show mWP mTb_ mFT ro (d + 7, 92, 26, [some (.ref 0)], [.int (-1)], 0, 0, (mSH, J, L)) _
    refine mRt (r := (some (.int (-1)))) (h := (mSH, J, L)) rfl (mRet_int rfl) ?_
    exact hq _ _ (mFr.sub (by decide) fJ) (hI.ss fJ rJ) (an_sn (an_ok (pm_O0 hO)).le1 wJ.n.1.1 (of_decide_eq_true c0)) (kc_0 trivial trivial (fJ 0 rfl))
  · refine mB 3 (s2 := (d + 5, 60, 22, [some (.ref 10), some (.int 153)], [.int 0, .ref 11], 0, 0, (mSH, J, L))) rfl ?_
    refine mRq (s2 := (d + 5, 60, 23, [some (.ref 10), some (.int 153)], [.ref 12], 0, 0, (mSH, J, L))) rfl (by decide) ?_
    refine mB 1 (s2 := (d + 5, 60, 24, [some (.ref 10), some (.int 153)], [.int 153, .ref 12], 0, 0, (mSH, J, L))) rfl ?_
    refine mRq (s2 := (d + 5, 60, 25, [some (.ref 10), some (.int 153)], [.int (J 12 153)], 0, 0, (mSH, J, L))) rfl (by decide) ?_
    refine mRt (r := (some (.int (J 12 153)))) (h := (mSH, J, L)) rfl (mRet_int rfl) ?_
    show mWP mTb_ mFT ro (d + 6, 61, 7, [some (.ref 10)], [.int (J 12 153)], 0, 0, (mSH, J, L)) _
    refine mRt (r := (some (.int (J 12 153)))) (h := (mSH, J, L)) rfl (mRet_int rfl) ?_
    show mWP mTb_ mFT ro (d + 7, 92, 26, [some (.ref 0)], [.int (J 12 153)], 0, 0, (mSH, J, L)) _
    refine mRt (r := (some (.int (J 12 153)))) (h := (mSH, J, L)) rfl (mRet_int rfl) ?_
    exact hq _ _ (mFr.sub (by decide) fJ) (hI.ss fJ rJ) (an_sy (an_ok (pm_O0 hO)).le1 wJ.n.1.1 (of_decide_eq_false c0)) (kc_0 trivial trivial (fJ 0 rfl))
theorem an_nlt {x : Nat} {y : Int32} (hx : x ≤ bt_U) (h : y = nI x) (c : y = 1000000000) : ¬ x < bt_U := by
  rw [h, ← bt_Ue, nI_eq (by have := bt_Ul; omega) bt_Ul] at c
  omega
theorem z_alike {ro : Nat → Nat × (Nat → Int32)} {Q : mPo} {d : Nat} {I : Nat → Nat → Int32} {L : Nat → Nat → Int64} {T : ct_S} {B : ct_B} {kd g pe : Nat} (hI : mIC I) (hO : pm_O T B kd g pe) (hC : pm_C T B kd g pe I) (hq : ∀ r I1, mFr mSQ2 I I1 → mIC I1 → r = an_alike T B kd g pe → kC (cdN True ((an_W T B kd g pe).1.1 < bt_U)) I I1 → Q (some (.int r)) (mSH, I1, L))   : mWP mTb_ mFT ro (d + 7, 88, 0, [some (.ref 0)], [], 0, 0, (mSH, I, L)) Q := by
  refine mB 1 (s2 := (d + 7, 88, 1, [some (.ref 0)], [.ref 0], 0, 0, (mSH, I, L))) rfl ?_
  refine mCall (s2 := (d + 6, 105, 0, [some (.ref 0)], [], 0, 0, (mSH, I, L))) rfl ?_
  refine mB 7 (s2 := (d + 6, 105, 13, [some (.ref 0)], [.int 0, .ref 8, .ref 6, .ref 10], 0, 0, (mSH, I, L))) rfl ?_
  refine mCall (s2 := (d + 5, 10, 0, [some (.ref 8), some (.int 0)], [], 0, 0, (mSH, I, L))) rfl ?_
  refine mB 2 (s2 := (d + 5, 10, 2, [some (.ref 8), some (.int 0)], [.int 0, .ref 8], 0, 0, (mSH, I, L))) rfl ?_
  refine mCall (s2 := (d + 4, 8, 0, [some (.ref 8), some (.int 0)], [], 0, 0, (mSH, I, L))) rfl ?_
  refine mB 1 (s2 := (d + 4, 8, 1, [some (.ref 8), some (.int 0)], [.int 0], 0, 0, (mSH, I, L))) rfl ?_
  refine mBF (s3 := (d + 4, 8, 4, [some (.ref 8), some (.int 0)], [], 0, 0, (mSH, I, L))) rfl (by decide) ?_
  refine mB 4 (s2 := (d + 4, 8, 10, [some (.ref 8), some (.int 0)], [.int 3, .int 0], 0, 0, (mSH, I, L))) rfl ?_
  refine mBF (s3 := (d + 4, 8, 13, [some (.ref 8), some (.int 0)], [], 0, 0, (mSH, I, L))) rfl (by decide) ?_
  refine mB 2 (s2 := (d + 4, 8, 18, [some (.ref 8), some (.int 0)], [.int 1], 0, 0, (mSH, I, L))) rfl ?_
  refine mRt (r := (some (.int 1))) (h := (mSH, I, L)) rfl rfl ?_
  show mWP mTb_ mFT ro (d + 5, 10, 5, [some (.ref 8), some (.int 0)], [.int 1], 0, 0, (mSH, I, L)) _
  refine mBF (s3 := (d + 5, 10, 8, [some (.ref 8), some (.int 0)], [], 0, 0, (mSH, I, L))) rfl (by decide) ?_
  refine mB 3 (s2 := (d + 5, 10, 13, [some (.ref 8), some (.int 0)], [.int 0, .ref 9], 0, 0, (mSH, I, L))) rfl ?_
  refine mRq (s2 := (d + 5, 10, 14, [some (.ref 8), some (.int 0)], [.int (I 9 0)], 0, 0, (mSH, I, L))) rfl (by decide) ?_
  refine mB 1 (s2 := (d + 5, 10, 18, [some (.ref 8), some (.int 0)], [.int (I 9 0)], 0, 0, (mSH, I, L))) rfl ?_
  refine mRt (r := (some (.int (I 9 0)))) (h := (mSH, I, L)) rfl (mRet_int rfl) ?_
  show mWP mTb_ mFT ro (d + 6, 105, 16, [some (.ref 0)], [.int (I 9 0), .ref 6, .ref 10], 0, 0, (mSH, I, L)) _
  refine mCall (s2 := (d + 5, 52, 0, [some (.ref 10), some (.ref 6), some (.int (I 9 0)), none, none, none], [], 0, 0, (mSH, I, L))) rfl ?_
  refine x_fillv_6 (k2 := kd) hC.2.2.2.2 hO.2.2.2 hO hC hI.2.2.2.2.2.2 (fun J fJ rJ wJ => ?_)
  show mWP mTb_ mFT ro (d + 6, 105, 19, [some (.ref 0)], [], 0, 0, (mSH, J, L)) _
  refine mRt (r := none) (h := (mSH, J, L)) rfl rfl ?_
  show mWP mTb_ mFT ro (d + 7, 88, 4, [some (.ref 0)], [], 0, 0, (mSH, J, L)) _
  refine mB 2 (s2 := (d + 7, 88, 8, [some (.ref 0)], [.ref 10], 0, 0, (mSH, J, L))) rfl ?_
  refine mCall (s2 := (d + 6, 61, 0, [some (.ref 10)], [], 0, 0, (mSH, J, L))) rfl ?_
  refine mB 2 (s2 := (d + 6, 61, 4, [some (.ref 10)], [.int 153, .ref 10], 0, 0, (mSH, J, L))) rfl ?_
  refine mCall (s2 := (d + 5, 60, 0, [some (.ref 10), some (.int 153)], [], 0, 0, (mSH, J, L))) rfl ?_
  refine mB 3 (s2 := (d + 5, 60, 5, [some (.ref 10), some (.int 153)], [.int 0, .ref 11], 0, 0, (mSH, J, L))) rfl ?_
  refine mRq (s2 := (d + 5, 60, 6, [some (.ref 10), some (.int 153)], [.ref 12], 0, 0, (mSH, J, L))) rfl (by decide) ?_
  refine mB 1 (s2 := (d + 5, 60, 7, [some (.ref 10), some (.int 153)], [.int 153, .ref 12], 0, 0, (mSH, J, L))) rfl ?_
  refine mRq (s2 := (d + 5, 60, 8, [some (.ref 10), some (.int 153)], [.int (J 12 153)], 0, 0, (mSH, J, L))) rfl (by decide) ?_
  refine mB 1 (s2 := (d + 5, 60, 10, [some (.ref 10), some (.int 153)], [.int 1000000000, .int (J 12 153)], 0, 0, (mSH, J, L))) rfl ?_
  refine mBr (s2 := (d + 5, 60, 13, [some (.ref 10), some (.int 153)], [], 0, 0, (mSH, J, L))) (s3 := (d + 5, 60, 17, [some (.ref 10), some (.int 153)], [], 0, 0, (mSH, J, L))) rfl (fun c0 => ?_) (fun c0 => ?_)
  · refine mB 2 (s2 := (d + 5, 60, 25, [some (.ref 10), some (.int 153)], [.int (-1)], 0, 0, (mSH, J, L))) rfl ?_
    refine mRt (r := (some (.int (-1)))) (h := (mSH, J, L)) rfl (mRet_int rfl) ?_
    show mWP mTb_ mFT ro (d + 6, 61, 7, [some (.ref 10)], [.int (-1)], 0, 0, (mSH, J, L)) _
    refine mRt (r := (some (.int (-1)))) (h := (mSH, J, L)) rfl (mRet_int rfl) ?_
    show mWP mTb_ mFT ro (d + 7, 88, 11, [some (.ref 0)], [.int (-1)], 0, 0, (mSH, J, L)) _
    refine mB 1 (s2 := (d + 7, 88, 12, [some (.ref 0)], [.int (-1), .int (-1)], 0, 0, (mSH, J, L))) rfl ?_
    refine mBT (s2 := (d + 7, 88, 15, [some (.ref 0)], [], 0, 0, (mSH, J, L))) rfl (by decide) ?_
    refine mB 2 (s2 := (d + 7, 88, 18, [some (.ref 0)], [.int (-3), .ref 0], 0, 0, (mSH, J, L))) rfl ?_
    refine mCall (s2 := (d + 6, 103, 0, [some (.ref 0), some (.int (-3))], [], 0, 0, (mSH, J, L))) rfl ?_
    refine mB 2 (s2 := (d + 6, 103, 3, [some (.ref 0), some (.int (-3))], [.int (-2), .int (-3)], 0, 0, (mSH, J, L))) rfl ?_
    refine mBF (s3 := (d + 6, 103, 19, [some (.ref 0), some (.int (-3))], [], 0, 0, (mSH, J, L))) rfl (by decide) ?_
    refine mB 2 (s2 := (d + 6, 103, 22, [some (.ref 0), some (.int (-3))], [.int (-3), .int (-3)], 0, 0, (mSH, J, L))) rfl ?_
    refine mBT (s2 := (d + 6, 103, 25, [some (.ref 0), some (.int (-3))], [], 0, 0, (mSH, J, L))) rfl (by decide) ?_
    refine mB 8 (s2 := (d + 6, 103, 49, [some (.ref 0), some (.int (-3))], [.int (-3)], 0, 0, (mSH, (mUp J 0 10 ((J 0 10) + 1)), L))) rfl ?_
    refine mRt (r := (some (.int (-3)))) (h := (mSH, (mUp J 0 10 ((J 0 10) + 1)), L)) rfl (mRet_int rfl) ?_
    show mWP mTb_ mFT ro (d + 7, 88, 21, [some (.ref 0)], [.int (-3)], 0, 0, (mSH, (mUp J 0 10 ((J 0 10) + 1)), L)) _
    refine mRt (r := (some (.int (-3)))) (h := (mSH, (mUp J 0 10 ((J 0 10) + 1)), L)) rfl (mRet_int rfl) ?_
    exact hq _ _ (mFr.up (by rfl) (mFr.sub (by decide) fJ)) (mIC.u0 (hI.ss fJ rJ)) (if_neg (an_nlt (an_ok hO).le1 wJ.n.1.1 (of_decide_eq_true c0))).symm (kc_2 trivial (an_nlt (an_ok hO).le1 wJ.n.1.1 (of_decide_eq_true c0)) (fJ 0 rfl))
  · refine mB 3 (s2 := (d + 5, 60, 22, [some (.ref 10), some (.int 153)], [.int 0, .ref 11], 0, 0, (mSH, J, L))) rfl ?_
    refine mRq (s2 := (d + 5, 60, 23, [some (.ref 10), some (.int 153)], [.ref 12], 0, 0, (mSH, J, L))) rfl (by decide) ?_
    refine mB 1 (s2 := (d + 5, 60, 24, [some (.ref 10), some (.int 153)], [.int 153, .ref 12], 0, 0, (mSH, J, L))) rfl ?_
    refine mRq (s2 := (d + 5, 60, 25, [some (.ref 10), some (.int 153)], [.int (J 12 153)], 0, 0, (mSH, J, L))) rfl (by decide) ?_
    refine mRt (r := (some (.int (J 12 153)))) (h := (mSH, J, L)) rfl (mRet_int rfl) ?_
    show mWP mTb_ mFT ro (d + 6, 61, 7, [some (.ref 10)], [.int (J 12 153)], 0, 0, (mSH, J, L)) _
    refine mRt (r := (some (.int (J 12 153)))) (h := (mSH, J, L)) rfl (mRet_int rfl) ?_
    show mWP mTb_ mFT ro (d + 7, 88, 11, [some (.ref 0)], [.int (J 12 153)], 0, 0, (mSH, J, L)) _
    refine mB 1 (s2 := (d + 7, 88, 12, [some (.ref 0)], [.int (-1), .int (J 12 153)], 0, 0, (mSH, J, L))) rfl ?_
    refine mBr (s2 := (d + 7, 88, 15, [some (.ref 0)], [], 0, 0, (mSH, J, L))) (s3 := (d + 7, 88, 22, [some (.ref 0)], [], 0, 0, (mSH, J, L))) rfl (fun c1 => ?_) (fun c1 => ?_)
    · refine mB 2 (s2 := (d + 7, 88, 18, [some (.ref 0)], [.int (-3), .ref 0], 0, 0, (mSH, J, L))) rfl ?_
      refine mCall (s2 := (d + 6, 103, 0, [some (.ref 0), some (.int (-3))], [], 0, 0, (mSH, J, L))) rfl ?_
      refine mB 2 (s2 := (d + 6, 103, 3, [some (.ref 0), some (.int (-3))], [.int (-2), .int (-3)], 0, 0, (mSH, J, L))) rfl ?_
      refine mBF (s3 := (d + 6, 103, 19, [some (.ref 0), some (.int (-3))], [], 0, 0, (mSH, J, L))) rfl (by decide) ?_
      refine mB 2 (s2 := (d + 6, 103, 22, [some (.ref 0), some (.int (-3))], [.int (-3), .int (-3)], 0, 0, (mSH, J, L))) rfl ?_
      refine mBT (s2 := (d + 6, 103, 25, [some (.ref 0), some (.int (-3))], [], 0, 0, (mSH, J, L))) rfl (by decide) ?_
      refine mB 8 (s2 := (d + 6, 103, 49, [some (.ref 0), some (.int (-3))], [.int (-3)], 0, 0, (mSH, (mUp J 0 10 ((J 0 10) + 1)), L))) rfl ?_
      refine mRt (r := (some (.int (-3)))) (h := (mSH, (mUp J 0 10 ((J 0 10) + 1)), L)) rfl (mRet_int rfl) ?_
      show mWP mTb_ mFT ro (d + 7, 88, 21, [some (.ref 0)], [.int (-3)], 0, 0, (mSH, (mUp J 0 10 ((J 0 10) + 1)), L)) _
      refine mRt (r := (some (.int (-3)))) (h := (mSH, (mUp J 0 10 ((J 0 10) + 1)), L)) rfl (mRet_int rfl) ?_
      exact absurd (of_decide_eq_true c1) (an_m1 (an_ok hO).le1 wJ.n.1.1)
    · refine mB 3 (s2 := (d + 7, 88, 28, [some (.ref 0)], [.ref 10, .int 1000000000], 0, 0, (mSH, J, L))) rfl ?_
      refine mCall (s2 := (d + 6, 64, 0, [some (.ref 10)], [], 0, 0, (mSH, J, L))) rfl ?_
      refine mB 3 (s2 := (d + 6, 64, 7, [some (.ref 10)], [.int 153, .ref 21], 0, 0, (mSH, J, L))) rfl ?_
      refine mRq (s2 := (d + 6, 64, 8, [some (.ref 10)], [.int (J 21 153)], 0, 0, (mSH, J, L))) rfl (by decide) ?_
      refine mRt (r := (some (.int (J 21 153)))) (h := (mSH, J, L)) rfl (mRet_int rfl) ?_
      show mWP mTb_ mFT ro (d + 7, 88, 31, [some (.ref 0)], [.int (J 21 153), .int 1000000000], 0, 0, (mSH, J, L)) _
      refine mB 1 (s2 := (d + 7, 88, 34, [some (.ref 0)], [.int (if (J 21 153) < 1000000000 then (J 21 153) else 1000000000)], 0, 0, (mSH, J, L))) rfl ?_
      refine mRt (r := (some (.int (if (J 21 153) < 1000000000 then (J 21 153) else 1000000000)))) (h := (mSH, J, L)) rfl (mRet_int rfl) ?_
      exact hq _ _ (mFr.sub (by decide) fJ) (hI.ss fJ rJ) ((an_min (an_lw hO) wJ.n.2.2).trans (if_pos (an_lt (an_ok hO).le1 wJ.n.1.1 (of_decide_eq_false c0))).symm) (kc_0 trivial (an_lt (an_ok hO).le1 wJ.n.1.1 (of_decide_eq_false c0)) (fJ 0 rfl))
theorem z_from {ro : Nat → Nat × (Nat → Int32)} {Q : mPo} {d : Nat} {I : Nat → Nat → Int32} {L : Nat → Nat → Int64} {T : ct_S} {B : ct_B} {kd g pe : Nat} {v0 : Int32} (hI : mIC I) (hO : pm_O T B kd g pe) (hC : pm_C T B kd g pe I) (hq : ∀ r I1, mFr mSQ2 I I1 → mIC I1 → r = an_from T B kd g pe v0 → kC (cdN (an_fk T v0) True) I I1 → Q (some (.int r)) (mSH, I1, L))   : mWP mTb_ mFT ro (d + 7, 90, 0, [some (.ref 0), some (.int v0)], [], 0, 0, (mSH, I, L)) Q := by
  refine mB 4 (s2 := (d + 7, 90, 8, [some (.ref 0), some (.int v0)], [.int v0, .ref 2], 0, 0, (mSH, I, L))) rfl ?_
  refine mCall (s2 := (d + 6, 41, 0, [some (.ref 2), some (.int v0)], [], 0, 0, (mSH, I, L))) rfl ?_
  refine mB 1 (s2 := (d + 6, 41, 1, [some (.ref 2), some (.int v0)], [.int v0], 0, 0, (mSH, I, L))) rfl ?_
  refine mBr (s2 := (d + 6, 41, 16, [some (.ref 2), some (.int v0)], [], 0, 0, (mSH, I, L))) (s3 := (d + 6, 41, 4, [some (.ref 2), some (.int v0)], [], 0, 0, (mSH, I, L))) rfl (fun c0 => ?_) (fun c0 => ?_)
  · refine mB 1 (s2 := (d + 6, 41, 17, [some (.ref 2), some (.int v0)], [.int 0], 0, 0, (mSH, I, L))) rfl ?_
    refine mRt (r := (some (.int 0))) (h := (mSH, I, L)) rfl rfl ?_
    show mWP mTb_ mFT ro (d + 7, 90, 11, [some (.ref 0), some (.int v0)], [.int 0], 0, 0, (mSH, I, L)) _
    refine mBT (s2 := (d + 7, 90, 14, [some (.ref 0), some (.int v0)], [], 0, 0, (mSH, I, L))) rfl (by decide) ?_
    refine mB 2 (s2 := (d + 7, 90, 17, [some (.ref 0), some (.int v0)], [.int (-2), .ref 0], 0, 0, (mSH, I, L))) rfl ?_
    refine mCall (s2 := (d + 6, 103, 0, [some (.ref 0), some (.int (-2))], [], 0, 0, (mSH, I, L))) rfl ?_
    refine mB 2 (s2 := (d + 6, 103, 3, [some (.ref 0), some (.int (-2))], [.int (-2), .int (-2)], 0, 0, (mSH, I, L))) rfl ?_
    refine mBT (s2 := (d + 6, 103, 6, [some (.ref 0), some (.int (-2))], [], 0, 0, (mSH, I, L))) rfl (by decide) ?_
    refine mB 8 (s2 := (d + 6, 103, 49, [some (.ref 0), some (.int (-2))], [.int (-2)], 0, 0, (mSH, (mUp I 0 9 ((I 0 9) + 1)), L))) rfl ?_
    refine mRt (r := (some (.int (-2)))) (h := (mSH, (mUp I 0 9 ((I 0 9) + 1)), L)) rfl (mRet_int rfl) ?_
    show mWP mTb_ mFT ro (d + 7, 90, 20, [some (.ref 0), some (.int v0)], [.int (-2)], 0, 0, (mSH, (mUp I 0 9 ((I 0 9) + 1)), L)) _
    refine mRt (r := (some (.int (-2)))) (h := (mSH, (mUp I 0 9 ((I 0 9) + 1)), L)) rfl (mRet_int rfl) ?_
    exact hq _ _ (mFr.up (by rfl) mFr.rf) (mIC.u0 hI) (if_neg (c := an_fk T v0) (by have e1 := pm_ti hC.1.1 (by have := hO.1.1; omega); have e2 := pm_ti hC.1.2.1 (by have := hO.1.2.1; omega); have a0 := of_decide_eq_true c0; simp only [Int32.lt_iff_toInt_lt, Int32.le_iff_toInt_le, ← Int32.toInt_inj, mLi0, mLi1, mLi2, mLi3, mLi4, mLi5, mLi6, mLi7, mLi8, mLi9, mLi10, mLi16, mLi32, mLi48, mLi57, mLi59, mLi65, mLi90, mLi97, mLi99, mLi120, mLi122, mLi127, mLi1584, mLi999999, mLim] at a0 <;> omega)).symm (kc_1 (by have e1 := pm_ti hC.1.1 (by have := hO.1.1; omega); have e2 := pm_ti hC.1.2.1 (by have := hO.1.2.1; omega); have a0 := of_decide_eq_true c0; simp only [Int32.lt_iff_toInt_lt, Int32.le_iff_toInt_le, ← Int32.toInt_inj, mLi0, mLi1, mLi2, mLi3, mLi4, mLi5, mLi6, mLi7, mLi8, mLi9, mLi10, mLi16, mLi32, mLi48, mLi57, mLi59, mLi65, mLi90, mLi97, mLi99, mLi120, mLi122, mLi127, mLi1584, mLi999999, mLim] at a0 <;> omega) (by rfl))
  · refine mB 3 (s2 := (d + 6, 41, 9, [some (.ref 2), some (.int v0)], [.int (I 2 1), .int v0], 0, 0, (mSH, I, L))) rfl ?_
    refine mBr (s2 := (d + 6, 41, 16, [some (.ref 2), some (.int v0)], [], 0, 0, (mSH, I, L))) (s3 := (d + 6, 41, 12, [some (.ref 2), some (.int v0)], [], 0, 0, (mSH, I, L))) rfl (fun c1 => ?_) (fun c1 => ?_)
    · refine mB 1 (s2 := (d + 6, 41, 17, [some (.ref 2), some (.int v0)], [.int 0], 0, 0, (mSH, I, L))) rfl ?_
      refine mRt (r := (some (.int 0))) (h := (mSH, I, L)) rfl rfl ?_
      show mWP mTb_ mFT ro (d + 7, 90, 11, [some (.ref 0), some (.int v0)], [.int 0], 0, 0, (mSH, I, L)) _
      refine mBT (s2 := (d + 7, 90, 14, [some (.ref 0), some (.int v0)], [], 0, 0, (mSH, I, L))) rfl (by decide) ?_
      refine mB 2 (s2 := (d + 7, 90, 17, [some (.ref 0), some (.int v0)], [.int (-2), .ref 0], 0, 0, (mSH, I, L))) rfl ?_
      refine mCall (s2 := (d + 6, 103, 0, [some (.ref 0), some (.int (-2))], [], 0, 0, (mSH, I, L))) rfl ?_
      refine mB 2 (s2 := (d + 6, 103, 3, [some (.ref 0), some (.int (-2))], [.int (-2), .int (-2)], 0, 0, (mSH, I, L))) rfl ?_
      refine mBT (s2 := (d + 6, 103, 6, [some (.ref 0), some (.int (-2))], [], 0, 0, (mSH, I, L))) rfl (by decide) ?_
      refine mB 8 (s2 := (d + 6, 103, 49, [some (.ref 0), some (.int (-2))], [.int (-2)], 0, 0, (mSH, (mUp I 0 9 ((I 0 9) + 1)), L))) rfl ?_
      refine mRt (r := (some (.int (-2)))) (h := (mSH, (mUp I 0 9 ((I 0 9) + 1)), L)) rfl (mRet_int rfl) ?_
      show mWP mTb_ mFT ro (d + 7, 90, 20, [some (.ref 0), some (.int v0)], [.int (-2)], 0, 0, (mSH, (mUp I 0 9 ((I 0 9) + 1)), L)) _
      refine mRt (r := (some (.int (-2)))) (h := (mSH, (mUp I 0 9 ((I 0 9) + 1)), L)) rfl (mRet_int rfl) ?_
      exact hq _ _ (mFr.up (by rfl) mFr.rf) (mIC.u0 hI) (if_neg (c := an_fk T v0) (by have e1 := pm_ti hC.1.1 (by have := hO.1.1; omega); have e2 := pm_ti hC.1.2.1 (by have := hO.1.2.1; omega); have a0 := of_decide_eq_false c0; have a1 := of_decide_eq_true c1; simp only [Int32.lt_iff_toInt_lt, Int32.le_iff_toInt_le, ← Int32.toInt_inj, mLi0, mLi1, mLi2, mLi3, mLi4, mLi5, mLi6, mLi7, mLi8, mLi9, mLi10, mLi16, mLi32, mLi48, mLi57, mLi59, mLi65, mLi90, mLi97, mLi99, mLi120, mLi122, mLi127, mLi1584, mLi999999, mLim] at a0 a1 <;> omega)).symm (kc_1 (by have e1 := pm_ti hC.1.1 (by have := hO.1.1; omega); have e2 := pm_ti hC.1.2.1 (by have := hO.1.2.1; omega); have a0 := of_decide_eq_false c0; have a1 := of_decide_eq_true c1; simp only [Int32.lt_iff_toInt_lt, Int32.le_iff_toInt_le, ← Int32.toInt_inj, mLi0, mLi1, mLi2, mLi3, mLi4, mLi5, mLi6, mLi7, mLi8, mLi9, mLi10, mLi16, mLi32, mLi48, mLi57, mLi59, mLi65, mLi90, mLi97, mLi99, mLi120, mLi122, mLi127, mLi1584, mLi999999, mLim] at a0 a1 <;> omega) (by rfl))
    · refine mB 2 (s2 := (d + 6, 41, 17, [some (.ref 2), some (.int v0)], [.int 1], 0, 0, (mSH, I, L))) rfl ?_
      refine mRt (r := (some (.int 1))) (h := (mSH, I, L)) rfl rfl ?_
      show mWP mTb_ mFT ro (d + 7, 90, 11, [some (.ref 0), some (.int v0)], [.int 1], 0, 0, (mSH, I, L)) _
      refine mBF (s3 := (d + 7, 90, 21, [some (.ref 0), some (.int v0)], [], 0, 0, (mSH, I, L))) rfl (by decide) ?_
      refine mB 1 (s2 := (d + 7, 90, 22, [some (.ref 0), some (.int v0)], [.ref 0], 0, 0, (mSH, I, L))) rfl ?_
      refine mCall (s2 := (d + 6, 105, 0, [some (.ref 0)], [], 0, 0, (mSH, I, L))) rfl ?_
      refine mB 7 (s2 := (d + 6, 105, 13, [some (.ref 0)], [.int 0, .ref 8, .ref 6, .ref 10], 0, 0, (mSH, I, L))) rfl ?_
      refine mCall (s2 := (d + 5, 10, 0, [some (.ref 8), some (.int 0)], [], 0, 0, (mSH, I, L))) rfl ?_
      refine mB 2 (s2 := (d + 5, 10, 2, [some (.ref 8), some (.int 0)], [.int 0, .ref 8], 0, 0, (mSH, I, L))) rfl ?_
      refine mCall (s2 := (d + 4, 8, 0, [some (.ref 8), some (.int 0)], [], 0, 0, (mSH, I, L))) rfl ?_
      refine mB 1 (s2 := (d + 4, 8, 1, [some (.ref 8), some (.int 0)], [.int 0], 0, 0, (mSH, I, L))) rfl ?_
      refine mBF (s3 := (d + 4, 8, 4, [some (.ref 8), some (.int 0)], [], 0, 0, (mSH, I, L))) rfl (by decide) ?_
      refine mB 4 (s2 := (d + 4, 8, 10, [some (.ref 8), some (.int 0)], [.int 3, .int 0], 0, 0, (mSH, I, L))) rfl ?_
      refine mBF (s3 := (d + 4, 8, 13, [some (.ref 8), some (.int 0)], [], 0, 0, (mSH, I, L))) rfl (by decide) ?_
      refine mB 2 (s2 := (d + 4, 8, 18, [some (.ref 8), some (.int 0)], [.int 1], 0, 0, (mSH, I, L))) rfl ?_
      refine mRt (r := (some (.int 1))) (h := (mSH, I, L)) rfl rfl ?_
      show mWP mTb_ mFT ro (d + 5, 10, 5, [some (.ref 8), some (.int 0)], [.int 1], 0, 0, (mSH, I, L)) _
      refine mBF (s3 := (d + 5, 10, 8, [some (.ref 8), some (.int 0)], [], 0, 0, (mSH, I, L))) rfl (by decide) ?_
      refine mB 3 (s2 := (d + 5, 10, 13, [some (.ref 8), some (.int 0)], [.int 0, .ref 9], 0, 0, (mSH, I, L))) rfl ?_
      refine mRq (s2 := (d + 5, 10, 14, [some (.ref 8), some (.int 0)], [.int (I 9 0)], 0, 0, (mSH, I, L))) rfl (by decide) ?_
      refine mB 1 (s2 := (d + 5, 10, 18, [some (.ref 8), some (.int 0)], [.int (I 9 0)], 0, 0, (mSH, I, L))) rfl ?_
      refine mRt (r := (some (.int (I 9 0)))) (h := (mSH, I, L)) rfl (mRet_int rfl) ?_
      show mWP mTb_ mFT ro (d + 6, 105, 16, [some (.ref 0)], [.int (I 9 0), .ref 6, .ref 10], 0, 0, (mSH, I, L)) _
      refine mCall (s2 := (d + 5, 52, 0, [some (.ref 10), some (.ref 6), some (.int (I 9 0)), none, none, none], [], 0, 0, (mSH, I, L))) rfl ?_
      refine x_fillv_6 (k2 := kd) hC.2.2.2.2 hO.2.2.2 hO hC hI.2.2.2.2.2.2 (fun J fJ rJ wJ => ?_)
      show mWP mTb_ mFT ro (d + 6, 105, 19, [some (.ref 0)], [], 0, 0, (mSH, J, L)) _
      refine mRt (r := none) (h := (mSH, J, L)) rfl rfl ?_
      show mWP mTb_ mFT ro (d + 7, 90, 25, [some (.ref 0), some (.int v0)], [], 0, 0, (mSH, J, L)) _
      refine mB 3 (s2 := (d + 7, 90, 30, [some (.ref 0), some (.int v0)], [.int v0, .ref 10], 0, 0, (mSH, J, L))) rfl ?_
      refine mCall (s2 := (d + 6, 62, 0, [some (.ref 10), some (.int v0)], [], 0, 0, (mSH, J, L))) rfl ?_
      refine mB 3 (s2 := (d + 6, 62, 3, [some (.ref 10), some (.int v0)], [.int v0, .int 0, .ref 10], 0, 0, (mSH, J, L))) rfl ?_
      refine mCall (s2 := (d + 5, 59, 0, [some (.int 0), some (.int v0), none], [], 0, 0, (mSH, J, L))) rfl ?_
      refine mB 1 (s2 := (d + 5, 59, 1, [some (.int 0), some (.int v0), none], [.int 0], 0, 0, (mSH, J, L))) rfl ?_
      refine mBF (s3 := (d + 5, 59, 4, [some (.int 0), some (.int v0), none], [], 0, 0, (mSH, J, L))) rfl (by decide) ?_
      refine mB 2 (s2 := (d + 5, 59, 7, [some (.int 0), some (.int v0), none], [.int 8, .int 0], 0, 0, (mSH, J, L))) rfl ?_
      refine mBF (s3 := (d + 5, 59, 10, [some (.int 0), some (.int v0), none], [], 0, 0, (mSH, J, L))) rfl (by decide) ?_
      refine mB 1 (s2 := (d + 5, 59, 11, [some (.int 0), some (.int v0), none], [.int v0], 0, 0, (mSH, J, L))) rfl ?_
      refine mBF (c := decide (v0 < 0)) (s3 := (d + 5, 59, 14, [some (.int 0), some (.int v0), none], [], 0, 0, (mSH, J, L))) rfl (decide_eq_false (by have a0 := of_decide_eq_false c0; simp only [Int32.lt_iff_toInt_lt, Int32.le_iff_toInt_le, ← Int32.toInt_inj, mLi0, mLi1, mLi2, mLi3, mLi4, mLi5, mLi6, mLi7, mLi8, mLi9, mLi10, mLi16, mLi32, mLi48, mLi57, mLi59, mLi65, mLi90, mLi97, mLi99, mLi120, mLi122, mLi127, mLi1584, mLi999999, mLim] at a0 ⊢; omega)) ?_
      refine mB 2 (s2 := (d + 5, 59, 17, [some (.int 0), some (.int v0), none], [.int 16, .int v0], 0, 0, (mSH, J, L))) rfl ?_
      refine mBr (s2 := (d + 5, 59, 24, [some (.int 0), some (.int v0), none], [], 0, 0, (mSH, J, L))) (s3 := (d + 5, 59, 20, [some (.int 0), some (.int v0), none], [], 0, 0, (mSH, J, L))) rfl (fun c2 => ?_) (fun c2 => ?_)
      · refine mB 3 (s2 := (d + 5, 59, 27, [some (.int 0), some (.int v0), some (.int 0)], [.int 0], 0, 0, (mSH, J, L))) rfl ?_
        refine mBT (s2 := (d + 5, 59, 39, [some (.int 0), some (.int v0), some (.int 0)], [], 0, 0, (mSH, J, L))) rfl (by decide) ?_
        refine mB 1 (s2 := (d + 5, 59, 42, [some (.int 0), some (.int v0), some (.int 0)], [.int 153], 0, 0, (mSH, J, L))) rfl ?_
        refine mRt (r := (some (.int 153))) (h := (mSH, J, L)) rfl (mRet_int rfl) ?_
        show mWP mTb_ mFT ro (d + 6, 62, 6, [some (.ref 10), some (.int v0)], [.int 153, .ref 10], 0, 0, (mSH, J, L)) _
        refine mCall (s2 := (d + 5, 60, 0, [some (.ref 10), some (.int 153)], [], 0, 0, (mSH, J, L))) rfl ?_
        refine mB 3 (s2 := (d + 5, 60, 5, [some (.ref 10), some (.int 153)], [.int 0, .ref 11], 0, 0, (mSH, J, L))) rfl ?_
        refine mRq (s2 := (d + 5, 60, 6, [some (.ref 10), some (.int 153)], [.ref 12], 0, 0, (mSH, J, L))) rfl (by decide) ?_
        refine mB 1 (s2 := (d + 5, 60, 7, [some (.ref 10), some (.int 153)], [.int 153, .ref 12], 0, 0, (mSH, J, L))) rfl ?_
        refine mRq (s2 := (d + 5, 60, 8, [some (.ref 10), some (.int 153)], [.int (J 12 153)], 0, 0, (mSH, J, L))) rfl (by decide) ?_
        refine mB 1 (s2 := (d + 5, 60, 10, [some (.ref 10), some (.int 153)], [.int 1000000000, .int (J 12 153)], 0, 0, (mSH, J, L))) rfl ?_
        refine mBr (s2 := (d + 5, 60, 13, [some (.ref 10), some (.int 153)], [], 0, 0, (mSH, J, L))) (s3 := (d + 5, 60, 17, [some (.ref 10), some (.int 153)], [], 0, 0, (mSH, J, L))) rfl (fun c3 => ?_) (fun c3 => ?_)
        · refine mB 2 (s2 := (d + 5, 60, 25, [some (.ref 10), some (.int 153)], [.int (-1)], 0, 0, (mSH, J, L))) rfl ?_
          refine mRt (r := (some (.int (-1)))) (h := (mSH, J, L)) rfl (mRet_int rfl) ?_
          show mWP mTb_ mFT ro (d + 6, 62, 9, [some (.ref 10), some (.int v0)], [.int (-1)], 0, 0, (mSH, J, L)) _
          refine mRt (r := (some (.int (-1)))) (h := (mSH, J, L)) rfl (mRet_int rfl) ?_
          show mWP mTb_ mFT ro (d + 7, 90, 33, [some (.ref 0), some (.int v0)], [.int (-1)], 0, 0, (mSH, J, L)) _
          refine mRt (r := (some (.int (-1)))) (h := (mSH, J, L)) rfl (mRet_int rfl) ?_
          exact hq _ _ (mFr.sub (by decide) fJ) (hI.ss fJ rJ) (absurd (of_decide_eq_true c2) (an_fc hO hC.1.1 wJ (of_decide_eq_false c0) (of_decide_eq_false c1)).2.2.2) (kc_0 (by have e1 := pm_ti hC.1.1 (by have := hO.1.1; omega); have e2 := pm_ti hC.1.2.1 (by have := hO.1.2.1; omega); have a0 := of_decide_eq_false c0; have a1 := of_decide_eq_false c1; simp only [Int32.lt_iff_toInt_lt, Int32.le_iff_toInt_le, ← Int32.toInt_inj, mLi0, mLi1, mLi2, mLi3, mLi4, mLi5, mLi6, mLi7, mLi8, mLi9, mLi10, mLi16, mLi32, mLi48, mLi57, mLi59, mLi65, mLi90, mLi97, mLi99, mLi120, mLi122, mLi127, mLi1584, mLi999999, mLim] at a0 a1 <;> omega) trivial (fJ 0 rfl))
        · refine mB 3 (s2 := (d + 5, 60, 22, [some (.ref 10), some (.int 153)], [.int 0, .ref 11], 0, 0, (mSH, J, L))) rfl ?_
          refine mRq (s2 := (d + 5, 60, 23, [some (.ref 10), some (.int 153)], [.ref 12], 0, 0, (mSH, J, L))) rfl (by decide) ?_
          refine mB 1 (s2 := (d + 5, 60, 24, [some (.ref 10), some (.int 153)], [.int 153, .ref 12], 0, 0, (mSH, J, L))) rfl ?_
          refine mRq (s2 := (d + 5, 60, 25, [some (.ref 10), some (.int 153)], [.int (J 12 153)], 0, 0, (mSH, J, L))) rfl (by decide) ?_
          refine mRt (r := (some (.int (J 12 153)))) (h := (mSH, J, L)) rfl (mRet_int rfl) ?_
          show mWP mTb_ mFT ro (d + 6, 62, 9, [some (.ref 10), some (.int v0)], [.int (J 12 153)], 0, 0, (mSH, J, L)) _
          refine mRt (r := (some (.int (J 12 153)))) (h := (mSH, J, L)) rfl (mRet_int rfl) ?_
          show mWP mTb_ mFT ro (d + 7, 90, 33, [some (.ref 0), some (.int v0)], [.int (J 12 153)], 0, 0, (mSH, J, L)) _
          refine mRt (r := (some (.int (J 12 153)))) (h := (mSH, J, L)) rfl (mRet_int rfl) ?_
          exact hq _ _ (mFr.sub (by decide) fJ) (hI.ss fJ rJ) (absurd (of_decide_eq_true c2) (an_fc hO hC.1.1 wJ (of_decide_eq_false c0) (of_decide_eq_false c1)).2.2.2) (kc_0 (by have e1 := pm_ti hC.1.1 (by have := hO.1.1; omega); have e2 := pm_ti hC.1.2.1 (by have := hO.1.2.1; omega); have a0 := of_decide_eq_false c0; have a1 := of_decide_eq_false c1; simp only [Int32.lt_iff_toInt_lt, Int32.le_iff_toInt_le, ← Int32.toInt_inj, mLi0, mLi1, mLi2, mLi3, mLi4, mLi5, mLi6, mLi7, mLi8, mLi9, mLi10, mLi16, mLi32, mLi48, mLi57, mLi59, mLi65, mLi90, mLi97, mLi99, mLi120, mLi122, mLi127, mLi1584, mLi999999, mLim] at a0 a1 <;> omega) trivial (fJ 0 rfl))
      · refine mB 4 (s2 := (d + 5, 59, 27, [some (.int 0), some (.int v0), some (.int 1)], [.int 1], 0, 0, (mSH, J, L))) rfl ?_
        refine mBF (s3 := (d + 5, 59, 30, [some (.int 0), some (.int v0), some (.int 1)], [], 0, 0, (mSH, J, L))) rfl (by decide) ?_
        refine mB 6 (s2 := (d + 5, 59, 42, [some (.int 0), some (.int v0), some (.int 1)], [.int (0 + v0)], 0, 0, (mSH, J, L))) rfl ?_
        refine mRt (r := (some (.int (0 + v0)))) (h := (mSH, J, L)) rfl (mRet_int rfl) ?_
        show mWP mTb_ mFT ro (d + 6, 62, 6, [some (.ref 10), some (.int v0)], [.int (0 + v0), .ref 10], 0, 0, (mSH, J, L)) _
        refine mCall (s2 := (d + 5, 60, 0, [some (.ref 10), some (.int (0 + v0))], [], 0, 0, (mSH, J, L))) rfl ?_
        refine mB 3 (s2 := (d + 5, 60, 5, [some (.ref 10), some (.int (0 + v0))], [.int 0, .ref 11], 0, 0, (mSH, J, L))) rfl ?_
        refine mRq (s2 := (d + 5, 60, 6, [some (.ref 10), some (.int (0 + v0))], [.ref 12], 0, 0, (mSH, J, L))) rfl (by decide) ?_
        refine mB 1 (s2 := (d + 5, 60, 7, [some (.ref 10), some (.int (0 + v0))], [.int (0 + v0), .ref 12], 0, 0, (mSH, J, L))) rfl ?_
        refine mRq (s2 := (d + 5, 60, 8, [some (.ref 10), some (.int (0 + v0))], [.int (J 12 ((0 + v0).toNatClampNeg))], 0, 0, (mSH, J, L))) rfl (mVp_of (an_fc hO hC.1.1 wJ (of_decide_eq_false c0) (of_decide_eq_false c1)).2.2.1) ?_
        refine mB 1 (s2 := (d + 5, 60, 10, [some (.ref 10), some (.int (0 + v0))], [.int 1000000000, .int (J 12 ((0 + v0).toNatClampNeg))], 0, 0, (mSH, J, L))) rfl ?_
        refine mBr (s2 := (d + 5, 60, 13, [some (.ref 10), some (.int (0 + v0))], [], 0, 0, (mSH, J, L))) (s3 := (d + 5, 60, 17, [some (.ref 10), some (.int (0 + v0))], [], 0, 0, (mSH, J, L))) rfl (fun c3 => ?_) (fun c3 => ?_)
        · refine mB 2 (s2 := (d + 5, 60, 25, [some (.ref 10), some (.int (0 + v0))], [.int (-1)], 0, 0, (mSH, J, L))) rfl ?_
          refine mRt (r := (some (.int (-1)))) (h := (mSH, J, L)) rfl (mRet_int rfl) ?_
          show mWP mTb_ mFT ro (d + 6, 62, 9, [some (.ref 10), some (.int v0)], [.int (-1)], 0, 0, (mSH, J, L)) _
          refine mRt (r := (some (.int (-1)))) (h := (mSH, J, L)) rfl (mRet_int rfl) ?_
          show mWP mTb_ mFT ro (d + 7, 90, 33, [some (.ref 0), some (.int v0)], [.int (-1)], 0, 0, (mSH, J, L)) _
          refine mRt (r := (some (.int (-1)))) (h := (mSH, J, L)) rfl (mRet_int rfl) ?_
          exact hq _ _ (mFr.sub (by decide) fJ) (hI.ss fJ rJ) ((an_sn (an_fc hO hC.1.1 wJ (of_decide_eq_false c0) (of_decide_eq_false c1)).2.1 (an_fc hO hC.1.1 wJ (of_decide_eq_false c0) (of_decide_eq_false c1)).1 (of_decide_eq_true c3)).trans (if_pos (c := an_fk T v0) (by have e1 := pm_ti hC.1.1 (by have := hO.1.1; omega); have e2 := pm_ti hC.1.2.1 (by have := hO.1.2.1; omega); have a0 := of_decide_eq_false c0; have a1 := of_decide_eq_false c1; simp only [Int32.lt_iff_toInt_lt, Int32.le_iff_toInt_le, ← Int32.toInt_inj, mLi0, mLi1, mLi2, mLi3, mLi4, mLi5, mLi6, mLi7, mLi8, mLi9, mLi10, mLi16, mLi32, mLi48, mLi57, mLi59, mLi65, mLi90, mLi97, mLi99, mLi120, mLi122, mLi127, mLi1584, mLi999999, mLim] at a0 a1 <;> omega)).symm) (kc_0 (by have e1 := pm_ti hC.1.1 (by have := hO.1.1; omega); have e2 := pm_ti hC.1.2.1 (by have := hO.1.2.1; omega); have a0 := of_decide_eq_false c0; have a1 := of_decide_eq_false c1; simp only [Int32.lt_iff_toInt_lt, Int32.le_iff_toInt_le, ← Int32.toInt_inj, mLi0, mLi1, mLi2, mLi3, mLi4, mLi5, mLi6, mLi7, mLi8, mLi9, mLi10, mLi16, mLi32, mLi48, mLi57, mLi59, mLi65, mLi90, mLi97, mLi99, mLi120, mLi122, mLi127, mLi1584, mLi999999, mLim] at a0 a1 <;> omega) trivial (fJ 0 rfl))
        · refine mB 3 (s2 := (d + 5, 60, 22, [some (.ref 10), some (.int (0 + v0))], [.int 0, .ref 11], 0, 0, (mSH, J, L))) rfl ?_
          refine mRq (s2 := (d + 5, 60, 23, [some (.ref 10), some (.int (0 + v0))], [.ref 12], 0, 0, (mSH, J, L))) rfl (by decide) ?_
          refine mB 1 (s2 := (d + 5, 60, 24, [some (.ref 10), some (.int (0 + v0))], [.int (0 + v0), .ref 12], 0, 0, (mSH, J, L))) rfl ?_
          refine mRq (s2 := (d + 5, 60, 25, [some (.ref 10), some (.int (0 + v0))], [.int (J 12 ((0 + v0).toNatClampNeg))], 0, 0, (mSH, J, L))) rfl (mVp_of (an_fc hO hC.1.1 wJ (of_decide_eq_false c0) (of_decide_eq_false c1)).2.2.1) ?_
          refine mRt (r := (some (.int (J 12 ((0 + v0).toNatClampNeg))))) (h := (mSH, J, L)) rfl (mRet_int rfl) ?_
          show mWP mTb_ mFT ro (d + 6, 62, 9, [some (.ref 10), some (.int v0)], [.int (J 12 ((0 + v0).toNatClampNeg))], 0, 0, (mSH, J, L)) _
          refine mRt (r := (some (.int (J 12 ((0 + v0).toNatClampNeg))))) (h := (mSH, J, L)) rfl (mRet_int rfl) ?_
          show mWP mTb_ mFT ro (d + 7, 90, 33, [some (.ref 0), some (.int v0)], [.int (J 12 ((0 + v0).toNatClampNeg))], 0, 0, (mSH, J, L)) _
          refine mRt (r := (some (.int (J 12 ((0 + v0).toNatClampNeg))))) (h := (mSH, J, L)) rfl (mRet_int rfl) ?_
          exact hq _ _ (mFr.sub (by decide) fJ) (hI.ss fJ rJ) ((an_sy (an_fc hO hC.1.1 wJ (of_decide_eq_false c0) (of_decide_eq_false c1)).2.1 (an_fc hO hC.1.1 wJ (of_decide_eq_false c0) (of_decide_eq_false c1)).1 (of_decide_eq_false c3)).trans (if_pos (c := an_fk T v0) (by have e1 := pm_ti hC.1.1 (by have := hO.1.1; omega); have e2 := pm_ti hC.1.2.1 (by have := hO.1.2.1; omega); have a0 := of_decide_eq_false c0; have a1 := of_decide_eq_false c1; simp only [Int32.lt_iff_toInt_lt, Int32.le_iff_toInt_le, ← Int32.toInt_inj, mLi0, mLi1, mLi2, mLi3, mLi4, mLi5, mLi6, mLi7, mLi8, mLi9, mLi10, mLi16, mLi32, mLi48, mLi57, mLi59, mLi65, mLi90, mLi97, mLi99, mLi120, mLi122, mLi127, mLi1584, mLi999999, mLim] at a0 a1 <;> omega)).symm) (kc_0 (by have e1 := pm_ti hC.1.1 (by have := hO.1.1; omega); have e2 := pm_ti hC.1.2.1 (by have := hO.1.2.1; omega); have a0 := of_decide_eq_false c0; have a1 := of_decide_eq_false c1; simp only [Int32.lt_iff_toInt_lt, Int32.le_iff_toInt_le, ← Int32.toInt_inj, mLi0, mLi1, mLi2, mLi3, mLi4, mLi5, mLi6, mLi7, mLi8, mLi9, mLi10, mLi16, mLi32, mLi48, mLi57, mLi59, mLi65, mLi90, mLi97, mLi99, mLi120, mLi122, mLi127, mLi1584, mLi999999, mLim] at a0 a1 <;> omega) trivial (fJ 0 rfl))
theorem z_begins {ro : Nat → Nat × (Nat → Int32)} {Q : mPo} {d : Nat} {I : Nat → Nat → Int32} {L : Nat → Nat → Int64} {T : ct_S} {B : ct_B} {kd g pe : Nat} (hI : mIC I) (hO : pm_O T B kd g pe) (hC : pm_C T B kd g pe I) (hq : ∀ r I1, mFr mSQ2 I I1 → mIC I1 → r = bm_Bs (ct_cc T B kd g pe) T.1.2.1 T.1.1 → kC (cdN True True) I I1 → Q (some (.int r)) (mSH, I1, L))   : mWP mTb_ mFT ro (d + 7, 89, 0, [some (.ref 0), none, none], [], 0, 0, (mSH, I, L)) Q := by
  refine mB 1 (s2 := (d + 7, 89, 1, [some (.ref 0), none, none], [.ref 0], 0, 0, (mSH, I, L))) rfl ?_
  refine mCall (s2 := (d + 6, 105, 0, [some (.ref 0)], [], 0, 0, (mSH, I, L))) rfl ?_
  refine mB 7 (s2 := (d + 6, 105, 13, [some (.ref 0)], [.int 0, .ref 8, .ref 6, .ref 10], 0, 0, (mSH, I, L))) rfl ?_
  refine mCall (s2 := (d + 5, 10, 0, [some (.ref 8), some (.int 0)], [], 0, 0, (mSH, I, L))) rfl ?_
  refine mB 2 (s2 := (d + 5, 10, 2, [some (.ref 8), some (.int 0)], [.int 0, .ref 8], 0, 0, (mSH, I, L))) rfl ?_
  refine mCall (s2 := (d + 4, 8, 0, [some (.ref 8), some (.int 0)], [], 0, 0, (mSH, I, L))) rfl ?_
  refine mB 1 (s2 := (d + 4, 8, 1, [some (.ref 8), some (.int 0)], [.int 0], 0, 0, (mSH, I, L))) rfl ?_
  refine mBF (s3 := (d + 4, 8, 4, [some (.ref 8), some (.int 0)], [], 0, 0, (mSH, I, L))) rfl (by decide) ?_
  refine mB 4 (s2 := (d + 4, 8, 10, [some (.ref 8), some (.int 0)], [.int 3, .int 0], 0, 0, (mSH, I, L))) rfl ?_
  refine mBF (s3 := (d + 4, 8, 13, [some (.ref 8), some (.int 0)], [], 0, 0, (mSH, I, L))) rfl (by decide) ?_
  refine mB 2 (s2 := (d + 4, 8, 18, [some (.ref 8), some (.int 0)], [.int 1], 0, 0, (mSH, I, L))) rfl ?_
  refine mRt (r := (some (.int 1))) (h := (mSH, I, L)) rfl rfl ?_
  show mWP mTb_ mFT ro (d + 5, 10, 5, [some (.ref 8), some (.int 0)], [.int 1], 0, 0, (mSH, I, L)) _
  refine mBF (s3 := (d + 5, 10, 8, [some (.ref 8), some (.int 0)], [], 0, 0, (mSH, I, L))) rfl (by decide) ?_
  refine mB 3 (s2 := (d + 5, 10, 13, [some (.ref 8), some (.int 0)], [.int 0, .ref 9], 0, 0, (mSH, I, L))) rfl ?_
  refine mRq (s2 := (d + 5, 10, 14, [some (.ref 8), some (.int 0)], [.int (I 9 0)], 0, 0, (mSH, I, L))) rfl (by decide) ?_
  refine mB 1 (s2 := (d + 5, 10, 18, [some (.ref 8), some (.int 0)], [.int (I 9 0)], 0, 0, (mSH, I, L))) rfl ?_
  refine mRt (r := (some (.int (I 9 0)))) (h := (mSH, I, L)) rfl (mRet_int rfl) ?_
  show mWP mTb_ mFT ro (d + 6, 105, 16, [some (.ref 0)], [.int (I 9 0), .ref 6, .ref 10], 0, 0, (mSH, I, L)) _
  refine mCall (s2 := (d + 5, 52, 0, [some (.ref 10), some (.ref 6), some (.int (I 9 0)), none, none, none], [], 0, 0, (mSH, I, L))) rfl ?_
  refine x_fillv_6 (k2 := kd) hC.2.2.2.2 hO.2.2.2 hO hC hI.2.2.2.2.2.2 (fun J fJ rJ wJ => ?_)
  show mWP mTb_ mFT ro (d + 6, 105, 19, [some (.ref 0)], [], 0, 0, (mSH, J, L)) _
  refine mRt (r := none) (h := (mSH, J, L)) rfl rfl ?_
  show mWP mTb_ mFT ro (d + 7, 89, 4, [some (.ref 0), none, none], [], 0, 0, (mSH, J, L)) _
  refine mB 4 (s2 := (d + 7, 89, 8, [some (.ref 0), some (.int 0), some (.int 0)], [], 0, 0, (mSH, J, L))) rfl ?_
  (have z := l_bgx (ro := ro) (d := d) (Q := Q) (L := L) hO (by rw [fJ 2 rfl]; exact hC.1.1) wJ (hq _ _ (mFr.sub (by decide) fJ) (hI.ss fJ rJ) rfl (kc_0 trivial trivial (fJ 0 rfl))) T.1.1 0 (by omega); rw [show an_bg T B kd g pe 0 = 0 by unfold an_bg; split <;> rfl] at z; exact z)
theorem l_mlz {T : ct_S} {B : ct_B} {kd g pe : Nat} {v0 : Int32} {ro : Nat → Nat × (Nat → Int32)} {Q : mPo} {d : Nat} {I0 : Nat → Nat → Int32} {L : Nat → Nat → Int64} (hI : mIC I0) (hO : pm_O T B kd g pe) (hC : pm_C T B kd g pe I0) (hq : ∀ r I1, mFr mSQ2 I0 I1 → mIC I1 → r = an_mil T B g pe v0 → kC (if (an_ml T B g pe 4).2 < bt_U then 0 else 2) I0 I1 → Q (some (.int r)) (mSH, I1, L)) : ∀ (e k : Nat), k + e = 4 → ∀ (I : Nat → Nat → Int32) (a b : Int32) (o5 : Option Value), mFr mSS I0 I → mRk I → an_Mc (an_ml T B g pe k) a b → mWP mTb_ mFT ro (d + 7, 91, 21, [some (.ref 0), some (.int v0), some (.int (a)), some (.int (b)), some (.int (nI k)), o5], [], 0, 0, (mSH, I, L)) Q := by
  intro e
  induction e with
  | zero =>
    intro k he I a b o5 F R hc
    have ek : k = 4 := by omega
    subst ek
    have z : (4 : Int32) ≤ nI 4 := by decide
    have b1 := an_Mc1 hc
    refine s_mla (fun _ c => ?_) (fun _ c c2 => ?_) (fun _ c c2 => ?_) (fun c => absurd z c)
    · refine hq _ _ (mFr.up (by rfl) (mFr.sub (by decide) F)) (hI.ss F R).u0 ?_ (by rw [if_neg (b1.mp c)]; exact kC2 (F 0 rfl))
      unfold an_mil
      rw [if_neg (b1.mp c)]
    · refine hq _ _ (mFr.sub (by decide) F) (hI.ss F R) ?_ (by rw [if_pos (Decidable.of_not_not (mt b1.mpr c))]; exact kC0 (F 0 rfl))
      unfold an_mil
      have lt := Decidable.of_not_not (mt b1.mpr c)
      rcases hc with ⟨h1, _, _⟩ | ⟨_, h2, _⟩
      · omega
      · rw [if_pos lt, if_pos (by rw [c2]; rfl)]
        exact h2
    · refine hq _ _ (mFr.sub (by decide) F) (hI.ss F R) ?_ (by rw [if_pos (Decidable.of_not_not (mt b1.mpr c))]; exact kC0 (F 0 rfl))
      unfold an_mil
      have lt := Decidable.of_not_not (mt b1.mpr c)
      rcases hc with ⟨h1, _, _⟩ | ⟨_, _, h3⟩
      · omega
      · rw [if_pos lt, if_neg (c := v0.toInt = 0) (fun y => c2 (Int32.toInt_inj.mp y))]
        exact h3
  | succ e ih =>
    intro k he I a b o5 F R hc
    have z : ¬ (4 : Int32) ≤ nI k := nI_ge (b := 4) (by omega) (by omega)
    refine s_mla (fun c => absurd c z) (fun c => absurd c z) (fun c => absurd c z) (fun _ => ?_)
    refine mCall (s2 := (d + 6, 52, 0, [some (.ref 10), some (.ref 6), some (.int (nI k)), none, none, none], [], 0, 0, (mSH, I, L))) rfl ?_
    refine x_fillv_6 (k2 := k) rfl (by omega) hO (hC.fr F (by decide)) R (fun J fJ rJ wJ => ?_)
    show mWP mTb_ mFT ro (d + 7, 91, 40, [some (.ref 0), some (.int v0), some (.int (a)), some (.int (b)), some (.int (nI k)), o5], [], 0, 0, (mSH, J, L)) _
    have F2 : mFr mSS I0 J := fun c hc => (fJ c hc).trans (F c hc)
    have okk := (an_ok (pm_Ok hO (show k ≤ 3 by omega))).le1
    have oke := (an_mle hO k (by omega)).1
    have h12 : J 12 153 = nI (an_W T B k g pe).1.1 := wJ.n.1.1
    have b1 := an_Mc1 hc
    have keep : ¬ (an_W T B k g pe).1.1 < (an_ml T B g pe k).2 → ∀ o5, mWP mTb_ mFT ro (d + 7, 91, 21, [some (.ref 0), some (.int v0), some (.int (a)), some (.int (b)), some (.int (nI k + 1)), o5], [], 0, 0, (mSH, J, L)) Q := fun y o5 => by
      rw [nI_1]
      exact ih (k + 1) (by omega) J a b o5 F2 rJ (by rw [an_mlf y]; exact hc)
    have take : (an_W T B k g pe).1.1 < (an_ml T B g pe k).2 → ∀ o5, mWP mTb_ mFT ro (d + 7, 91, 21, [some (.ref 0), some (.int v0), some (.int (nI k)), some (.int (J 12 153)), some (.int (nI k + 1)), o5], [], 0, 0, (mSH, J, L)) Q := fun y o5 => by
      rw [nI_1]
      exact ih (k + 1) (by omega) J _ _ o5 F2 rJ (by rw [an_mlt y]; exact Or.inr ⟨by show (an_W T B k g pe).1.1 < bt_U; omega, rfl, h12⟩)
    refine s_mlb (fun c => keep (fun y => ?_) _) (fun _ c => absurd c (an_m1 okk h12)) (fun c _ c2 => take ?_ _) (fun c _ c2 c3 => keep (fun y => ?_) _) (fun c _ c2 c3 => take ?_ _)
    · have w := an_sn okk h12 c
      unfold an_s at w
      rw [if_pos (by omega)] at w
      exact an_n1 (by omega) w
    · have := an_lt okk h12 c
      have := b1.mp c2
      omega
    · rcases hc with ⟨h1, _, h3⟩ | ⟨h1, _, h3⟩
      · exact c2 h3
      · have U31 := bt_Ul
        rw [h12, h3, nI_leI (by omega) (by omega)] at c3
        omega
    · rcases hc with ⟨h1, _, h3⟩ | ⟨h1, _, h3⟩
      · exact absurd h3 c2
      · have U31 := bt_Ul
        rw [h12, h3, nI_leI (by omega) (by omega)] at c3
        omega

theorem z_mildest {ro : Nat → Nat × (Nat → Int32)} {Q : mPo} {d : Nat} {I : Nat → Nat → Int32} {L : Nat → Nat → Int64} {T : ct_S} {B : ct_B} {kd g pe : Nat} {v0 : Int32} (hI : mIC I) (hO : pm_O T B kd g pe) (hC : pm_C T B kd g pe I) (hq : ∀ r I1, mFr mSQ2 I I1 → mIC I1 → r = an_mildest T B g pe v0 → kC (cdN (kEi v0) ((an_ml T B g pe 4).2 < bt_U)) I I1 → Q (some (.int r)) (mSH, I1, L))   : mWP mTb_ mFT ro (d + 7, 91, 0, [some (.ref 0), some (.int v0), none, none, none, none], [], 0, 0, (mSH, I, L)) Q := by
  refine mB 1 (s2 := (d + 7, 91, 1, [some (.ref 0), some (.int v0), none, none, none, none], [.int v0], 0, 0, (mSH, I, L))) rfl ?_
  refine mCall (s2 := (d + 6, 108, 0, [some (.int v0)], [], 0, 0, (mSH, I, L))) rfl ?_
  refine mB 1 (s2 := (d + 6, 108, 1, [some (.int v0)], [.int v0], 0, 0, (mSH, I, L))) rfl ?_
  refine mBr (s2 := (d + 6, 108, 9, [some (.int v0)], [], 0, 0, (mSH, I, L))) (s3 := (d + 6, 108, 4, [some (.int v0)], [], 0, 0, (mSH, I, L))) rfl (fun c0 => ?_) (fun c0 => ?_)
  · refine mB 2 (s2 := (d + 6, 108, 14, [some (.int v0)], [.int 1], 0, 0, (mSH, I, L))) rfl ?_
    refine mRt (r := (some (.int 1))) (h := (mSH, I, L)) rfl rfl ?_
    show mWP mTb_ mFT ro (d + 7, 91, 4, [some (.ref 0), some (.int v0), none, none, none, none], [.int 1], 0, 0, (mSH, I, L)) _
    refine mBF (s3 := (d + 7, 91, 14, [some (.ref 0), some (.int v0), none, none, none, none], [], 0, 0, (mSH, I, L))) rfl (by decide) ?_
    refine mB 6 (s2 := (d + 7, 91, 21, [some (.ref 0), some (.int v0), some (.int (-1)), some (.int (-1)), some (.int 0), none], [], 0, 0, (mSH, I, L))) rfl ?_
    (have ek : an_mildest T B g pe v0 = an_mil T B g pe v0 := if_pos (c := kEi v0) (by have b0 : (v0).toInt = 0 := (by have z := of_decide_eq_true c0; rw [z]; rfl); omega); exact l_mlz hI hO hC (fun r I1 a b e k => hq r I1 a b (e.trans ek.symm) (by unfold cdN; rw [if_pos (show kEi v0 from (by have b0 : (v0).toInt = 0 := (by have z := of_decide_eq_true c0; rw [z]; rfl); omega))]; exact k)) 4 0 (by omega) I _ _ _ mFr.rf hI.2.2.2.2.2.2 (Or.inl ⟨rfl, rfl, rfl⟩))
  · refine mB 2 (s2 := (d + 6, 108, 6, [some (.int v0)], [.int 1, .int v0], 0, 0, (mSH, I, L))) rfl ?_
    refine mBr (s2 := (d + 6, 108, 9, [some (.int v0)], [], 0, 0, (mSH, I, L))) (s3 := (d + 6, 108, 13, [some (.int v0)], [], 0, 0, (mSH, I, L))) rfl (fun c1 => ?_) (fun c1 => ?_)
    · refine mB 2 (s2 := (d + 6, 108, 14, [some (.int v0)], [.int 1], 0, 0, (mSH, I, L))) rfl ?_
      refine mRt (r := (some (.int 1))) (h := (mSH, I, L)) rfl rfl ?_
      show mWP mTb_ mFT ro (d + 7, 91, 4, [some (.ref 0), some (.int v0), none, none, none, none], [.int 1], 0, 0, (mSH, I, L)) _
      refine mBF (s3 := (d + 7, 91, 14, [some (.ref 0), some (.int v0), none, none, none, none], [], 0, 0, (mSH, I, L))) rfl (by decide) ?_
      refine mB 6 (s2 := (d + 7, 91, 21, [some (.ref 0), some (.int v0), some (.int (-1)), some (.int (-1)), some (.int 0), none], [], 0, 0, (mSH, I, L))) rfl ?_
      (have ek : an_mildest T B g pe v0 = an_mil T B g pe v0 := if_pos (c := kEi v0) (by have b0 : (v0).toInt = 1 := (by have z := of_decide_eq_true c1; rw [z]; rfl); have a0 := of_decide_eq_false c0; simp only [Int32.lt_iff_toInt_lt, Int32.le_iff_toInt_le, ← Int32.toInt_inj, mLi0, mLi1, mLi2, mLi3, mLi4, mLi5, mLi6, mLi7, mLi8, mLi9, mLi10, mLi16, mLi32, mLi48, mLi57, mLi59, mLi65, mLi90, mLi97, mLi99, mLi120, mLi122, mLi127, mLi1584, mLi999999, mLim] at a0 <;> omega); exact l_mlz hI hO hC (fun r I1 a b e k => hq r I1 a b (e.trans ek.symm) (by unfold cdN; rw [if_pos (show kEi v0 from (by have b0 : (v0).toInt = 1 := (by have z := of_decide_eq_true c1; rw [z]; rfl); have a0 := of_decide_eq_false c0; simp only [Int32.lt_iff_toInt_lt, Int32.le_iff_toInt_le, ← Int32.toInt_inj, mLi0, mLi1, mLi2, mLi3, mLi4, mLi5, mLi6, mLi7, mLi8, mLi9, mLi10, mLi16, mLi32, mLi48, mLi57, mLi59, mLi65, mLi90, mLi97, mLi99, mLi120, mLi122, mLi127, mLi1584, mLi999999, mLim] at a0 <;> omega))]; exact k)) 4 0 (by omega) I _ _ _ mFr.rf hI.2.2.2.2.2.2 (Or.inl ⟨rfl, rfl, rfl⟩))
    · refine mB 1 (s2 := (d + 6, 108, 14, [some (.int v0)], [.int 0], 0, 0, (mSH, I, L))) rfl ?_
      refine mRt (r := (some (.int 0))) (h := (mSH, I, L)) rfl rfl ?_
      show mWP mTb_ mFT ro (d + 7, 91, 4, [some (.ref 0), some (.int v0), none, none, none, none], [.int 0], 0, 0, (mSH, I, L)) _
      refine mBT (s2 := (d + 7, 91, 7, [some (.ref 0), some (.int v0), none, none, none, none], [], 0, 0, (mSH, I, L))) rfl (by decide) ?_
      refine mB 2 (s2 := (d + 7, 91, 10, [some (.ref 0), some (.int v0), none, none, none, none], [.int (-2), .ref 0], 0, 0, (mSH, I, L))) rfl ?_
      refine mCall (s2 := (d + 6, 103, 0, [some (.ref 0), some (.int (-2))], [], 0, 0, (mSH, I, L))) rfl ?_
      refine mB 2 (s2 := (d + 6, 103, 3, [some (.ref 0), some (.int (-2))], [.int (-2), .int (-2)], 0, 0, (mSH, I, L))) rfl ?_
      refine mBT (s2 := (d + 6, 103, 6, [some (.ref 0), some (.int (-2))], [], 0, 0, (mSH, I, L))) rfl (by decide) ?_
      refine mB 8 (s2 := (d + 6, 103, 49, [some (.ref 0), some (.int (-2))], [.int (-2)], 0, 0, (mSH, (mUp I 0 9 ((I 0 9) + 1)), L))) rfl ?_
      refine mRt (r := (some (.int (-2)))) (h := (mSH, (mUp I 0 9 ((I 0 9) + 1)), L)) rfl (mRet_int rfl) ?_
      show mWP mTb_ mFT ro (d + 7, 91, 13, [some (.ref 0), some (.int v0), none, none, none, none], [.int (-2)], 0, 0, (mSH, (mUp I 0 9 ((I 0 9) + 1)), L)) _
      refine mRt (r := (some (.int (-2)))) (h := (mSH, (mUp I 0 9 ((I 0 9) + 1)), L)) rfl (mRet_int rfl) ?_
      exact hq _ _ (mFr.up (by rfl) mFr.rf) (mIC.u0 hI) (if_neg (c := kEi v0) (by have a0 := of_decide_eq_false c0; have a1 := of_decide_eq_false c1; simp only [Int32.lt_iff_toInt_lt, Int32.le_iff_toInt_le, ← Int32.toInt_inj, mLi0, mLi1, mLi2, mLi3, mLi4, mLi5, mLi6, mLi7, mLi8, mLi9, mLi10, mLi16, mLi32, mLi48, mLi57, mLi59, mLi65, mLi90, mLi97, mLi99, mLi120, mLi122, mLi127, mLi1584, mLi999999, mLim] at a0 a1 <;> omega)).symm (kc_1 (by have a0 := of_decide_eq_false c0; have a1 := of_decide_eq_false c1; simp only [Int32.lt_iff_toInt_lt, Int32.le_iff_toInt_le, ← Int32.toInt_inj, mLi0, mLi1, mLi2, mLi3, mLi4, mLi5, mLi6, mLi7, mLi8, mLi9, mLi10, mLi16, mLi32, mLi48, mLi57, mLi59, mLi65, mLi90, mLi97, mLi99, mLi120, mLi122, mLi127, mLi1584, mLi999999, mLim] at a0 a1 <;> omega) (by rfl))
theorem z_age {ro : Nat → Nat × (Nat → Int32)} {Q : mPo} {d : Nat} {I : Nat → Nat → Int32} {L : Nat → Nat → Int64} {T : ct_S} {B : ct_B} {kd g pe : Nat} {v0 : Int32} (hI : mIC I) (hO : pm_O T B kd g pe) (hC : pm_C T B kd g pe I) (hq : ∀ r I1, mFr mSQ I I1 → mIC I1 → r = an_age T B kd g pe v0 → cF (an_ageF T B kd g pe v0) I I1 → kC (cdN (an_k19 T v0) ((an_E T B kd g pe 0).1 < bt_U)) I I1 → Q (some (.int r)) (mSH, I1, L))   : mWP mTb_ mFT ro (d + 7, 93, 0, [some (.ref 0), some (.int v0)], [], 0, 0, (mSH, I, L)) Q := by
  refine mB 1 (s2 := (d + 7, 93, 1, [some (.ref 0), some (.int v0)], [.int v0], 0, 0, (mSH, I, L))) rfl ?_
  refine mBr (s2 := (d + 7, 93, 18, [some (.ref 0), some (.int v0)], [], 0, 0, (mSH, I, L))) (s3 := (d + 7, 93, 4, [some (.ref 0), some (.int v0)], [], 0, 0, (mSH, I, L))) rfl (fun c0 => ?_) (fun c0 => ?_)
  · refine mB 2 (s2 := (d + 7, 93, 21, [some (.ref 0), some (.int v0)], [.int (-2), .ref 0], 0, 0, (mSH, I, L))) rfl ?_
    refine mCall (s2 := (d + 6, 103, 0, [some (.ref 0), some (.int (-2))], [], 0, 0, (mSH, I, L))) rfl ?_
    refine mB 2 (s2 := (d + 6, 103, 3, [some (.ref 0), some (.int (-2))], [.int (-2), .int (-2)], 0, 0, (mSH, I, L))) rfl ?_
    refine mBT (s2 := (d + 6, 103, 6, [some (.ref 0), some (.int (-2))], [], 0, 0, (mSH, I, L))) rfl (by decide) ?_
    refine mB 8 (s2 := (d + 6, 103, 49, [some (.ref 0), some (.int (-2))], [.int (-2)], 0, 0, (mSH, (mUp I 0 9 ((I 0 9) + 1)), L))) rfl ?_
    refine mRt (r := (some (.int (-2)))) (h := (mSH, (mUp I 0 9 ((I 0 9) + 1)), L)) rfl (mRet_int rfl) ?_
    show mWP mTb_ mFT ro (d + 7, 93, 24, [some (.ref 0), some (.int v0)], [.int (-2)], 0, 0, (mSH, (mUp I 0 9 ((I 0 9) + 1)), L)) _
    refine mRt (r := (some (.int (-2)))) (h := (mSH, (mUp I 0 9 ((I 0 9) + 1)), L)) rfl (mRet_int rfl) ?_
    exact hq _ _ (mFr.up (by rfl) mFr.rf) (mIC.u0 hI) (if_neg (c := an_k19 T v0) (by have a0 := of_decide_eq_true c0; have e9 := nI_toInt (n := an_D T T.1.2.1) (by have := an_Db hO.1 T.1.2.1 (Nat.le_refl _); have := hO.1.2.1; omega); simp only [Int32.lt_iff_toInt_lt, Int32.le_iff_toInt_le, mLi0, e9] at a0 <;> omega)).symm (cF_n (if_neg (fun z => absurd z.1 (by have a0 := of_decide_eq_true c0; have e9 := nI_toInt (n := an_D T T.1.2.1) (by have := an_Db hO.1 T.1.2.1 (Nat.le_refl _); have := hO.1.2.1; omega); simp only [Int32.lt_iff_toInt_lt, Int32.le_iff_toInt_le, mLi0, e9] at a0 <;> omega))) rfl) (kc_1 (by have a0 := of_decide_eq_true c0; have e9 := nI_toInt (n := an_D T T.1.2.1) (by have := an_Db hO.1 T.1.2.1 (Nat.le_refl _); have := hO.1.2.1; omega); simp only [Int32.lt_iff_toInt_lt, Int32.le_iff_toInt_le, mLi0, e9] at a0 <;> omega) (by rfl))
  · refine mB 4 (s2 := (d + 7, 93, 12, [some (.ref 0), some (.int v0)], [.ref 4, .int v0], 0, 0, (mSH, I, L))) rfl ?_
    refine mCall (s2 := (d + 6, 48, 0, [some (.ref 4)], [], 0, 0, (mSH, I, L))) rfl ?_
    refine mB 3 (s2 := (d + 6, 48, 5, [some (.ref 4)], [.int (I 4 1), .ref 4], 0, 0, (mSH, I, L))) rfl ?_
    refine mCall (s2 := (d + 5, 47, 0, [some (.ref 4), some (.int (I 4 1)), none, none], [], 0, 0, (mSH, I, L))) rfl ?_
    refine x_t4 (j := T.1.2.1) hC.1.2.1 hO.1 hC.1 (Nat.le_refl _) ?_
    show mWP mTb_ mFT ro (d + 6, 48, 8, [some (.ref 4)], [.int (nI (an_D T T.1.2.1))], 0, 0, (mSH, I, L)) _
    refine mRt (r := (some (.int (nI (an_D T T.1.2.1))))) (h := (mSH, I, L)) rfl (mRet_int rfl) ?_
    show mWP mTb_ mFT ro (d + 7, 93, 15, [some (.ref 0), some (.int v0)], [.int (nI (an_D T T.1.2.1)), .int v0], 0, 0, (mSH, I, L)) _
    refine mBr (s2 := (d + 7, 93, 25, [some (.ref 0), some (.int v0)], [], 0, 0, (mSH, I, L))) (s3 := (d + 7, 93, 18, [some (.ref 0), some (.int v0)], [], 0, 0, (mSH, I, L))) rfl (fun c1 => ?_) (fun c1 => ?_)
    · refine mB 2 (s2 := (d + 7, 93, 27, [some (.ref 0), some (.int v0)], [.int 0, .ref 0], 0, 0, (mSH, I, L))) rfl ?_
      refine mCall (s2 := (d + 6, 106, 0, [some (.ref 0), some (.int 0)], [], 0, 0, (mSH, I, L))) rfl ?_
      refine x_finds hI hO hC (Or.inl rfl) ?_ ?_
      · intro hn K fK rK cK
        show mWP mTb_ mFT ro (d + 7, 93, 30, [some (.ref 0), some (.int v0)], [.int 0], 0, 0, (mSH, K, L)) _
        refine mBT (s2 := (d + 7, 93, 33, [some (.ref 0), some (.int v0)], [], 0, 0, (mSH, K, L))) rfl (by decide) ?_
        refine mB 2 (s2 := (d + 7, 93, 36, [some (.ref 0), some (.int v0)], [.int (-3), .ref 0], 0, 0, (mSH, K, L))) rfl ?_
        refine mCall (s2 := (d + 6, 103, 0, [some (.ref 0), some (.int (-3))], [], 0, 0, (mSH, K, L))) rfl ?_
        refine mB 2 (s2 := (d + 6, 103, 3, [some (.ref 0), some (.int (-3))], [.int (-2), .int (-3)], 0, 0, (mSH, K, L))) rfl ?_
        refine mBF (s3 := (d + 6, 103, 19, [some (.ref 0), some (.int (-3))], [], 0, 0, (mSH, K, L))) rfl (by decide) ?_
        refine mB 2 (s2 := (d + 6, 103, 22, [some (.ref 0), some (.int (-3))], [.int (-3), .int (-3)], 0, 0, (mSH, K, L))) rfl ?_
        refine mBT (s2 := (d + 6, 103, 25, [some (.ref 0), some (.int (-3))], [], 0, 0, (mSH, K, L))) rfl (by decide) ?_
        refine mB 8 (s2 := (d + 6, 103, 49, [some (.ref 0), some (.int (-3))], [.int (-3)], 0, 0, (mSH, (mUp K 0 10 ((K 0 10) + 1)), L))) rfl ?_
        refine mRt (r := (some (.int (-3)))) (h := (mSH, (mUp K 0 10 ((K 0 10) + 1)), L)) rfl (mRet_int rfl) ?_
        show mWP mTb_ mFT ro (d + 7, 93, 39, [some (.ref 0), some (.int v0)], [.int (-3)], 0, 0, (mSH, (mUp K 0 10 ((K 0 10) + 1)), L)) _
        refine mRt (r := (some (.int (-3)))) (h := (mSH, (mUp K 0 10 ((K 0 10) + 1)), L)) rfl (mRet_int rfl) ?_
        exact hq _ _ (mFr.up (by rfl) (mFr.sub (by decide) fK)) (mIC.u0 (hI.sx fK rK cK)) ((if_neg hn).symm.trans (if_pos (c := an_k19 T v0) (by have a0 := of_decide_eq_false c0; have a1 := of_decide_eq_true c1; have e9 := nI_toInt (n := an_D T T.1.2.1) (by have := an_Db hO.1 T.1.2.1 (Nat.le_refl _); have := hO.1.2.1; omega); simp only [Int32.lt_iff_toInt_lt, Int32.le_iff_toInt_le, mLi0, e9] at a0 a1 <;> omega)).symm) (cF_n (if_neg (fun z => hn z.2)) (fK 25 rfl)) (kc_2 (by have a0 := of_decide_eq_false c0; have a1 := of_decide_eq_true c1; have e9 := nI_toInt (n := an_D T T.1.2.1) (by have := an_Db hO.1 T.1.2.1 (Nat.le_refl _); have := hO.1.2.1; omega); simp only [Int32.lt_iff_toInt_lt, Int32.le_iff_toInt_le, mLi0, e9] at a0 a1 <;> omega) hn (fK 0 rfl))
      · intro hy K fK rK cK mK
        show mWP mTb_ mFT ro (d + 7, 93, 30, [some (.ref 0), some (.int v0)], [.int 1], 0, 0, (mSH, K, L)) _
        refine mBF (s3 := (d + 7, 93, 40, [some (.ref 0), some (.int v0)], [], 0, 0, (mSH, K, L))) rfl (by decide) ?_
        refine mB 5 (s2 := (d + 7, 93, 49, [some (.ref 0), some (.int v0)], [.ref 25, .int v0, .ref 22], 0, 0, (mSH, K, L))) rfl ?_
        refine mCall (s2 := (d + 6, 23, 0, [some (.ref 22), some (.int v0), some (.ref 25), none, none, none], [], 0, 0, (mSH, K, L))) rfl ?_
        have n0 := (an_v hO hy).2; obtain ⟨jj, ejj⟩ : ∃ jj, an_jd T v0.toInt.toNat = jj := ⟨_, rfl⟩; have jp := an_jd_p (T := T) (x := v0.toInt.toNat) n0; rw [ejj] at jp; have k19 : an_k19 T v0 := (by have a0 := of_decide_eq_false c0; have a1 := of_decide_eq_true c1; have e9 := nI_toInt (n := an_D T T.1.2.1) (by have := an_Db hO.1 T.1.2.1 (Nat.le_refl _); have := hO.1.2.1; omega); simp only [Int32.lt_iff_toInt_lt, Int32.le_iff_toInt_le, mLi0, e9] at a0 a1 <;> omega); refine x_tage (e := (an_E T B kd g pe 0)) hO.1 ((hC.fr fK (by decide)).1) mK (an_v hO hy).1 n0 (pm_n k19.1) (by have := k19.2; have := an_Db hO.1 T.1.2.1 (Nat.le_refl _); have := hO.1.2.1; omega) ejj jp.1 jp.2 ?_
        show mWP mTb_ mFT ro (d + 7, 93, 52, [some (.ref 0), some (.int v0)], [], 0, 0, (mSH, (mUp (mUp K 25 0 (nI (fr_a (an_ag T (an_E T B kd g pe 0) v0.toInt.toNat jj).1 (an_ag T (an_E T B kd g pe 0) v0.toInt.toNat jj).2))) 25 1 (nI (fr_b (an_ag T (an_E T B kd g pe 0) v0.toInt.toNat jj).1 (an_ag T (an_E T B kd g pe 0) v0.toInt.toNat jj).2))), L)) _
        refine mB 1 (s2 := (d + 7, 93, 53, [some (.ref 0), some (.int v0)], [.int 1], 0, 0, (mSH, (mUp (mUp K 25 0 (nI (fr_a (an_ag T (an_E T B kd g pe 0) v0.toInt.toNat jj).1 (an_ag T (an_E T B kd g pe 0) v0.toInt.toNat jj).2))) 25 1 (nI (fr_b (an_ag T (an_E T B kd g pe 0) v0.toInt.toNat jj).1 (an_ag T (an_E T B kd g pe 0) v0.toInt.toNat jj).2))), L))) rfl ?_
        refine mRt (r := (some (.int 1))) (h := (mSH, (mUp (mUp K 25 0 (nI (fr_a (an_ag T (an_E T B kd g pe 0) v0.toInt.toNat jj).1 (an_ag T (an_E T B kd g pe 0) v0.toInt.toNat jj).2))) 25 1 (nI (fr_b (an_ag T (an_E T B kd g pe 0) v0.toInt.toNat jj).1 (an_ag T (an_E T B kd g pe 0) v0.toInt.toNat jj).2))), L)) rfl (mRet_int rfl) ?_
        exact hq _ _ (mFr.up (by rfl) (mFr.up (by rfl) (mFr.sub (by decide) fK))) (mIC.u25 (mIC.u25 (hI.sx fK rK cK))) ((if_pos hy).symm.trans (if_pos (c := an_k19 T v0) (by have a0 := of_decide_eq_false c0; have a1 := of_decide_eq_true c1; have e9 := nI_toInt (n := an_D T T.1.2.1) (by have := an_Db hO.1 T.1.2.1 (Nat.le_refl _); have := hO.1.2.1; omega); simp only [Int32.lt_iff_toInt_lt, Int32.le_iff_toInt_le, mLi0, e9] at a0 a1 <;> omega)).symm) (cF_y (a := (an_ag T (an_E T B kd g pe 0) v0.toInt.toNat jj).1) (b := (an_ag T (an_E T B kd g pe 0) v0.toInt.toNat jj).2) (by unfold an_ageF; rw [if_pos ⟨k19, hy⟩, ejj]) rfl rfl) (kc_0 (by have a0 := of_decide_eq_false c0; have a1 := of_decide_eq_true c1; have e9 := nI_toInt (n := an_D T T.1.2.1) (by have := an_Db hO.1 T.1.2.1 (Nat.le_refl _); have := hO.1.2.1; omega); simp only [Int32.lt_iff_toInt_lt, Int32.le_iff_toInt_le, mLi0, e9] at a0 a1 <;> omega) hy (fK 0 rfl))
    · refine mB 2 (s2 := (d + 7, 93, 21, [some (.ref 0), some (.int v0)], [.int (-2), .ref 0], 0, 0, (mSH, I, L))) rfl ?_
      refine mCall (s2 := (d + 6, 103, 0, [some (.ref 0), some (.int (-2))], [], 0, 0, (mSH, I, L))) rfl ?_
      refine mB 2 (s2 := (d + 6, 103, 3, [some (.ref 0), some (.int (-2))], [.int (-2), .int (-2)], 0, 0, (mSH, I, L))) rfl ?_
      refine mBT (s2 := (d + 6, 103, 6, [some (.ref 0), some (.int (-2))], [], 0, 0, (mSH, I, L))) rfl (by decide) ?_
      refine mB 8 (s2 := (d + 6, 103, 49, [some (.ref 0), some (.int (-2))], [.int (-2)], 0, 0, (mSH, (mUp I 0 9 ((I 0 9) + 1)), L))) rfl ?_
      refine mRt (r := (some (.int (-2)))) (h := (mSH, (mUp I 0 9 ((I 0 9) + 1)), L)) rfl (mRet_int rfl) ?_
      show mWP mTb_ mFT ro (d + 7, 93, 24, [some (.ref 0), some (.int v0)], [.int (-2)], 0, 0, (mSH, (mUp I 0 9 ((I 0 9) + 1)), L)) _
      refine mRt (r := (some (.int (-2)))) (h := (mSH, (mUp I 0 9 ((I 0 9) + 1)), L)) rfl (mRet_int rfl) ?_
      exact hq _ _ (mFr.up (by rfl) mFr.rf) (mIC.u0 hI) (if_neg (c := an_k19 T v0) (by have a0 := of_decide_eq_false c0; have a1 := of_decide_eq_false c1; have e9 := nI_toInt (n := an_D T T.1.2.1) (by have := an_Db hO.1 T.1.2.1 (Nat.le_refl _); have := hO.1.2.1; omega); simp only [Int32.lt_iff_toInt_lt, Int32.le_iff_toInt_le, mLi0, e9] at a0 a1 <;> omega)).symm (cF_n (if_neg (fun z => absurd z.1 (by have a0 := of_decide_eq_false c0; have a1 := of_decide_eq_false c1; have e9 := nI_toInt (n := an_D T T.1.2.1) (by have := an_Db hO.1 T.1.2.1 (Nat.le_refl _); have := hO.1.2.1; omega); simp only [Int32.lt_iff_toInt_lt, Int32.le_iff_toInt_le, mLi0, e9] at a0 a1 <;> omega))) rfl) (kc_1 (by have a0 := of_decide_eq_false c0; have a1 := of_decide_eq_false c1; have e9 := nI_toInt (n := an_D T T.1.2.1) (by have := an_Db hO.1 T.1.2.1 (Nat.le_refl _); have := hO.1.2.1; omega); simp only [Int32.lt_iff_toInt_lt, Int32.le_iff_toInt_le, mLi0, e9] at a0 a1 <;> omega) (by rfl))
theorem z_depth {ro : Nat → Nat × (Nat → Int32)} {Q : mPo} {d : Nat} {I : Nat → Nat → Int32} {L : Nat → Nat → Int64} {T : ct_S} {B : ct_B} {kd g pe : Nat} {v0 : Int32} (hI : mIC I) (hO : pm_O T B kd g pe) (hC : pm_C T B kd g pe I) (hq : ∀ r I1, mFr mSQ I I1 → mIC I1 → r = an_depth T B kd g pe v0 → cF (an_depthF T B kd g pe v0) I I1 → kC (cdN (an_k20 v0) ((an_E T B kd g pe 0).1 < bt_U)) I I1 → Q (some (.int r)) (mSH, I1, L))   : mWP mTb_ mFT ro (d + 7, 94, 0, [some (.ref 0), some (.int v0)], [], 0, 0, (mSH, I, L)) Q := by
  refine mB 1 (s2 := (d + 7, 94, 1, [some (.ref 0), some (.int v0)], [.int v0], 0, 0, (mSH, I, L))) rfl ?_
  refine mBr (s2 := (d + 7, 94, 11, [some (.ref 0), some (.int v0)], [], 0, 0, (mSH, I, L))) (s3 := (d + 7, 94, 4, [some (.ref 0), some (.int v0)], [], 0, 0, (mSH, I, L))) rfl (fun c0 => ?_) (fun c0 => ?_)
  · refine mB 2 (s2 := (d + 7, 94, 14, [some (.ref 0), some (.int v0)], [.int (-2), .ref 0], 0, 0, (mSH, I, L))) rfl ?_
    refine mCall (s2 := (d + 6, 103, 0, [some (.ref 0), some (.int (-2))], [], 0, 0, (mSH, I, L))) rfl ?_
    refine mB 2 (s2 := (d + 6, 103, 3, [some (.ref 0), some (.int (-2))], [.int (-2), .int (-2)], 0, 0, (mSH, I, L))) rfl ?_
    refine mBT (s2 := (d + 6, 103, 6, [some (.ref 0), some (.int (-2))], [], 0, 0, (mSH, I, L))) rfl (by decide) ?_
    refine mB 8 (s2 := (d + 6, 103, 49, [some (.ref 0), some (.int (-2))], [.int (-2)], 0, 0, (mSH, (mUp I 0 9 ((I 0 9) + 1)), L))) rfl ?_
    refine mRt (r := (some (.int (-2)))) (h := (mSH, (mUp I 0 9 ((I 0 9) + 1)), L)) rfl (mRet_int rfl) ?_
    show mWP mTb_ mFT ro (d + 7, 94, 17, [some (.ref 0), some (.int v0)], [.int (-2)], 0, 0, (mSH, (mUp I 0 9 ((I 0 9) + 1)), L)) _
    refine mRt (r := (some (.int (-2)))) (h := (mSH, (mUp I 0 9 ((I 0 9) + 1)), L)) rfl (mRet_int rfl) ?_
    exact hq _ _ (mFr.up (by rfl) mFr.rf) (mIC.u0 hI) (if_neg (c := an_k20 v0) (by have a0 := of_decide_eq_true c0; simp only [Int32.lt_iff_toInt_lt, mLi0] at a0 <;> omega)).symm (cF_n (if_neg (fun z => absurd z.1 (by have a0 := of_decide_eq_true c0; simp only [Int32.lt_iff_toInt_lt, mLi0] at a0 <;> omega))) rfl) (kc_1 (by have a0 := of_decide_eq_true c0; simp only [Int32.lt_iff_toInt_lt, mLi0] at a0 <;> omega) (by rfl))
  · refine mB 2 (s2 := (d + 7, 94, 8, [some (.ref 0), some (.int v0)], [.int 1584, .int v0], 0, 0, (mSH, I, L))) rfl ?_
    refine mBr (s2 := (d + 7, 94, 18, [some (.ref 0), some (.int v0)], [], 0, 0, (mSH, I, L))) (s3 := (d + 7, 94, 11, [some (.ref 0), some (.int v0)], [], 0, 0, (mSH, I, L))) rfl (fun c1 => ?_) (fun c1 => ?_)
    · refine mB 2 (s2 := (d + 7, 94, 20, [some (.ref 0), some (.int v0)], [.int 0, .ref 0], 0, 0, (mSH, I, L))) rfl ?_
      refine mCall (s2 := (d + 6, 106, 0, [some (.ref 0), some (.int 0)], [], 0, 0, (mSH, I, L))) rfl ?_
      refine x_finds hI hO hC (Or.inl rfl) ?_ ?_
      · intro hn K fK rK cK
        show mWP mTb_ mFT ro (d + 7, 94, 23, [some (.ref 0), some (.int v0)], [.int 0], 0, 0, (mSH, K, L)) _
        refine mBT (s2 := (d + 7, 94, 26, [some (.ref 0), some (.int v0)], [], 0, 0, (mSH, K, L))) rfl (by decide) ?_
        refine mB 2 (s2 := (d + 7, 94, 29, [some (.ref 0), some (.int v0)], [.int (-3), .ref 0], 0, 0, (mSH, K, L))) rfl ?_
        refine mCall (s2 := (d + 6, 103, 0, [some (.ref 0), some (.int (-3))], [], 0, 0, (mSH, K, L))) rfl ?_
        refine mB 2 (s2 := (d + 6, 103, 3, [some (.ref 0), some (.int (-3))], [.int (-2), .int (-3)], 0, 0, (mSH, K, L))) rfl ?_
        refine mBF (s3 := (d + 6, 103, 19, [some (.ref 0), some (.int (-3))], [], 0, 0, (mSH, K, L))) rfl (by decide) ?_
        refine mB 2 (s2 := (d + 6, 103, 22, [some (.ref 0), some (.int (-3))], [.int (-3), .int (-3)], 0, 0, (mSH, K, L))) rfl ?_
        refine mBT (s2 := (d + 6, 103, 25, [some (.ref 0), some (.int (-3))], [], 0, 0, (mSH, K, L))) rfl (by decide) ?_
        refine mB 8 (s2 := (d + 6, 103, 49, [some (.ref 0), some (.int (-3))], [.int (-3)], 0, 0, (mSH, (mUp K 0 10 ((K 0 10) + 1)), L))) rfl ?_
        refine mRt (r := (some (.int (-3)))) (h := (mSH, (mUp K 0 10 ((K 0 10) + 1)), L)) rfl (mRet_int rfl) ?_
        show mWP mTb_ mFT ro (d + 7, 94, 32, [some (.ref 0), some (.int v0)], [.int (-3)], 0, 0, (mSH, (mUp K 0 10 ((K 0 10) + 1)), L)) _
        refine mRt (r := (some (.int (-3)))) (h := (mSH, (mUp K 0 10 ((K 0 10) + 1)), L)) rfl (mRet_int rfl) ?_
        exact hq _ _ (mFr.up (by rfl) (mFr.sub (by decide) fK)) (mIC.u0 (hI.sx fK rK cK)) ((if_neg hn).symm.trans (if_pos (c := an_k20 v0) (by have a0 := of_decide_eq_false c0; have a1 := of_decide_eq_true c1; simp only [Int32.lt_iff_toInt_lt, Int32.le_iff_toInt_le, mLi0, mLi1584] at a0 a1 <;> omega)).symm) (cF_n (if_neg (fun z => hn z.2.1)) (fK 25 rfl)) (kc_2 (by have a0 := of_decide_eq_false c0; have a1 := of_decide_eq_true c1; simp only [Int32.lt_iff_toInt_lt, Int32.le_iff_toInt_le, mLi0, mLi1584] at a0 a1 <;> omega) hn (fK 0 rfl))
      · intro hy K fK rK cK mK
        show mWP mTb_ mFT ro (d + 7, 94, 23, [some (.ref 0), some (.int v0)], [.int 1], 0, 0, (mSH, K, L)) _
        refine mBF (s3 := (d + 7, 94, 33, [some (.ref 0), some (.int v0)], [], 0, 0, (mSH, K, L))) rfl (by decide) ?_
        refine mB 3 (s2 := (d + 7, 94, 38, [some (.ref 0), some (.int v0)], [.ref 22, .int v0], 0, 0, (mSH, K, L))) rfl ?_
        refine mCall (s2 := (d + 6, 18, 0, [some (.ref 22)], [], 0, 0, (mSH, K, L))) rfl ?_
        refine x_top (e := (an_E T B kd g pe 0)) hO.1 ((hC.fr fK (by decide)).1) mK (an_v hO hy).1 ?_
        show mWP mTb_ mFT ro (d + 7, 94, 41, [some (.ref 0), some (.int v0)], [.int (nI (an_A T (an_E T B kd g pe 0) 0)), .int v0], 0, 0, (mSH, K, L)) _
        refine mBr (s2 := (d + 7, 94, 55, [some (.ref 0), some (.int v0)], [], 0, 0, (mSH, K, L))) (s3 := (d + 7, 94, 44, [some (.ref 0), some (.int v0)], [], 0, 0, (mSH, K, L))) rfl (fun c2 => ?_) (fun c2 => ?_)
        · refine mB 1 (s2 := (d + 7, 94, 56, [some (.ref 0), some (.int v0)], [.int (-1)], 0, 0, (mSH, K, L))) rfl ?_
          refine mRt (r := (some (.int (-1)))) (h := (mSH, K, L)) rfl (mRet_int rfl) ?_
          exact hq _ _ (mFr.sub (by decide) fK) (hI.sx fK rK cK) (((if_neg (c := an_r20 T B kd g pe v0) (by have a0 := of_decide_eq_true c2; have e8 := nI_toInt (n := an_A T (an_E T B kd g pe 0) 0) (by have := (an_Ab hO.1 (an_v hO hy).1 (Nat.zero_le _)).2; omega); have e9 := nI_toInt (n := an_A T (an_E T B kd g pe 0) T.1.2.1) (by have := (an_Ab hO.1 (an_v hO hy).1 (Nat.le_refl _)).2; omega); simp only [Int32.lt_iff_toInt_lt, Int32.le_iff_toInt_le, e8, e9] at a0 <;> omega)).symm.trans (if_pos hy).symm).trans (if_pos (c := an_k20 v0) (by have a0 := of_decide_eq_false c0; have a1 := of_decide_eq_true c1; simp only [Int32.lt_iff_toInt_lt, Int32.le_iff_toInt_le, mLi0, mLi1584] at a0 a1 <;> omega)).symm) (cF_n (if_neg (fun z => absurd z.2.2 (by have a0 := of_decide_eq_true c2; have e8 := nI_toInt (n := an_A T (an_E T B kd g pe 0) 0) (by have := (an_Ab hO.1 (an_v hO hy).1 (Nat.zero_le _)).2; omega); have e9 := nI_toInt (n := an_A T (an_E T B kd g pe 0) T.1.2.1) (by have := (an_Ab hO.1 (an_v hO hy).1 (Nat.le_refl _)).2; omega); simp only [Int32.lt_iff_toInt_lt, Int32.le_iff_toInt_le, e8, e9] at a0 <;> omega))) (fK 25 rfl)) (kc_0 (by have a0 := of_decide_eq_false c0; have a1 := of_decide_eq_true c1; simp only [Int32.lt_iff_toInt_lt, Int32.le_iff_toInt_le, mLi0, mLi1584] at a0 a1 <;> omega) hy (fK 0 rfl))
        · refine mB 3 (s2 := (d + 7, 94, 49, [some (.ref 0), some (.int v0)], [.ref 22, .int v0], 0, 0, (mSH, K, L))) rfl ?_
          refine mCall (s2 := (d + 6, 19, 0, [some (.ref 22)], [], 0, 0, (mSH, K, L))) rfl ?_
          refine x_bot (e := (an_E T B kd g pe 0)) hO.1 ((hC.fr fK (by decide)).1) mK (an_v hO hy).1 ?_
          show mWP mTb_ mFT ro (d + 7, 94, 52, [some (.ref 0), some (.int v0)], [.int (nI (an_A T (an_E T B kd g pe 0) T.1.2.1)), .int v0], 0, 0, (mSH, K, L)) _
          refine mBr (s2 := (d + 7, 94, 57, [some (.ref 0), some (.int v0)], [], 0, 0, (mSH, K, L))) (s3 := (d + 7, 94, 55, [some (.ref 0), some (.int v0)], [], 0, 0, (mSH, K, L))) rfl (fun c3 => ?_) (fun c3 => ?_)
          · refine mB 5 (s2 := (d + 7, 94, 66, [some (.ref 0), some (.int v0)], [.ref 25, .int v0, .ref 22], 0, 0, (mSH, K, L))) rfl ?_
            refine mCall (s2 := (d + 6, 24, 0, [some (.ref 22), some (.int v0), some (.ref 25), none, none, none], [], 0, 0, (mSH, K, L))) rfl ?_
            have n0 := (an_v hO hy).2; have k20 : an_k20 v0 := (by have a0 := of_decide_eq_false c0; have a1 := of_decide_eq_true c1; simp only [Int32.lt_iff_toInt_lt, Int32.le_iff_toInt_le, mLi0, mLi1584] at a0 a1 <;> omega); have r20 : an_r20 T B kd g pe v0 := (by have a0 := of_decide_eq_false c2; have a1 := of_decide_eq_true c3; have e8 := nI_toInt (n := an_A T (an_E T B kd g pe 0) 0) (by have := (an_Ab hO.1 (an_v hO hy).1 (Nat.zero_le _)).2; omega); have e9 := nI_toInt (n := an_A T (an_E T B kd g pe 0) T.1.2.1) (by have := (an_Ab hO.1 (an_v hO hy).1 (Nat.le_refl _)).2; omega); simp only [Int32.lt_iff_toInt_lt, Int32.le_iff_toInt_le, e8, e9] at a0 a1 <;> omega); obtain ⟨jj, ejj⟩ : ∃ jj, an_jy T (an_E T B kd g pe 0) v0.toInt.toNat = jj := ⟨_, rfl⟩; have jp := an_jy_p (T := T) (e := (an_E T B kd g pe 0)) (x := v0.toInt.toNat) n0 (by have := r20.1; omega); rw [ejj] at jp; refine x_tdep (e := (an_E T B kd g pe 0)) hO.1 ((hC.fr fK (by decide)).1) mK (an_v hO hy).1 n0 (pm_n k20.1) (by have := k20.2; omega) ejj jp.1 jp.2 ?_
            show mWP mTb_ mFT ro (d + 7, 94, 69, [some (.ref 0), some (.int v0)], [], 0, 0, (mSH, (mUp (mUp K 25 0 (nI (fr_a (an_de T (an_E T B kd g pe 0) v0.toInt.toNat jj).1 (an_de T (an_E T B kd g pe 0) v0.toInt.toNat jj).2))) 25 1 (nI (fr_b (an_de T (an_E T B kd g pe 0) v0.toInt.toNat jj).1 (an_de T (an_E T B kd g pe 0) v0.toInt.toNat jj).2))), L)) _
            refine mB 1 (s2 := (d + 7, 94, 70, [some (.ref 0), some (.int v0)], [.int 1], 0, 0, (mSH, (mUp (mUp K 25 0 (nI (fr_a (an_de T (an_E T B kd g pe 0) v0.toInt.toNat jj).1 (an_de T (an_E T B kd g pe 0) v0.toInt.toNat jj).2))) 25 1 (nI (fr_b (an_de T (an_E T B kd g pe 0) v0.toInt.toNat jj).1 (an_de T (an_E T B kd g pe 0) v0.toInt.toNat jj).2))), L))) rfl ?_
            refine mRt (r := (some (.int 1))) (h := (mSH, (mUp (mUp K 25 0 (nI (fr_a (an_de T (an_E T B kd g pe 0) v0.toInt.toNat jj).1 (an_de T (an_E T B kd g pe 0) v0.toInt.toNat jj).2))) 25 1 (nI (fr_b (an_de T (an_E T B kd g pe 0) v0.toInt.toNat jj).1 (an_de T (an_E T B kd g pe 0) v0.toInt.toNat jj).2))), L)) rfl (mRet_int rfl) ?_
            exact hq _ _ (mFr.up (by rfl) (mFr.up (by rfl) (mFr.sub (by decide) fK))) (mIC.u25 (mIC.u25 (hI.sx fK rK cK))) (((if_pos (c := an_r20 T B kd g pe v0) r20).symm.trans (if_pos hy).symm).trans (if_pos (c := an_k20 v0) (by have a0 := of_decide_eq_false c0; have a1 := of_decide_eq_true c1; simp only [Int32.lt_iff_toInt_lt, Int32.le_iff_toInt_le, mLi0, mLi1584] at a0 a1 <;> omega)).symm) (cF_y (a := (an_de T (an_E T B kd g pe 0) v0.toInt.toNat jj).1) (b := (an_de T (an_E T B kd g pe 0) v0.toInt.toNat jj).2) (by unfold an_depthF; rw [if_pos ⟨k20, hy, r20⟩, ejj]) rfl rfl) (kc_0 (by have a0 := of_decide_eq_false c0; have a1 := of_decide_eq_true c1; simp only [Int32.lt_iff_toInt_lt, Int32.le_iff_toInt_le, mLi0, mLi1584] at a0 a1 <;> omega) hy (fK 0 rfl))
          · refine mB 1 (s2 := (d + 7, 94, 56, [some (.ref 0), some (.int v0)], [.int (-1)], 0, 0, (mSH, K, L))) rfl ?_
            refine mRt (r := (some (.int (-1)))) (h := (mSH, K, L)) rfl (mRet_int rfl) ?_
            exact hq _ _ (mFr.sub (by decide) fK) (hI.sx fK rK cK) (((if_neg (c := an_r20 T B kd g pe v0) (by have a0 := of_decide_eq_false c2; have a1 := of_decide_eq_false c3; have e8 := nI_toInt (n := an_A T (an_E T B kd g pe 0) 0) (by have := (an_Ab hO.1 (an_v hO hy).1 (Nat.zero_le _)).2; omega); have e9 := nI_toInt (n := an_A T (an_E T B kd g pe 0) T.1.2.1) (by have := (an_Ab hO.1 (an_v hO hy).1 (Nat.le_refl _)).2; omega); simp only [Int32.lt_iff_toInt_lt, Int32.le_iff_toInt_le, e8, e9] at a0 a1 <;> omega)).symm.trans (if_pos hy).symm).trans (if_pos (c := an_k20 v0) (by have a0 := of_decide_eq_false c0; have a1 := of_decide_eq_true c1; simp only [Int32.lt_iff_toInt_lt, Int32.le_iff_toInt_le, mLi0, mLi1584] at a0 a1 <;> omega)).symm) (cF_n (if_neg (fun z => absurd z.2.2 (by have a0 := of_decide_eq_false c2; have a1 := of_decide_eq_false c3; have e8 := nI_toInt (n := an_A T (an_E T B kd g pe 0) 0) (by have := (an_Ab hO.1 (an_v hO hy).1 (Nat.zero_le _)).2; omega); have e9 := nI_toInt (n := an_A T (an_E T B kd g pe 0) T.1.2.1) (by have := (an_Ab hO.1 (an_v hO hy).1 (Nat.le_refl _)).2; omega); simp only [Int32.lt_iff_toInt_lt, Int32.le_iff_toInt_le, e8, e9] at a0 a1 <;> omega))) (fK 25 rfl)) (kc_0 (by have a0 := of_decide_eq_false c0; have a1 := of_decide_eq_true c1; simp only [Int32.lt_iff_toInt_lt, Int32.le_iff_toInt_le, mLi0, mLi1584] at a0 a1 <;> omega) hy (fK 0 rfl))
    · refine mB 2 (s2 := (d + 7, 94, 14, [some (.ref 0), some (.int v0)], [.int (-2), .ref 0], 0, 0, (mSH, I, L))) rfl ?_
      refine mCall (s2 := (d + 6, 103, 0, [some (.ref 0), some (.int (-2))], [], 0, 0, (mSH, I, L))) rfl ?_
      refine mB 2 (s2 := (d + 6, 103, 3, [some (.ref 0), some (.int (-2))], [.int (-2), .int (-2)], 0, 0, (mSH, I, L))) rfl ?_
      refine mBT (s2 := (d + 6, 103, 6, [some (.ref 0), some (.int (-2))], [], 0, 0, (mSH, I, L))) rfl (by decide) ?_
      refine mB 8 (s2 := (d + 6, 103, 49, [some (.ref 0), some (.int (-2))], [.int (-2)], 0, 0, (mSH, (mUp I 0 9 ((I 0 9) + 1)), L))) rfl ?_
      refine mRt (r := (some (.int (-2)))) (h := (mSH, (mUp I 0 9 ((I 0 9) + 1)), L)) rfl (mRet_int rfl) ?_
      show mWP mTb_ mFT ro (d + 7, 94, 17, [some (.ref 0), some (.int v0)], [.int (-2)], 0, 0, (mSH, (mUp I 0 9 ((I 0 9) + 1)), L)) _
      refine mRt (r := (some (.int (-2)))) (h := (mSH, (mUp I 0 9 ((I 0 9) + 1)), L)) rfl (mRet_int rfl) ?_
      exact hq _ _ (mFr.up (by rfl) mFr.rf) (mIC.u0 hI) (if_neg (c := an_k20 v0) (by have a0 := of_decide_eq_false c0; have a1 := of_decide_eq_false c1; simp only [Int32.lt_iff_toInt_lt, Int32.le_iff_toInt_le, mLi0, mLi1584] at a0 a1 <;> omega)).symm (cF_n (if_neg (fun z => absurd z.1 (by have a0 := of_decide_eq_false c0; have a1 := of_decide_eq_false c1; simp only [Int32.lt_iff_toInt_lt, Int32.le_iff_toInt_le, mLi0, mLi1584] at a0 a1 <;> omega))) rfl) (kc_1 (by have a0 := of_decide_eq_false c0; have a1 := of_decide_eq_false c1; simp only [Int32.lt_iff_toInt_lt, Int32.le_iff_toInt_le, mLi0, mLi1584] at a0 a1 <;> omega) (by rfl))
theorem z_rate {ro : Nat → Nat × (Nat → Int32)} {Q : mPo} {d : Nat} {I : Nat → Nat → Int32} {L : Nat → Nat → Int64} {T : ct_S} {B : ct_B} {kd g pe : Nat} {v0 : Int32} (hI : mIC I) (hO : pm_O T B kd g pe) (hC : pm_C T B kd g pe I) (hq : ∀ r I1, mFr mSQ I I1 → mIC I1 → r = an_rate T B kd g pe v0 → cF (an_rateF T B kd g pe v0) I I1 → kC (cdN (an_k21 T v0) ((an_E T B kd g pe 0).1 < bt_U)) I I1 → Q (some (.int r)) (mSH, I1, L))   : mWP mTb_ mFT ro (d + 7, 95, 0, [some (.ref 0), some (.int v0)], [], 0, 0, (mSH, I, L)) Q := by
  refine mB 4 (s2 := (d + 7, 95, 8, [some (.ref 0), some (.int v0)], [.int v0, .ref 4], 0, 0, (mSH, I, L))) rfl ?_
  refine mCall (s2 := (d + 6, 41, 0, [some (.ref 4), some (.int v0)], [], 0, 0, (mSH, I, L))) rfl ?_
  refine mB 1 (s2 := (d + 6, 41, 1, [some (.ref 4), some (.int v0)], [.int v0], 0, 0, (mSH, I, L))) rfl ?_
  refine mBr (s2 := (d + 6, 41, 16, [some (.ref 4), some (.int v0)], [], 0, 0, (mSH, I, L))) (s3 := (d + 6, 41, 4, [some (.ref 4), some (.int v0)], [], 0, 0, (mSH, I, L))) rfl (fun c0 => ?_) (fun c0 => ?_)
  · refine mB 1 (s2 := (d + 6, 41, 17, [some (.ref 4), some (.int v0)], [.int 0], 0, 0, (mSH, I, L))) rfl ?_
    refine mRt (r := (some (.int 0))) (h := (mSH, I, L)) rfl rfl ?_
    show mWP mTb_ mFT ro (d + 7, 95, 11, [some (.ref 0), some (.int v0)], [.int 0], 0, 0, (mSH, I, L)) _
    refine mBT (s2 := (d + 7, 95, 14, [some (.ref 0), some (.int v0)], [], 0, 0, (mSH, I, L))) rfl (by decide) ?_
    refine mB 2 (s2 := (d + 7, 95, 17, [some (.ref 0), some (.int v0)], [.int (-2), .ref 0], 0, 0, (mSH, I, L))) rfl ?_
    refine mCall (s2 := (d + 6, 103, 0, [some (.ref 0), some (.int (-2))], [], 0, 0, (mSH, I, L))) rfl ?_
    refine mB 2 (s2 := (d + 6, 103, 3, [some (.ref 0), some (.int (-2))], [.int (-2), .int (-2)], 0, 0, (mSH, I, L))) rfl ?_
    refine mBT (s2 := (d + 6, 103, 6, [some (.ref 0), some (.int (-2))], [], 0, 0, (mSH, I, L))) rfl (by decide) ?_
    refine mB 8 (s2 := (d + 6, 103, 49, [some (.ref 0), some (.int (-2))], [.int (-2)], 0, 0, (mSH, (mUp I 0 9 ((I 0 9) + 1)), L))) rfl ?_
    refine mRt (r := (some (.int (-2)))) (h := (mSH, (mUp I 0 9 ((I 0 9) + 1)), L)) rfl (mRet_int rfl) ?_
    show mWP mTb_ mFT ro (d + 7, 95, 20, [some (.ref 0), some (.int v0)], [.int (-2)], 0, 0, (mSH, (mUp I 0 9 ((I 0 9) + 1)), L)) _
    refine mRt (r := (some (.int (-2)))) (h := (mSH, (mUp I 0 9 ((I 0 9) + 1)), L)) rfl (mRet_int rfl) ?_
    exact hq _ _ (mFr.up (by rfl) mFr.rf) (mIC.u0 hI) (if_neg (c := an_k21 T v0) (by have e1 := pm_ti hC.1.1 (by have := hO.1.1; omega); have e2 := pm_ti hC.1.2.1 (by have := hO.1.2.1; omega); have a0 := of_decide_eq_true c0; simp only [Int32.lt_iff_toInt_lt, Int32.le_iff_toInt_le, ← Int32.toInt_inj, mLi0, mLi1, mLi2, mLi3, mLi4, mLi5, mLi6, mLi7, mLi8, mLi9, mLi10, mLi16, mLi32, mLi48, mLi57, mLi59, mLi65, mLi90, mLi97, mLi99, mLi120, mLi122, mLi127, mLi1584, mLi999999, mLim] at a0 <;> omega)).symm (cF_n (if_neg (fun z => absurd z.1 (by have e1 := pm_ti hC.1.1 (by have := hO.1.1; omega); have e2 := pm_ti hC.1.2.1 (by have := hO.1.2.1; omega); have a0 := of_decide_eq_true c0; simp only [Int32.lt_iff_toInt_lt, Int32.le_iff_toInt_le, ← Int32.toInt_inj, mLi0, mLi1, mLi2, mLi3, mLi4, mLi5, mLi6, mLi7, mLi8, mLi9, mLi10, mLi16, mLi32, mLi48, mLi57, mLi59, mLi65, mLi90, mLi97, mLi99, mLi120, mLi122, mLi127, mLi1584, mLi999999, mLim] at a0 <;> omega))) rfl) (kc_1 (by have e1 := pm_ti hC.1.1 (by have := hO.1.1; omega); have e2 := pm_ti hC.1.2.1 (by have := hO.1.2.1; omega); have a0 := of_decide_eq_true c0; simp only [Int32.lt_iff_toInt_lt, Int32.le_iff_toInt_le, ← Int32.toInt_inj, mLi0, mLi1, mLi2, mLi3, mLi4, mLi5, mLi6, mLi7, mLi8, mLi9, mLi10, mLi16, mLi32, mLi48, mLi57, mLi59, mLi65, mLi90, mLi97, mLi99, mLi120, mLi122, mLi127, mLi1584, mLi999999, mLim] at a0 <;> omega) (by rfl))
  · refine mB 3 (s2 := (d + 6, 41, 9, [some (.ref 4), some (.int v0)], [.int (I 4 1), .int v0], 0, 0, (mSH, I, L))) rfl ?_
    refine mBr (s2 := (d + 6, 41, 16, [some (.ref 4), some (.int v0)], [], 0, 0, (mSH, I, L))) (s3 := (d + 6, 41, 12, [some (.ref 4), some (.int v0)], [], 0, 0, (mSH, I, L))) rfl (fun c1 => ?_) (fun c1 => ?_)
    · refine mB 1 (s2 := (d + 6, 41, 17, [some (.ref 4), some (.int v0)], [.int 0], 0, 0, (mSH, I, L))) rfl ?_
      refine mRt (r := (some (.int 0))) (h := (mSH, I, L)) rfl rfl ?_
      show mWP mTb_ mFT ro (d + 7, 95, 11, [some (.ref 0), some (.int v0)], [.int 0], 0, 0, (mSH, I, L)) _
      refine mBT (s2 := (d + 7, 95, 14, [some (.ref 0), some (.int v0)], [], 0, 0, (mSH, I, L))) rfl (by decide) ?_
      refine mB 2 (s2 := (d + 7, 95, 17, [some (.ref 0), some (.int v0)], [.int (-2), .ref 0], 0, 0, (mSH, I, L))) rfl ?_
      refine mCall (s2 := (d + 6, 103, 0, [some (.ref 0), some (.int (-2))], [], 0, 0, (mSH, I, L))) rfl ?_
      refine mB 2 (s2 := (d + 6, 103, 3, [some (.ref 0), some (.int (-2))], [.int (-2), .int (-2)], 0, 0, (mSH, I, L))) rfl ?_
      refine mBT (s2 := (d + 6, 103, 6, [some (.ref 0), some (.int (-2))], [], 0, 0, (mSH, I, L))) rfl (by decide) ?_
      refine mB 8 (s2 := (d + 6, 103, 49, [some (.ref 0), some (.int (-2))], [.int (-2)], 0, 0, (mSH, (mUp I 0 9 ((I 0 9) + 1)), L))) rfl ?_
      refine mRt (r := (some (.int (-2)))) (h := (mSH, (mUp I 0 9 ((I 0 9) + 1)), L)) rfl (mRet_int rfl) ?_
      show mWP mTb_ mFT ro (d + 7, 95, 20, [some (.ref 0), some (.int v0)], [.int (-2)], 0, 0, (mSH, (mUp I 0 9 ((I 0 9) + 1)), L)) _
      refine mRt (r := (some (.int (-2)))) (h := (mSH, (mUp I 0 9 ((I 0 9) + 1)), L)) rfl (mRet_int rfl) ?_
      exact hq _ _ (mFr.up (by rfl) mFr.rf) (mIC.u0 hI) (if_neg (c := an_k21 T v0) (by have e1 := pm_ti hC.1.1 (by have := hO.1.1; omega); have e2 := pm_ti hC.1.2.1 (by have := hO.1.2.1; omega); have a0 := of_decide_eq_false c0; have a1 := of_decide_eq_true c1; simp only [Int32.lt_iff_toInt_lt, Int32.le_iff_toInt_le, ← Int32.toInt_inj, mLi0, mLi1, mLi2, mLi3, mLi4, mLi5, mLi6, mLi7, mLi8, mLi9, mLi10, mLi16, mLi32, mLi48, mLi57, mLi59, mLi65, mLi90, mLi97, mLi99, mLi120, mLi122, mLi127, mLi1584, mLi999999, mLim] at a0 a1 <;> omega)).symm (cF_n (if_neg (fun z => absurd z.1 (by have e1 := pm_ti hC.1.1 (by have := hO.1.1; omega); have e2 := pm_ti hC.1.2.1 (by have := hO.1.2.1; omega); have a0 := of_decide_eq_false c0; have a1 := of_decide_eq_true c1; simp only [Int32.lt_iff_toInt_lt, Int32.le_iff_toInt_le, ← Int32.toInt_inj, mLi0, mLi1, mLi2, mLi3, mLi4, mLi5, mLi6, mLi7, mLi8, mLi9, mLi10, mLi16, mLi32, mLi48, mLi57, mLi59, mLi65, mLi90, mLi97, mLi99, mLi120, mLi122, mLi127, mLi1584, mLi999999, mLim] at a0 a1 <;> omega))) rfl) (kc_1 (by have e1 := pm_ti hC.1.1 (by have := hO.1.1; omega); have e2 := pm_ti hC.1.2.1 (by have := hO.1.2.1; omega); have a0 := of_decide_eq_false c0; have a1 := of_decide_eq_true c1; simp only [Int32.lt_iff_toInt_lt, Int32.le_iff_toInt_le, ← Int32.toInt_inj, mLi0, mLi1, mLi2, mLi3, mLi4, mLi5, mLi6, mLi7, mLi8, mLi9, mLi10, mLi16, mLi32, mLi48, mLi57, mLi59, mLi65, mLi90, mLi97, mLi99, mLi120, mLi122, mLi127, mLi1584, mLi999999, mLim] at a0 a1 <;> omega) (by rfl))
    · refine mB 2 (s2 := (d + 6, 41, 17, [some (.ref 4), some (.int v0)], [.int 1], 0, 0, (mSH, I, L))) rfl ?_
      refine mRt (r := (some (.int 1))) (h := (mSH, I, L)) rfl rfl ?_
      show mWP mTb_ mFT ro (d + 7, 95, 11, [some (.ref 0), some (.int v0)], [.int 1], 0, 0, (mSH, I, L)) _
      refine mBF (s3 := (d + 7, 95, 21, [some (.ref 0), some (.int v0)], [], 0, 0, (mSH, I, L))) rfl (by decide) ?_
      refine mB 2 (s2 := (d + 7, 95, 23, [some (.ref 0), some (.int v0)], [.int 0, .ref 0], 0, 0, (mSH, I, L))) rfl ?_
      refine mCall (s2 := (d + 6, 106, 0, [some (.ref 0), some (.int 0)], [], 0, 0, (mSH, I, L))) rfl ?_
      refine x_finds hI hO hC (Or.inl rfl) ?_ ?_
      · intro hn K fK rK cK
        show mWP mTb_ mFT ro (d + 7, 95, 26, [some (.ref 0), some (.int v0)], [.int 0], 0, 0, (mSH, K, L)) _
        refine mBT (s2 := (d + 7, 95, 29, [some (.ref 0), some (.int v0)], [], 0, 0, (mSH, K, L))) rfl (by decide) ?_
        refine mB 2 (s2 := (d + 7, 95, 32, [some (.ref 0), some (.int v0)], [.int (-3), .ref 0], 0, 0, (mSH, K, L))) rfl ?_
        refine mCall (s2 := (d + 6, 103, 0, [some (.ref 0), some (.int (-3))], [], 0, 0, (mSH, K, L))) rfl ?_
        refine mB 2 (s2 := (d + 6, 103, 3, [some (.ref 0), some (.int (-3))], [.int (-2), .int (-3)], 0, 0, (mSH, K, L))) rfl ?_
        refine mBF (s3 := (d + 6, 103, 19, [some (.ref 0), some (.int (-3))], [], 0, 0, (mSH, K, L))) rfl (by decide) ?_
        refine mB 2 (s2 := (d + 6, 103, 22, [some (.ref 0), some (.int (-3))], [.int (-3), .int (-3)], 0, 0, (mSH, K, L))) rfl ?_
        refine mBT (s2 := (d + 6, 103, 25, [some (.ref 0), some (.int (-3))], [], 0, 0, (mSH, K, L))) rfl (by decide) ?_
        refine mB 8 (s2 := (d + 6, 103, 49, [some (.ref 0), some (.int (-3))], [.int (-3)], 0, 0, (mSH, (mUp K 0 10 ((K 0 10) + 1)), L))) rfl ?_
        refine mRt (r := (some (.int (-3)))) (h := (mSH, (mUp K 0 10 ((K 0 10) + 1)), L)) rfl (mRet_int rfl) ?_
        show mWP mTb_ mFT ro (d + 7, 95, 35, [some (.ref 0), some (.int v0)], [.int (-3)], 0, 0, (mSH, (mUp K 0 10 ((K 0 10) + 1)), L)) _
        refine mRt (r := (some (.int (-3)))) (h := (mSH, (mUp K 0 10 ((K 0 10) + 1)), L)) rfl (mRet_int rfl) ?_
        exact hq _ _ (mFr.up (by rfl) (mFr.sub (by decide) fK)) (mIC.u0 (hI.sx fK rK cK)) ((if_neg hn).symm.trans (if_pos (c := an_k21 T v0) (by have e1 := pm_ti hC.1.1 (by have := hO.1.1; omega); have e2 := pm_ti hC.1.2.1 (by have := hO.1.2.1; omega); have a0 := of_decide_eq_false c0; have a1 := of_decide_eq_false c1; simp only [Int32.lt_iff_toInt_lt, Int32.le_iff_toInt_le, ← Int32.toInt_inj, mLi0, mLi1, mLi2, mLi3, mLi4, mLi5, mLi6, mLi7, mLi8, mLi9, mLi10, mLi16, mLi32, mLi48, mLi57, mLi59, mLi65, mLi90, mLi97, mLi99, mLi120, mLi122, mLi127, mLi1584, mLi999999, mLim] at a0 a1 <;> omega)).symm) (cF_n (if_neg (fun z => hn z.2)) (fK 25 rfl)) (kc_2 (by have e1 := pm_ti hC.1.1 (by have := hO.1.1; omega); have e2 := pm_ti hC.1.2.1 (by have := hO.1.2.1; omega); have a0 := of_decide_eq_false c0; have a1 := of_decide_eq_false c1; simp only [Int32.lt_iff_toInt_lt, Int32.le_iff_toInt_le, ← Int32.toInt_inj, mLi0, mLi1, mLi2, mLi3, mLi4, mLi5, mLi6, mLi7, mLi8, mLi9, mLi10, mLi16, mLi32, mLi48, mLi57, mLi59, mLi65, mLi90, mLi97, mLi99, mLi120, mLi122, mLi127, mLi1584, mLi999999, mLim] at a0 a1 <;> omega) hn (fK 0 rfl))
      · intro hy K fK rK cK mK
        show mWP mTb_ mFT ro (d + 7, 95, 26, [some (.ref 0), some (.int v0)], [.int 1], 0, 0, (mSH, K, L)) _
        refine mBF (s3 := (d + 7, 95, 36, [some (.ref 0), some (.int v0)], [], 0, 0, (mSH, K, L))) rfl (by decide) ?_
        refine mB 6 (s2 := (d + 7, 95, 48, [some (.ref 0), some (.int v0)], [.int v0, .ref 4, .ref 25], 0, 0, (mSH, K, L))) rfl ?_
        refine mCall (s2 := (d + 6, 42, 0, [some (.ref 4), some (.int v0)], [], 0, 0, (mSH, K, L))) rfl ?_
        have k21 : an_k21 T v0 := (by have e1 := pm_ti hC.1.1 (by have := hO.1.1; omega); have e2 := pm_ti hC.1.2.1 (by have := hO.1.2.1; omega); have a0 := of_decide_eq_false c0; have a1 := of_decide_eq_false c1; simp only [Int32.lt_iff_toInt_lt, Int32.le_iff_toInt_le, ← Int32.toInt_inj, mLi0, mLi1, mLi2, mLi3, mLi4, mLi5, mLi6, mLi7, mLi8, mLi9, mLi10, mLi16, mLi32, mLi48, mLi57, mLi59, mLi65, mLi90, mLi97, mLi99, mLi120, mLi122, mLi127, mLi1584, mLi999999, mLim] at a0 a1 <;> omega); have hj : v0.toInt.toNat < T.1.2.1 := (by have := k21.1; have := k21.2; omega); refine x_at4 (pm_n k21.1) hO.1 ((hC.fr fK (by decide)).1) hj ?_
        show mWP mTb_ mFT ro (d + 7, 95, 51, [some (.ref 0), some (.int v0)], [.int (nI (T.2.2 v0.toInt.toNat)), .ref 25], 0, 0, (mSH, K, L)) _
        refine mB 3 (s2 := (d + 7, 95, 56, [some (.ref 0), some (.int v0)], [.int v0, .ref 22, .int (nI (T.2.2 v0.toInt.toNat)), .ref 25], 0, 0, (mSH, K, L))) rfl ?_
        refine mCall (s2 := (d + 6, 17, 0, [some (.ref 22), some (.int v0)], [], 0, 0, (mSH, K, L))) rfl ?_
        refine x_yof (e := (an_E T B kd g pe 0)) hO.1 ((hC.fr fK (by decide)).1) mK (an_v hO hy).1 (pm_n k21.1) hj ?_
        show mWP mTb_ mFT ro (d + 7, 95, 59, [some (.ref 0), some (.int v0)], [.int (nI (an_Y T (an_E T B kd g pe 0) v0.toInt.toNat)), .int (nI (T.2.2 v0.toInt.toNat)), .ref 25], 0, 0, (mSH, K, L)) _
        refine mCall (s2 := (d + 6, 5, 0, [some (.ref 25), some (.int (nI (T.2.2 v0.toInt.toNat))), some (.int (nI (an_Y T (an_E T B kd g pe 0) v0.toInt.toNat))), none], [], 0, 0, (mSH, K, L))) rfl ?_
        have lb := hO.1.2.2.2.2 _ hj; have yb := (an_Yb hO.1 (an_v hO hy).1 hj).2; refine x_frac (a := T.2.2 v0.toInt.toNat) (b := an_Y T (an_E T B kd g pe 0) v0.toInt.toNat) rfl rfl (by omega) yb.1 (by omega) ?_
        show mWP mTb_ mFT ro (d + 7, 95, 62, [some (.ref 0), some (.int v0)], [], 0, 0, (mSH, (mUp (mUp K 25 0 (nI (fr_a ((T.2.2 v0.toInt.toNat, an_Y T (an_E T B kd g pe 0) v0.toInt.toNat)).1 ((T.2.2 v0.toInt.toNat, an_Y T (an_E T B kd g pe 0) v0.toInt.toNat)).2))) 25 1 (nI (fr_b ((T.2.2 v0.toInt.toNat, an_Y T (an_E T B kd g pe 0) v0.toInt.toNat)).1 ((T.2.2 v0.toInt.toNat, an_Y T (an_E T B kd g pe 0) v0.toInt.toNat)).2))), L)) _
        refine mB 1 (s2 := (d + 7, 95, 63, [some (.ref 0), some (.int v0)], [.int 1], 0, 0, (mSH, (mUp (mUp K 25 0 (nI (fr_a ((T.2.2 v0.toInt.toNat, an_Y T (an_E T B kd g pe 0) v0.toInt.toNat)).1 ((T.2.2 v0.toInt.toNat, an_Y T (an_E T B kd g pe 0) v0.toInt.toNat)).2))) 25 1 (nI (fr_b ((T.2.2 v0.toInt.toNat, an_Y T (an_E T B kd g pe 0) v0.toInt.toNat)).1 ((T.2.2 v0.toInt.toNat, an_Y T (an_E T B kd g pe 0) v0.toInt.toNat)).2))), L))) rfl ?_
        refine mRt (r := (some (.int 1))) (h := (mSH, (mUp (mUp K 25 0 (nI (fr_a ((T.2.2 v0.toInt.toNat, an_Y T (an_E T B kd g pe 0) v0.toInt.toNat)).1 ((T.2.2 v0.toInt.toNat, an_Y T (an_E T B kd g pe 0) v0.toInt.toNat)).2))) 25 1 (nI (fr_b ((T.2.2 v0.toInt.toNat, an_Y T (an_E T B kd g pe 0) v0.toInt.toNat)).1 ((T.2.2 v0.toInt.toNat, an_Y T (an_E T B kd g pe 0) v0.toInt.toNat)).2))), L)) rfl (mRet_int rfl) ?_
        exact hq _ _ (mFr.up (by rfl) (mFr.up (by rfl) (mFr.sub (by decide) fK))) (mIC.u25 (mIC.u25 (hI.sx fK rK cK))) ((if_pos hy).symm.trans (if_pos (c := an_k21 T v0) (by have e1 := pm_ti hC.1.1 (by have := hO.1.1; omega); have e2 := pm_ti hC.1.2.1 (by have := hO.1.2.1; omega); have a0 := of_decide_eq_false c0; have a1 := of_decide_eq_false c1; simp only [Int32.lt_iff_toInt_lt, Int32.le_iff_toInt_le, ← Int32.toInt_inj, mLi0, mLi1, mLi2, mLi3, mLi4, mLi5, mLi6, mLi7, mLi8, mLi9, mLi10, mLi16, mLi32, mLi48, mLi57, mLi59, mLi65, mLi90, mLi97, mLi99, mLi120, mLi122, mLi127, mLi1584, mLi999999, mLim] at a0 a1 <;> omega)).symm) (cF_y (a := ((T.2.2 v0.toInt.toNat, an_Y T (an_E T B kd g pe 0) v0.toInt.toNat)).1) (b := ((T.2.2 v0.toInt.toNat, an_Y T (an_E T B kd g pe 0) v0.toInt.toNat)).2) (by unfold an_rateF; rw [if_pos ⟨k21, hy⟩]) rfl rfl) (kc_0 (by have e1 := pm_ti hC.1.1 (by have := hO.1.1; omega); have e2 := pm_ti hC.1.2.1 (by have := hO.1.2.1; omega); have a0 := of_decide_eq_false c0; have a1 := of_decide_eq_false c1; simp only [Int32.lt_iff_toInt_lt, Int32.le_iff_toInt_le, ← Int32.toInt_inj, mLi0, mLi1, mLi2, mLi3, mLi4, mLi5, mLi6, mLi7, mLi8, mLi9, mLi10, mLi16, mLi32, mLi48, mLi57, mLi59, mLi65, mLi90, mLi97, mLi99, mLi120, mLi122, mLi127, mLi1584, mLi999999, mLim] at a0 a1 <;> omega) hy (fK 0 rfl))
theorem z_fastest {ro : Nat → Nat × (Nat → Int32)} {Q : mPo} {d : Nat} {I : Nat → Nat → Int32} {L : Nat → Nat → Int64} {T : ct_S} {B : ct_B} {kd g pe : Nat} {v0 : Int32} (hI : mIC I) (hO : pm_O T B kd g pe) (hC : pm_C T B kd g pe I) (hq : ∀ r I1, mFr mSQ2 I I1 → mIC I1 → r = an_fastest T B kd g pe v0 → kC (cdN (kEi v0) ((an_E T B kd g pe 0).1 < bt_U)) I I1 → Q (some (.int r)) (mSH, I1, L))   : mWP mTb_ mFT ro (d + 7, 96, 0, [some (.ref 0), some (.int v0)], [], 0, 0, (mSH, I, L)) Q := by
  refine mB 1 (s2 := (d + 7, 96, 1, [some (.ref 0), some (.int v0)], [.int v0], 0, 0, (mSH, I, L))) rfl ?_
  refine mCall (s2 := (d + 6, 108, 0, [some (.int v0)], [], 0, 0, (mSH, I, L))) rfl ?_
  refine mB 1 (s2 := (d + 6, 108, 1, [some (.int v0)], [.int v0], 0, 0, (mSH, I, L))) rfl ?_
  refine mBr (s2 := (d + 6, 108, 9, [some (.int v0)], [], 0, 0, (mSH, I, L))) (s3 := (d + 6, 108, 4, [some (.int v0)], [], 0, 0, (mSH, I, L))) rfl (fun c0 => ?_) (fun c0 => ?_)
  · refine mB 2 (s2 := (d + 6, 108, 14, [some (.int v0)], [.int 1], 0, 0, (mSH, I, L))) rfl ?_
    refine mRt (r := (some (.int 1))) (h := (mSH, I, L)) rfl rfl ?_
    show mWP mTb_ mFT ro (d + 7, 96, 4, [some (.ref 0), some (.int v0)], [.int 1], 0, 0, (mSH, I, L)) _
    refine mBF (s3 := (d + 7, 96, 14, [some (.ref 0), some (.int v0)], [], 0, 0, (mSH, I, L))) rfl (by decide) ?_
    refine mB 2 (s2 := (d + 7, 96, 16, [some (.ref 0), some (.int v0)], [.int 0, .ref 0], 0, 0, (mSH, I, L))) rfl ?_
    refine mCall (s2 := (d + 6, 106, 0, [some (.ref 0), some (.int 0)], [], 0, 0, (mSH, I, L))) rfl ?_
    refine x_finds hI hO hC (Or.inl rfl) ?_ ?_
    · intro hn K fK rK cK
      show mWP mTb_ mFT ro (d + 7, 96, 19, [some (.ref 0), some (.int v0)], [.int 0], 0, 0, (mSH, K, L)) _
      refine mBT (s2 := (d + 7, 96, 22, [some (.ref 0), some (.int v0)], [], 0, 0, (mSH, K, L))) rfl (by decide) ?_
      refine mB 2 (s2 := (d + 7, 96, 25, [some (.ref 0), some (.int v0)], [.int (-3), .ref 0], 0, 0, (mSH, K, L))) rfl ?_
      refine mCall (s2 := (d + 6, 103, 0, [some (.ref 0), some (.int (-3))], [], 0, 0, (mSH, K, L))) rfl ?_
      refine mB 2 (s2 := (d + 6, 103, 3, [some (.ref 0), some (.int (-3))], [.int (-2), .int (-3)], 0, 0, (mSH, K, L))) rfl ?_
      refine mBF (s3 := (d + 6, 103, 19, [some (.ref 0), some (.int (-3))], [], 0, 0, (mSH, K, L))) rfl (by decide) ?_
      refine mB 2 (s2 := (d + 6, 103, 22, [some (.ref 0), some (.int (-3))], [.int (-3), .int (-3)], 0, 0, (mSH, K, L))) rfl ?_
      refine mBT (s2 := (d + 6, 103, 25, [some (.ref 0), some (.int (-3))], [], 0, 0, (mSH, K, L))) rfl (by decide) ?_
      refine mB 8 (s2 := (d + 6, 103, 49, [some (.ref 0), some (.int (-3))], [.int (-3)], 0, 0, (mSH, (mUp K 0 10 ((K 0 10) + 1)), L))) rfl ?_
      refine mRt (r := (some (.int (-3)))) (h := (mSH, (mUp K 0 10 ((K 0 10) + 1)), L)) rfl (mRet_int rfl) ?_
      show mWP mTb_ mFT ro (d + 7, 96, 28, [some (.ref 0), some (.int v0)], [.int (-3)], 0, 0, (mSH, (mUp K 0 10 ((K 0 10) + 1)), L)) _
      refine mRt (r := (some (.int (-3)))) (h := (mSH, (mUp K 0 10 ((K 0 10) + 1)), L)) rfl (mRet_int rfl) ?_
      exact hq _ _ (mFr.up (by rfl) (mFr.sub (by decide) fK)) (mIC.u0 (hI.sx fK rK cK)) ((if_neg hn).symm.trans (if_pos (c := kEi v0) (by have b0 : (v0).toInt = 0 := (by have z := of_decide_eq_true c0; rw [z]; rfl); omega)).symm) (kc_2 (by have e1 := pm_ti hC.1.1 (by have := hO.1.1; omega); have e2 := pm_ti hC.1.2.1 (by have := hO.1.2.1; omega); have b0 : (v0).toInt = 0 := (by have z := of_decide_eq_true c0; rw [z]; rfl); omega) hn (fK 0 rfl))
    · intro hy K fK rK cK mK
      show mWP mTb_ mFT ro (d + 7, 96, 19, [some (.ref 0), some (.int v0)], [.int 1], 0, 0, (mSH, K, L)) _
      refine mBF (s3 := (d + 7, 96, 29, [some (.ref 0), some (.int v0)], [], 0, 0, (mSH, K, L))) rfl (by decide) ?_
      refine mB 3 (s2 := (d + 7, 96, 34, [some (.ref 0), some (.int v0)], [.int v0, .ref 22], 0, 0, (mSH, K, L))) rfl ?_
      refine mBT (s2 := (d + 7, 96, 37, [some (.ref 0), some (.int v0)], [.ref 22], 0, 0, (mSH, K, L))) rfl (by first | (simp only [of_decide_eq_true c0]; first | decide | rfl) | decide | rfl) ?_
      refine mB 2 (s2 := (d + 7, 96, 42, [some (.ref 0), some (.int v0)], [.int 1, .ref 22], 0, 0, (mSH, K, L))) rfl ?_
      refine mCall (s2 := (d + 6, 25, 0, [some (.ref 22), some (.int 1), none, none], [], 0, 0, (mSH, K, L))) rfl ?_
      refine x_ext_1 (e := (an_E T B kd g pe 0)) hO.1 ((hC.fr fK (by decide)).1) mK (an_v hO hy).1 (an_v hO hy).2 ?_
      show mWP mTb_ mFT ro (d + 7, 96, 45, [some (.ref 0), some (.int v0)], [.int (nI (an_fa T (an_E T B kd g pe 0) true T.1.2.1))], 0, 0, (mSH, K, L)) _
      refine mRt (r := (some (.int (nI (an_fa T (an_E T B kd g pe 0) true T.1.2.1))))) (h := (mSH, K, L)) rfl (mRet_int rfl) ?_
      exact hq _ _ (mFr.sub (by decide) fK) (hI.sx fK rK cK) (((congrArg (fun w => nI (an_fa T (an_E T B kd g pe 0) w T.1.2.1)) (show decide (v0.toInt = 0) = true from (decide_eq_true (by rw [of_decide_eq_true c0]; rfl))).symm).trans (if_pos hy).symm).trans (if_pos (c := kEi v0) (by have b0 : (v0).toInt = 0 := (by have z := of_decide_eq_true c0; rw [z]; rfl); omega)).symm) (kc_0 (by have e1 := pm_ti hC.1.1 (by have := hO.1.1; omega); have e2 := pm_ti hC.1.2.1 (by have := hO.1.2.1; omega); have b0 : (v0).toInt = 0 := (by have z := of_decide_eq_true c0; rw [z]; rfl); omega) hy (fK 0 rfl))
  · refine mB 2 (s2 := (d + 6, 108, 6, [some (.int v0)], [.int 1, .int v0], 0, 0, (mSH, I, L))) rfl ?_
    refine mBr (s2 := (d + 6, 108, 9, [some (.int v0)], [], 0, 0, (mSH, I, L))) (s3 := (d + 6, 108, 13, [some (.int v0)], [], 0, 0, (mSH, I, L))) rfl (fun c1 => ?_) (fun c1 => ?_)
    · refine mB 2 (s2 := (d + 6, 108, 14, [some (.int v0)], [.int 1], 0, 0, (mSH, I, L))) rfl ?_
      refine mRt (r := (some (.int 1))) (h := (mSH, I, L)) rfl rfl ?_
      show mWP mTb_ mFT ro (d + 7, 96, 4, [some (.ref 0), some (.int v0)], [.int 1], 0, 0, (mSH, I, L)) _
      refine mBF (s3 := (d + 7, 96, 14, [some (.ref 0), some (.int v0)], [], 0, 0, (mSH, I, L))) rfl (by decide) ?_
      refine mB 2 (s2 := (d + 7, 96, 16, [some (.ref 0), some (.int v0)], [.int 0, .ref 0], 0, 0, (mSH, I, L))) rfl ?_
      refine mCall (s2 := (d + 6, 106, 0, [some (.ref 0), some (.int 0)], [], 0, 0, (mSH, I, L))) rfl ?_
      refine x_finds hI hO hC (Or.inl rfl) ?_ ?_
      · intro hn K fK rK cK
        show mWP mTb_ mFT ro (d + 7, 96, 19, [some (.ref 0), some (.int v0)], [.int 0], 0, 0, (mSH, K, L)) _
        refine mBT (s2 := (d + 7, 96, 22, [some (.ref 0), some (.int v0)], [], 0, 0, (mSH, K, L))) rfl (by decide) ?_
        refine mB 2 (s2 := (d + 7, 96, 25, [some (.ref 0), some (.int v0)], [.int (-3), .ref 0], 0, 0, (mSH, K, L))) rfl ?_
        refine mCall (s2 := (d + 6, 103, 0, [some (.ref 0), some (.int (-3))], [], 0, 0, (mSH, K, L))) rfl ?_
        refine mB 2 (s2 := (d + 6, 103, 3, [some (.ref 0), some (.int (-3))], [.int (-2), .int (-3)], 0, 0, (mSH, K, L))) rfl ?_
        refine mBF (s3 := (d + 6, 103, 19, [some (.ref 0), some (.int (-3))], [], 0, 0, (mSH, K, L))) rfl (by decide) ?_
        refine mB 2 (s2 := (d + 6, 103, 22, [some (.ref 0), some (.int (-3))], [.int (-3), .int (-3)], 0, 0, (mSH, K, L))) rfl ?_
        refine mBT (s2 := (d + 6, 103, 25, [some (.ref 0), some (.int (-3))], [], 0, 0, (mSH, K, L))) rfl (by decide) ?_
        refine mB 8 (s2 := (d + 6, 103, 49, [some (.ref 0), some (.int (-3))], [.int (-3)], 0, 0, (mSH, (mUp K 0 10 ((K 0 10) + 1)), L))) rfl ?_
        refine mRt (r := (some (.int (-3)))) (h := (mSH, (mUp K 0 10 ((K 0 10) + 1)), L)) rfl (mRet_int rfl) ?_
        show mWP mTb_ mFT ro (d + 7, 96, 28, [some (.ref 0), some (.int v0)], [.int (-3)], 0, 0, (mSH, (mUp K 0 10 ((K 0 10) + 1)), L)) _
        refine mRt (r := (some (.int (-3)))) (h := (mSH, (mUp K 0 10 ((K 0 10) + 1)), L)) rfl (mRet_int rfl) ?_
        exact hq _ _ (mFr.up (by rfl) (mFr.sub (by decide) fK)) (mIC.u0 (hI.sx fK rK cK)) ((if_neg hn).symm.trans (if_pos (c := kEi v0) (by have b0 : (v0).toInt = 1 := (by have z := of_decide_eq_true c1; rw [z]; rfl); have a0 := of_decide_eq_false c0; simp only [Int32.lt_iff_toInt_lt, Int32.le_iff_toInt_le, ← Int32.toInt_inj, mLi0, mLi1, mLi2, mLi3, mLi4, mLi5, mLi6, mLi7, mLi8, mLi9, mLi10, mLi16, mLi32, mLi48, mLi57, mLi59, mLi65, mLi90, mLi97, mLi99, mLi120, mLi122, mLi127, mLi1584, mLi999999, mLim] at a0 <;> omega)).symm) (kc_2 (by have e1 := pm_ti hC.1.1 (by have := hO.1.1; omega); have e2 := pm_ti hC.1.2.1 (by have := hO.1.2.1; omega); have b0 : (v0).toInt = 1 := (by have z := of_decide_eq_true c1; rw [z]; rfl); have a0 := of_decide_eq_false c0; simp only [Int32.lt_iff_toInt_lt, Int32.le_iff_toInt_le, ← Int32.toInt_inj, mLi0, mLi1, mLi2, mLi3, mLi4, mLi5, mLi6, mLi7, mLi8, mLi9, mLi10, mLi16, mLi32, mLi48, mLi57, mLi59, mLi65, mLi90, mLi97, mLi99, mLi120, mLi122, mLi127, mLi1584, mLi999999, mLim] at a0 <;> omega) hn (fK 0 rfl))
      · intro hy K fK rK cK mK
        show mWP mTb_ mFT ro (d + 7, 96, 19, [some (.ref 0), some (.int v0)], [.int 1], 0, 0, (mSH, K, L)) _
        refine mBF (s3 := (d + 7, 96, 29, [some (.ref 0), some (.int v0)], [], 0, 0, (mSH, K, L))) rfl (by decide) ?_
        refine mB 3 (s2 := (d + 7, 96, 34, [some (.ref 0), some (.int v0)], [.int v0, .ref 22], 0, 0, (mSH, K, L))) rfl ?_
        refine mBF (s3 := (d + 7, 96, 41, [some (.ref 0), some (.int v0)], [.ref 22], 0, 0, (mSH, K, L))) rfl (by first | (simp only [of_decide_eq_true c1]; first | decide | rfl) | decide | rfl) ?_
        refine mB 1 (s2 := (d + 7, 96, 42, [some (.ref 0), some (.int v0)], [.int 0, .ref 22], 0, 0, (mSH, K, L))) rfl ?_
        refine mCall (s2 := (d + 6, 25, 0, [some (.ref 22), some (.int 0), none, none], [], 0, 0, (mSH, K, L))) rfl ?_
        refine x_ext_0 (e := (an_E T B kd g pe 0)) hO.1 ((hC.fr fK (by decide)).1) mK (an_v hO hy).1 (an_v hO hy).2 ?_
        show mWP mTb_ mFT ro (d + 7, 96, 45, [some (.ref 0), some (.int v0)], [.int (nI (an_fa T (an_E T B kd g pe 0) false T.1.2.1))], 0, 0, (mSH, K, L)) _
        refine mRt (r := (some (.int (nI (an_fa T (an_E T B kd g pe 0) false T.1.2.1))))) (h := (mSH, K, L)) rfl (mRet_int rfl) ?_
        exact hq _ _ (mFr.sub (by decide) fK) (hI.sx fK rK cK) (((congrArg (fun w => nI (an_fa T (an_E T B kd g pe 0) w T.1.2.1)) (show decide (v0.toInt = 0) = false from (decide_eq_false (fun y => of_decide_eq_false c0 (Int32.toInt_inj.mp y)))).symm).trans (if_pos hy).symm).trans (if_pos (c := kEi v0) (by have b0 : (v0).toInt = 1 := (by have z := of_decide_eq_true c1; rw [z]; rfl); have a0 := of_decide_eq_false c0; simp only [Int32.lt_iff_toInt_lt, Int32.le_iff_toInt_le, ← Int32.toInt_inj, mLi0, mLi1, mLi2, mLi3, mLi4, mLi5, mLi6, mLi7, mLi8, mLi9, mLi10, mLi16, mLi32, mLi48, mLi57, mLi59, mLi65, mLi90, mLi97, mLi99, mLi120, mLi122, mLi127, mLi1584, mLi999999, mLim] at a0 <;> omega)).symm) (kc_0 (by have e1 := pm_ti hC.1.1 (by have := hO.1.1; omega); have e2 := pm_ti hC.1.2.1 (by have := hO.1.2.1; omega); have b0 : (v0).toInt = 1 := (by have z := of_decide_eq_true c1; rw [z]; rfl); have a0 := of_decide_eq_false c0; simp only [Int32.lt_iff_toInt_lt, Int32.le_iff_toInt_le, ← Int32.toInt_inj, mLi0, mLi1, mLi2, mLi3, mLi4, mLi5, mLi6, mLi7, mLi8, mLi9, mLi10, mLi16, mLi32, mLi48, mLi57, mLi59, mLi65, mLi90, mLi97, mLi99, mLi120, mLi122, mLi127, mLi1584, mLi999999, mLim] at a0 <;> omega) hy (fK 0 rfl))
    · refine mB 1 (s2 := (d + 6, 108, 14, [some (.int v0)], [.int 0], 0, 0, (mSH, I, L))) rfl ?_
      refine mRt (r := (some (.int 0))) (h := (mSH, I, L)) rfl rfl ?_
      show mWP mTb_ mFT ro (d + 7, 96, 4, [some (.ref 0), some (.int v0)], [.int 0], 0, 0, (mSH, I, L)) _
      refine mBT (s2 := (d + 7, 96, 7, [some (.ref 0), some (.int v0)], [], 0, 0, (mSH, I, L))) rfl (by decide) ?_
      refine mB 2 (s2 := (d + 7, 96, 10, [some (.ref 0), some (.int v0)], [.int (-2), .ref 0], 0, 0, (mSH, I, L))) rfl ?_
      refine mCall (s2 := (d + 6, 103, 0, [some (.ref 0), some (.int (-2))], [], 0, 0, (mSH, I, L))) rfl ?_
      refine mB 2 (s2 := (d + 6, 103, 3, [some (.ref 0), some (.int (-2))], [.int (-2), .int (-2)], 0, 0, (mSH, I, L))) rfl ?_
      refine mBT (s2 := (d + 6, 103, 6, [some (.ref 0), some (.int (-2))], [], 0, 0, (mSH, I, L))) rfl (by decide) ?_
      refine mB 8 (s2 := (d + 6, 103, 49, [some (.ref 0), some (.int (-2))], [.int (-2)], 0, 0, (mSH, (mUp I 0 9 ((I 0 9) + 1)), L))) rfl ?_
      refine mRt (r := (some (.int (-2)))) (h := (mSH, (mUp I 0 9 ((I 0 9) + 1)), L)) rfl (mRet_int rfl) ?_
      show mWP mTb_ mFT ro (d + 7, 96, 13, [some (.ref 0), some (.int v0)], [.int (-2)], 0, 0, (mSH, (mUp I 0 9 ((I 0 9) + 1)), L)) _
      refine mRt (r := (some (.int (-2)))) (h := (mSH, (mUp I 0 9 ((I 0 9) + 1)), L)) rfl (mRet_int rfl) ?_
      exact hq _ _ (mFr.up (by rfl) mFr.rf) (mIC.u0 hI) (if_neg (c := kEi v0) (by have e1 := pm_ti hC.1.1 (by have := hO.1.1; omega); have e2 := pm_ti hC.1.2.1 (by have := hO.1.2.1; omega); have a0 := of_decide_eq_false c0; have a1 := of_decide_eq_false c1; simp only [Int32.lt_iff_toInt_lt, Int32.le_iff_toInt_le, ← Int32.toInt_inj, mLi0, mLi1, mLi2, mLi3, mLi4, mLi5, mLi6, mLi7, mLi8, mLi9, mLi10, mLi16, mLi32, mLi48, mLi57, mLi59, mLi65, mLi90, mLi97, mLi99, mLi120, mLi122, mLi127, mLi1584, mLi999999, mLim] at a0 a1 <;> omega)).symm (kc_1 (by have e1 := pm_ti hC.1.1 (by have := hO.1.1; omega); have e2 := pm_ti hC.1.2.1 (by have := hO.1.2.1; omega); have a0 := of_decide_eq_false c0; have a1 := of_decide_eq_false c1; simp only [Int32.lt_iff_toInt_lt, Int32.le_iff_toInt_le, ← Int32.toInt_inj, mLi0, mLi1, mLi2, mLi3, mLi4, mLi5, mLi6, mLi7, mLi8, mLi9, mLi10, mLi16, mLi32, mLi48, mLi57, mLi59, mLi65, mLi90, mLi97, mLi99, mLi120, mLi122, mLi127, mLi1584, mLi999999, mLim] at a0 a1 <;> omega) (by rfl))
theorem z_part {ro : Nat → Nat × (Nat → Int32)} {Q : mPo} {d : Nat} {I : Nat → Nat → Int32} {L : Nat → Nat → Int64} {v0 : Int32} (hI : mIC I) (hq : ∀ r I1, mFr mSQ2 I I1 → mIC I1 → r = an_part (I 25 0) (I 25 1) v0 → kC (cdN (kEi v0) True) I I1 → Q (some (.int r)) (mSH, I1, L))   : mWP mTb_ mFT ro (d + 7, 97, 0, [some (.ref 0), some (.int v0)], [], 0, 0, (mSH, I, L)) Q := by
  refine mB 1 (s2 := (d + 7, 97, 1, [some (.ref 0), some (.int v0)], [.int v0], 0, 0, (mSH, I, L))) rfl ?_
  refine mCall (s2 := (d + 6, 108, 0, [some (.int v0)], [], 0, 0, (mSH, I, L))) rfl ?_
  refine mB 1 (s2 := (d + 6, 108, 1, [some (.int v0)], [.int v0], 0, 0, (mSH, I, L))) rfl ?_
  refine mBr (s2 := (d + 6, 108, 9, [some (.int v0)], [], 0, 0, (mSH, I, L))) (s3 := (d + 6, 108, 4, [some (.int v0)], [], 0, 0, (mSH, I, L))) rfl (fun c0 => ?_) (fun c0 => ?_)
  · refine mB 2 (s2 := (d + 6, 108, 14, [some (.int v0)], [.int 1], 0, 0, (mSH, I, L))) rfl ?_
    refine mRt (r := (some (.int 1))) (h := (mSH, I, L)) rfl rfl ?_
    show mWP mTb_ mFT ro (d + 7, 97, 4, [some (.ref 0), some (.int v0)], [.int 1], 0, 0, (mSH, I, L)) _
    refine mBF (s3 := (d + 7, 97, 14, [some (.ref 0), some (.int v0)], [], 0, 0, (mSH, I, L))) rfl (by decide) ?_
    refine mB 1 (s2 := (d + 7, 97, 15, [some (.ref 0), some (.int v0)], [.int v0], 0, 0, (mSH, I, L))) rfl ?_
    refine mBT (s2 := (d + 7, 97, 18, [some (.ref 0), some (.int v0)], [], 0, 0, (mSH, I, L))) rfl (by first | (simp only [of_decide_eq_true c0]; first | decide | rfl) | decide | rfl) ?_
    refine mB 4 (s2 := (d + 7, 97, 35, [some (.ref 0), some (.int v0)], [.int (I 25 0)], 0, 0, (mSH, I, L))) rfl ?_
    refine mRt (r := (some (.int (I 25 0)))) (h := (mSH, I, L)) rfl (mRet_int rfl) ?_
    exact hq _ _ mFr.rf ⟨hI.1, hI.2.1, hI.2.2.1, hI.2.2.2.1, hI.2.2.2.2.1, hI.2.2.2.2.2.1, hI.2.2.2.2.2.2⟩ (an_pt0 (of_decide_eq_true c0)) (kc_0 (by have b0 : (v0).toInt = 0 := (by have z := of_decide_eq_true c0; rw [z]; rfl); omega) trivial (by rfl))
  · refine mB 2 (s2 := (d + 6, 108, 6, [some (.int v0)], [.int 1, .int v0], 0, 0, (mSH, I, L))) rfl ?_
    refine mBr (s2 := (d + 6, 108, 9, [some (.int v0)], [], 0, 0, (mSH, I, L))) (s3 := (d + 6, 108, 13, [some (.int v0)], [], 0, 0, (mSH, I, L))) rfl (fun c1 => ?_) (fun c1 => ?_)
    · refine mB 2 (s2 := (d + 6, 108, 14, [some (.int v0)], [.int 1], 0, 0, (mSH, I, L))) rfl ?_
      refine mRt (r := (some (.int 1))) (h := (mSH, I, L)) rfl rfl ?_
      show mWP mTb_ mFT ro (d + 7, 97, 4, [some (.ref 0), some (.int v0)], [.int 1], 0, 0, (mSH, I, L)) _
      refine mBF (s3 := (d + 7, 97, 14, [some (.ref 0), some (.int v0)], [], 0, 0, (mSH, I, L))) rfl (by decide) ?_
      refine mB 1 (s2 := (d + 7, 97, 15, [some (.ref 0), some (.int v0)], [.int v0], 0, 0, (mSH, I, L))) rfl ?_
      refine mBF (s3 := (d + 7, 97, 28, [some (.ref 0), some (.int v0)], [], 0, 0, (mSH, I, L))) rfl (by first | (simp only [of_decide_eq_true c1]; first | decide | rfl) | decide | rfl) ?_
      refine mB 3 (s2 := (d + 7, 97, 35, [some (.ref 0), some (.int v0)], [.int (I 25 1)], 0, 0, (mSH, I, L))) rfl ?_
      refine mRt (r := (some (.int (I 25 1)))) (h := (mSH, I, L)) rfl (mRet_int rfl) ?_
      exact hq _ _ mFr.rf ⟨hI.1, hI.2.1, hI.2.2.1, hI.2.2.2.1, hI.2.2.2.2.1, hI.2.2.2.2.2.1, hI.2.2.2.2.2.2⟩ (an_pt1 (of_decide_eq_true c1)) (kc_0 (by have b0 : (v0).toInt = 1 := (by have z := of_decide_eq_true c1; rw [z]; rfl); have a0 := of_decide_eq_false c0; simp only [Int32.lt_iff_toInt_lt, Int32.le_iff_toInt_le, ← Int32.toInt_inj, mLi0, mLi1, mLi2, mLi3, mLi4, mLi5, mLi6, mLi7, mLi8, mLi9, mLi10, mLi16, mLi32, mLi48, mLi57, mLi59, mLi65, mLi90, mLi97, mLi99, mLi120, mLi122, mLi127, mLi1584, mLi999999, mLim] at a0 <;> omega) trivial (by rfl))
    · refine mB 1 (s2 := (d + 6, 108, 14, [some (.int v0)], [.int 0], 0, 0, (mSH, I, L))) rfl ?_
      refine mRt (r := (some (.int 0))) (h := (mSH, I, L)) rfl rfl ?_
      show mWP mTb_ mFT ro (d + 7, 97, 4, [some (.ref 0), some (.int v0)], [.int 0], 0, 0, (mSH, I, L)) _
      refine mBT (s2 := (d + 7, 97, 7, [some (.ref 0), some (.int v0)], [], 0, 0, (mSH, I, L))) rfl (by decide) ?_
      refine mB 2 (s2 := (d + 7, 97, 10, [some (.ref 0), some (.int v0)], [.int (-2), .ref 0], 0, 0, (mSH, I, L))) rfl ?_
      refine mCall (s2 := (d + 6, 103, 0, [some (.ref 0), some (.int (-2))], [], 0, 0, (mSH, I, L))) rfl ?_
      refine mB 2 (s2 := (d + 6, 103, 3, [some (.ref 0), some (.int (-2))], [.int (-2), .int (-2)], 0, 0, (mSH, I, L))) rfl ?_
      refine mBT (s2 := (d + 6, 103, 6, [some (.ref 0), some (.int (-2))], [], 0, 0, (mSH, I, L))) rfl (by decide) ?_
      refine mB 8 (s2 := (d + 6, 103, 49, [some (.ref 0), some (.int (-2))], [.int (-2)], 0, 0, (mSH, (mUp I 0 9 ((I 0 9) + 1)), L))) rfl ?_
      refine mRt (r := (some (.int (-2)))) (h := (mSH, (mUp I 0 9 ((I 0 9) + 1)), L)) rfl (mRet_int rfl) ?_
      show mWP mTb_ mFT ro (d + 7, 97, 13, [some (.ref 0), some (.int v0)], [.int (-2)], 0, 0, (mSH, (mUp I 0 9 ((I 0 9) + 1)), L)) _
      refine mRt (r := (some (.int (-2)))) (h := (mSH, (mUp I 0 9 ((I 0 9) + 1)), L)) rfl (mRet_int rfl) ?_
      exact hq _ _ (mFr.up (by rfl) mFr.rf) ⟨hI.1, hI.2.1, hI.2.2.1, hI.2.2.2.1, hI.2.2.2.2.1, hI.2.2.2.2.2.1, (mRk.up hI.2.2.2.2.2.2 (by rfl) (by rfl))⟩ (if_neg (c := kEi v0) (by have a0 := of_decide_eq_false c0; have a1 := of_decide_eq_false c1; simp only [Int32.lt_iff_toInt_lt, Int32.le_iff_toInt_le, ← Int32.toInt_inj, mLi0, mLi1, mLi2, mLi3, mLi4, mLi5, mLi6, mLi7, mLi8, mLi9, mLi10, mLi16, mLi32, mLi48, mLi57, mLi59, mLi65, mLi90, mLi97, mLi99, mLi120, mLi122, mLi127, mLi1584, mLi999999, mLim] at a0 a1 <;> omega)).symm (kc_1 (by have a0 := of_decide_eq_false c0; have a1 := of_decide_eq_false c1; simp only [Int32.lt_iff_toInt_lt, Int32.le_iff_toInt_le, ← Int32.toInt_inj, mLi0, mLi1, mLi2, mLi3, mLi4, mLi5, mLi6, mLi7, mLi8, mLi9, mLi10, mLi16, mLi32, mLi48, mLi57, mLi59, mLi65, mLi90, mLi97, mLi99, mLi120, mLi122, mLi127, mLi1584, mLi999999, mLim] at a0 a1 <;> omega) (by rfl))
