/-! told with its counts. Written by a program (wip/mk_c.py). -/
def tvC (I : Nat → Nat → Int32) (k : Nat) : Int32 := match k with
  | 0 => I 0 9
  | 1 => I 0 10
  | 2 => I 0 11
  | 3 => I 26 1
  | 4 => I 2 1
  | 5 => I 4 1
  | 6 => I 1 2
  | 7 => I 9 0
  | 8 => I 9 1
  | 9 => I 9 2
  | _ => 0
def tvM (I : Nat → Nat → Int32) (k : Nat) : Int32 := match k with
  | 0 => I 39 0
  | 1 => I 39 1
  | 2 => I 39 2
  | 3 => I 34 11
  | 4 => I 34 1
  | 5 => I 34 3
  | 6 => I 34 4
  | 7 => I 38 0
  | 8 => I 38 1
  | 9 => I 38 2
  | _ => 0
abbrev an_tk (v0 : Int32) : Prop := 0 ≤ v0.toInt ∧ v0.toInt ≤ 9
def an_told (f : Nat → Int32) (v0 : Int32) : Int32 := if an_tk v0 then f v0.toInt.toNat else -2
theorem an_toldc {f g : Nat → Int32} {v0 : Int32} (h : ∀ k, k < 10 → f k = g k) : an_told f v0 = an_told g v0 := by
  unfold an_told
  by_cases c : an_tk v0
  · rw [if_pos c, if_pos c]
    exact h _ (by have := c.1; have := c.2; omega)
  · rw [if_neg c, if_neg c]
theorem an_tl0 {f : Nat → Int32} {v0 : Int32} (h : v0 = 0) : f 0 = an_told f v0 := by
  subst h
  rfl
theorem an_tl1 {f : Nat → Int32} {v0 : Int32} (h : v0 = 1) : f 1 = an_told f v0 := by
  subst h
  rfl
theorem an_tl2 {f : Nat → Int32} {v0 : Int32} (h : v0 = 2) : f 2 = an_told f v0 := by
  subst h
  rfl
theorem an_tl3 {f : Nat → Int32} {v0 : Int32} (h : v0 = 3) : f 3 = an_told f v0 := by
  subst h
  rfl
theorem an_tl4 {f : Nat → Int32} {v0 : Int32} (h : v0 = 4) : f 4 = an_told f v0 := by
  subst h
  rfl
theorem an_tl5 {f : Nat → Int32} {v0 : Int32} (h : v0 = 5) : f 5 = an_told f v0 := by
  subst h
  rfl
theorem an_tl6 {f : Nat → Int32} {v0 : Int32} (h : v0 = 6) : f 6 = an_told f v0 := by
  subst h
  rfl
theorem an_tl7 {f : Nat → Int32} {v0 : Int32} (h : v0 = 7) : f 7 = an_told f v0 := by
  subst h
  rfl
theorem an_tl8 {f : Nat → Int32} {v0 : Int32} (h : v0 = 8) : f 8 = an_told f v0 := by
  subst h
  rfl
theorem an_tl9 {f : Nat → Int32} {v0 : Int32} (h : v0 = 9) : f 9 = an_told f v0 := by
  subst h
  rfl
theorem z_told {ro : Nat → Nat × (Nat → Int32)} {Q : mPo} {d : Nat} {I : Nat → Nat → Int32} {L : Nat → Nat → Int64} {v0 : Int32} (hI : mIC I) (hq : ∀ r I1, mFr mSQ2 I I1 → mIC I1 → r = an_told (tvC I) v0 → kC (cdN (an_tk v0) True) I I1 → Q (some (.int r)) (mSH, I1, L))   : mWP mTb_ mFT ro (d + 7, 101, 0, [some (.ref 0), some (.int v0)], [], 0, 0, (mSH, I, L)) Q := by
  refine mB 1 (s2 := (d + 7, 101, 1, [some (.ref 0), some (.int v0)], [.int v0], 0, 0, (mSH, I, L))) rfl ?_
  refine mBr (s2 := (d + 7, 101, 10, [some (.ref 0), some (.int v0)], [], 0, 0, (mSH, I, L))) (s3 := (d + 7, 101, 4, [some (.ref 0), some (.int v0)], [], 0, 0, (mSH, I, L))) rfl (fun c0 => ?_) (fun c0 => ?_)
  · refine mB 2 (s2 := (d + 7, 101, 13, [some (.ref 0), some (.int v0)], [.int (-2), .ref 0], 0, 0, (mSH, I, L))) rfl ?_
    refine mCall (s2 := (d + 6, 103, 0, [some (.ref 0), some (.int (-2))], [], 0, 0, (mSH, I, L))) rfl ?_
    refine mB 2 (s2 := (d + 6, 103, 3, [some (.ref 0), some (.int (-2))], [.int (-2), .int (-2)], 0, 0, (mSH, I, L))) rfl ?_
    refine mBT (s2 := (d + 6, 103, 6, [some (.ref 0), some (.int (-2))], [], 0, 0, (mSH, I, L))) rfl (by decide) ?_
    refine mB 8 (s2 := (d + 6, 103, 49, [some (.ref 0), some (.int (-2))], [.int (-2)], 0, 0, (mSH, (mUp I 0 9 ((I 0 9) + 1)), L))) rfl ?_
    refine mRt (r := (some (.int (-2)))) (h := (mSH, (mUp I 0 9 ((I 0 9) + 1)), L)) rfl (mRet_int rfl) ?_
    show mWP mTb_ mFT ro (d + 7, 101, 16, [some (.ref 0), some (.int v0)], [.int (-2)], 0, 0, (mSH, (mUp I 0 9 ((I 0 9) + 1)), L)) _
    refine mRt (r := (some (.int (-2)))) (h := (mSH, (mUp I 0 9 ((I 0 9) + 1)), L)) rfl (mRet_int rfl) ?_
    exact hq _ _ (mFr.up (by rfl) mFr.rf) ⟨hI.1, hI.2.1, hI.2.2.1, hI.2.2.2.1, hI.2.2.2.2.1, hI.2.2.2.2.2.1, (mRk.up hI.2.2.2.2.2.2 (by rfl) (by rfl))⟩ (if_neg (c := an_tk v0) (by have a0 := of_decide_eq_true c0; simp only [Int32.lt_iff_toInt_lt, Int32.le_iff_toInt_le, ← Int32.toInt_inj, mLi0, mLi1, mLi2, mLi3, mLi4, mLi5, mLi6, mLi7, mLi8, mLi9, mLi10, mLi16, mLi32, mLi48, mLi57, mLi59, mLi65, mLi90, mLi97, mLi99, mLi120, mLi122, mLi127, mLi1584, mLi999999, mLim] at a0 <;> omega)).symm (kc_1 (by have a0 := of_decide_eq_true c0; simp only [Int32.lt_iff_toInt_lt, Int32.le_iff_toInt_le, ← Int32.toInt_inj, mLi0, mLi1, mLi2, mLi3, mLi4, mLi5, mLi6, mLi7, mLi8, mLi9, mLi10, mLi16, mLi32, mLi48, mLi57, mLi59, mLi65, mLi90, mLi97, mLi99, mLi120, mLi122, mLi127, mLi1584, mLi999999, mLim] at a0 <;> omega) (by rfl))
  · refine mB 2 (s2 := (d + 7, 101, 7, [some (.ref 0), some (.int v0)], [.int 9, .int v0], 0, 0, (mSH, I, L))) rfl ?_
    refine mBr (s2 := (d + 7, 101, 17, [some (.ref 0), some (.int v0)], [], 0, 0, (mSH, I, L))) (s3 := (d + 7, 101, 10, [some (.ref 0), some (.int v0)], [], 0, 0, (mSH, I, L))) rfl (fun c1 => ?_) (fun c1 => ?_)
    · refine mB 2 (s2 := (d + 7, 101, 19, [some (.ref 0), some (.int v0)], [.int v0, .ref 0], 0, 0, (mSH, I, L))) rfl ?_
      by_cases c2 : v0 = 0
      · refine mCall (s2 := (d + 6, 107, 0, [some (.ref 0), some (.int v0)], [], 0, 0, (mSH, I, L))) rfl ?_
        refine mB 1 (s2 := (d + 6, 107, 1, [some (.ref 0), some (.int v0)], [.int v0], 0, 0, (mSH, I, L))) rfl ?_
        refine mSw1 (t := (d + 6, 107, 44, [some (.ref 0), some (.int v0)], [], 0, 0, (mSH, I, L))) rfl (by simp only [c2]; rfl) ?_
        refine mB 2 (s2 := (d + 6, 107, 48, [some (.ref 0), some (.int v0)], [.int (I 0 9)], 0, 0, (mSH, I, L))) rfl ?_
        refine mRt (r := (some (.int (I 0 9)))) (h := (mSH, I, L)) rfl (mRet_int rfl) ?_
        show mWP mTb_ mFT ro (d + 7, 101, 22, [some (.ref 0), some (.int v0)], [.int (I 0 9)], 0, 0, (mSH, I, L)) _
        refine mRt (r := (some (.int (I 0 9)))) (h := (mSH, I, L)) rfl (mRet_int rfl) ?_
        exact hq _ _ mFr.rf ⟨hI.1, hI.2.1, hI.2.2.1, hI.2.2.2.1, hI.2.2.2.2.1, hI.2.2.2.2.2.1, hI.2.2.2.2.2.2⟩ ((by have e := c2; subst e; rfl : (I 0 9) = tvC I 0).trans (an_tl0 (f := tvC I) c2)) (kc_0 (by have e := c2; subst e; decide) trivial (by rfl))
      · by_cases c3 : v0 = 1
        · refine mCall (s2 := (d + 6, 107, 0, [some (.ref 0), some (.int v0)], [], 0, 0, (mSH, I, L))) rfl ?_
          refine mB 1 (s2 := (d + 6, 107, 1, [some (.ref 0), some (.int v0)], [.int v0], 0, 0, (mSH, I, L))) rfl ?_
          refine mSw1 (t := (d + 6, 107, 49, [some (.ref 0), some (.int v0)], [], 0, 0, (mSH, I, L))) rfl (by simp only [c3]; rfl) ?_
          refine mB 2 (s2 := (d + 6, 107, 53, [some (.ref 0), some (.int v0)], [.int (I 0 10)], 0, 0, (mSH, I, L))) rfl ?_
          refine mRt (r := (some (.int (I 0 10)))) (h := (mSH, I, L)) rfl (mRet_int rfl) ?_
          show mWP mTb_ mFT ro (d + 7, 101, 22, [some (.ref 0), some (.int v0)], [.int (I 0 10)], 0, 0, (mSH, I, L)) _
          refine mRt (r := (some (.int (I 0 10)))) (h := (mSH, I, L)) rfl (mRet_int rfl) ?_
          exact hq _ _ mFr.rf ⟨hI.1, hI.2.1, hI.2.2.1, hI.2.2.2.1, hI.2.2.2.2.1, hI.2.2.2.2.2.1, hI.2.2.2.2.2.2⟩ ((by have e := c3; subst e; rfl : (I 0 10) = tvC I 1).trans (an_tl1 (f := tvC I) c3)) (kc_0 (by have e := c3; subst e; decide) trivial (by rfl))
        · by_cases c4 : v0 = 2
          · refine mCall (s2 := (d + 6, 107, 0, [some (.ref 0), some (.int v0)], [], 0, 0, (mSH, I, L))) rfl ?_
            refine mB 1 (s2 := (d + 6, 107, 1, [some (.ref 0), some (.int v0)], [.int v0], 0, 0, (mSH, I, L))) rfl ?_
            refine mSw1 (t := (d + 6, 107, 54, [some (.ref 0), some (.int v0)], [], 0, 0, (mSH, I, L))) rfl (by simp only [c4]; rfl) ?_
            refine mB 2 (s2 := (d + 6, 107, 58, [some (.ref 0), some (.int v0)], [.int (I 0 11)], 0, 0, (mSH, I, L))) rfl ?_
            refine mRt (r := (some (.int (I 0 11)))) (h := (mSH, I, L)) rfl (mRet_int rfl) ?_
            show mWP mTb_ mFT ro (d + 7, 101, 22, [some (.ref 0), some (.int v0)], [.int (I 0 11)], 0, 0, (mSH, I, L)) _
            refine mRt (r := (some (.int (I 0 11)))) (h := (mSH, I, L)) rfl (mRet_int rfl) ?_
            exact hq _ _ mFr.rf ⟨hI.1, hI.2.1, hI.2.2.1, hI.2.2.2.1, hI.2.2.2.2.1, hI.2.2.2.2.2.1, hI.2.2.2.2.2.2⟩ ((by have e := c4; subst e; rfl : (I 0 11) = tvC I 2).trans (an_tl2 (f := tvC I) c4)) (kc_0 (by have e := c4; subst e; decide) trivial (by rfl))
          · by_cases c5 : v0 = 3
            · refine mCall (s2 := (d + 6, 107, 0, [some (.ref 0), some (.int v0)], [], 0, 0, (mSH, I, L))) rfl ?_
              refine mB 1 (s2 := (d + 6, 107, 1, [some (.ref 0), some (.int v0)], [.int v0], 0, 0, (mSH, I, L))) rfl ?_
              refine mSw1 (t := (d + 6, 107, 59, [some (.ref 0), some (.int v0)], [], 0, 0, (mSH, I, L))) rfl (by simp only [c5]; rfl) ?_
              refine mB 2 (s2 := (d + 6, 107, 63, [some (.ref 0), some (.int v0)], [.ref 26], 0, 0, (mSH, I, L))) rfl ?_
              refine mCall (s2 := (d + 5, 39, 0, [some (.ref 26)], [], 0, 0, (mSH, I, L))) rfl ?_
              refine mB 2 (s2 := (d + 5, 39, 4, [some (.ref 26)], [.int (I 26 1)], 0, 0, (mSH, I, L))) rfl ?_
              refine mRt (r := (some (.int (I 26 1)))) (h := (mSH, I, L)) rfl (mRet_int rfl) ?_
              show mWP mTb_ mFT ro (d + 6, 107, 66, [some (.ref 0), some (.int v0)], [.int (I 26 1)], 0, 0, (mSH, I, L)) _
              refine mRt (r := (some (.int (I 26 1)))) (h := (mSH, I, L)) rfl (mRet_int rfl) ?_
              show mWP mTb_ mFT ro (d + 7, 101, 22, [some (.ref 0), some (.int v0)], [.int (I 26 1)], 0, 0, (mSH, I, L)) _
              refine mRt (r := (some (.int (I 26 1)))) (h := (mSH, I, L)) rfl (mRet_int rfl) ?_
              exact hq _ _ mFr.rf ⟨hI.1, hI.2.1, hI.2.2.1, hI.2.2.2.1, hI.2.2.2.2.1, hI.2.2.2.2.2.1, hI.2.2.2.2.2.2⟩ ((by have e := c5; subst e; rfl : (I 26 1) = tvC I 3).trans (an_tl3 (f := tvC I) c5)) (kc_0 (by have e := c5; subst e; decide) trivial (by rfl))
            · by_cases c6 : v0 = 4
              · refine mCall (s2 := (d + 6, 107, 0, [some (.ref 0), some (.int v0)], [], 0, 0, (mSH, I, L))) rfl ?_
                refine mB 1 (s2 := (d + 6, 107, 1, [some (.ref 0), some (.int v0)], [.int v0], 0, 0, (mSH, I, L))) rfl ?_
                refine mSw1 (t := (d + 6, 107, 67, [some (.ref 0), some (.int v0)], [], 0, 0, (mSH, I, L))) rfl (by simp only [c6]; rfl) ?_
                refine mB 3 (s2 := (d + 6, 107, 74, [some (.ref 0), some (.int v0)], [.ref 2], 0, 0, (mSH, I, L))) rfl ?_
                refine mCall (s2 := (d + 5, 39, 0, [some (.ref 2)], [], 0, 0, (mSH, I, L))) rfl ?_
                refine mB 2 (s2 := (d + 5, 39, 4, [some (.ref 2)], [.int (I 2 1)], 0, 0, (mSH, I, L))) rfl ?_
                refine mRt (r := (some (.int (I 2 1)))) (h := (mSH, I, L)) rfl (mRet_int rfl) ?_
                show mWP mTb_ mFT ro (d + 6, 107, 77, [some (.ref 0), some (.int v0)], [.int (I 2 1)], 0, 0, (mSH, I, L)) _
                refine mRt (r := (some (.int (I 2 1)))) (h := (mSH, I, L)) rfl (mRet_int rfl) ?_
                show mWP mTb_ mFT ro (d + 7, 101, 22, [some (.ref 0), some (.int v0)], [.int (I 2 1)], 0, 0, (mSH, I, L)) _
                refine mRt (r := (some (.int (I 2 1)))) (h := (mSH, I, L)) rfl (mRet_int rfl) ?_
                exact hq _ _ mFr.rf ⟨hI.1, hI.2.1, hI.2.2.1, hI.2.2.2.1, hI.2.2.2.2.1, hI.2.2.2.2.2.1, hI.2.2.2.2.2.2⟩ ((by have e := c6; subst e; rfl : (I 2 1) = tvC I 4).trans (an_tl4 (f := tvC I) c6)) (kc_0 (by have e := c6; subst e; decide) trivial (by rfl))
              · by_cases c7 : v0 = 5
                · refine mCall (s2 := (d + 6, 107, 0, [some (.ref 0), some (.int v0)], [], 0, 0, (mSH, I, L))) rfl ?_
                  refine mB 1 (s2 := (d + 6, 107, 1, [some (.ref 0), some (.int v0)], [.int v0], 0, 0, (mSH, I, L))) rfl ?_
                  refine mSw1 (t := (d + 6, 107, 78, [some (.ref 0), some (.int v0)], [], 0, 0, (mSH, I, L))) rfl (by simp only [c7]; rfl) ?_
                  refine mB 3 (s2 := (d + 6, 107, 85, [some (.ref 0), some (.int v0)], [.ref 4], 0, 0, (mSH, I, L))) rfl ?_
                  refine mCall (s2 := (d + 5, 39, 0, [some (.ref 4)], [], 0, 0, (mSH, I, L))) rfl ?_
                  refine mB 2 (s2 := (d + 5, 39, 4, [some (.ref 4)], [.int (I 4 1)], 0, 0, (mSH, I, L))) rfl ?_
                  refine mRt (r := (some (.int (I 4 1)))) (h := (mSH, I, L)) rfl (mRet_int rfl) ?_
                  show mWP mTb_ mFT ro (d + 6, 107, 88, [some (.ref 0), some (.int v0)], [.int (I 4 1)], 0, 0, (mSH, I, L)) _
                  refine mRt (r := (some (.int (I 4 1)))) (h := (mSH, I, L)) rfl (mRet_int rfl) ?_
                  show mWP mTb_ mFT ro (d + 7, 101, 22, [some (.ref 0), some (.int v0)], [.int (I 4 1)], 0, 0, (mSH, I, L)) _
                  refine mRt (r := (some (.int (I 4 1)))) (h := (mSH, I, L)) rfl (mRet_int rfl) ?_
                  exact hq _ _ mFr.rf ⟨hI.1, hI.2.1, hI.2.2.1, hI.2.2.2.1, hI.2.2.2.2.1, hI.2.2.2.2.2.1, hI.2.2.2.2.2.2⟩ ((by have e := c7; subst e; rfl : (I 4 1) = tvC I 5).trans (an_tl5 (f := tvC I) c7)) (kc_0 (by have e := c7; subst e; decide) trivial (by rfl))
                · by_cases c8 : v0 = 6
                  · refine mCall (s2 := (d + 6, 107, 0, [some (.ref 0), some (.int v0)], [], 0, 0, (mSH, I, L))) rfl ?_
                    refine mB 1 (s2 := (d + 6, 107, 1, [some (.ref 0), some (.int v0)], [.int v0], 0, 0, (mSH, I, L))) rfl ?_
                    refine mSw1 (t := (d + 6, 107, 89, [some (.ref 0), some (.int v0)], [], 0, 0, (mSH, I, L))) rfl (by simp only [c8]; rfl) ?_
                    refine mB 3 (s2 := (d + 6, 107, 96, [some (.ref 0), some (.int v0)], [.int (I 1 2)], 0, 0, (mSH, I, L))) rfl ?_
                    refine mRt (r := (some (.int (I 1 2)))) (h := (mSH, I, L)) rfl (mRet_int rfl) ?_
                    show mWP mTb_ mFT ro (d + 7, 101, 22, [some (.ref 0), some (.int v0)], [.int (I 1 2)], 0, 0, (mSH, I, L)) _
                    refine mRt (r := (some (.int (I 1 2)))) (h := (mSH, I, L)) rfl (mRet_int rfl) ?_
                    exact hq _ _ mFr.rf ⟨hI.1, hI.2.1, hI.2.2.1, hI.2.2.2.1, hI.2.2.2.2.1, hI.2.2.2.2.2.1, hI.2.2.2.2.2.2⟩ ((by have e := c8; subst e; rfl : (I 1 2) = tvC I 6).trans (an_tl6 (f := tvC I) c8)) (kc_0 (by have e := c8; subst e; decide) trivial (by rfl))
                  · by_cases c9 : v0 = 7
                    · refine mCall (s2 := (d + 6, 107, 0, [some (.ref 0), some (.int v0)], [], 0, 0, (mSH, I, L))) rfl ?_
                      refine mB 1 (s2 := (d + 6, 107, 1, [some (.ref 0), some (.int v0)], [.int v0], 0, 0, (mSH, I, L))) rfl ?_
                      refine mSw1 (t := (d + 6, 107, 97, [some (.ref 0), some (.int v0)], [], 0, 0, (mSH, I, L))) rfl (by simp only [c9]; rfl) ?_
                      refine mB 5 (s2 := (d + 6, 107, 105, [some (.ref 0), some (.int v0)], [.int (v0 - 7), .ref 8], 0, 0, (mSH, I, L))) rfl ?_
                      refine mCall (s2 := (d + 5, 10, 0, [some (.ref 8), some (.int (v0 - 7))], [], 0, 0, (mSH, I, L))) rfl ?_
                      refine mB 2 (s2 := (d + 5, 10, 2, [some (.ref 8), some (.int (v0 - 7))], [.int (v0 - 7), .ref 8], 0, 0, (mSH, I, L))) rfl ?_
                      refine mCall (s2 := (d + 4, 8, 0, [some (.ref 8), some (.int (v0 - 7))], [], 0, 0, (mSH, I, L))) rfl ?_
                      refine mB 1 (s2 := (d + 4, 8, 1, [some (.ref 8), some (.int (v0 - 7))], [.int (v0 - 7)], 0, 0, (mSH, I, L))) rfl ?_
                      refine mBF (s3 := (d + 4, 8, 4, [some (.ref 8), some (.int (v0 - 7))], [], 0, 0, (mSH, I, L))) rfl (by first | (simp only [c9]; first | decide | rfl) | decide | rfl) ?_
                      refine mB 4 (s2 := (d + 4, 8, 10, [some (.ref 8), some (.int (v0 - 7))], [.int 3, .int (v0 - 7)], 0, 0, (mSH, I, L))) rfl ?_
                      refine mBF (s3 := (d + 4, 8, 13, [some (.ref 8), some (.int (v0 - 7))], [], 0, 0, (mSH, I, L))) rfl (by first | (simp only [c9]; first | decide | rfl) | decide | rfl) ?_
                      refine mB 2 (s2 := (d + 4, 8, 18, [some (.ref 8), some (.int (v0 - 7))], [.int 1], 0, 0, (mSH, I, L))) rfl ?_
                      refine mRt (r := (some (.int 1))) (h := (mSH, I, L)) rfl rfl ?_
                      show mWP mTb_ mFT ro (d + 5, 10, 5, [some (.ref 8), some (.int (v0 - 7))], [.int 1], 0, 0, (mSH, I, L)) _
                      refine mBF (s3 := (d + 5, 10, 8, [some (.ref 8), some (.int (v0 - 7))], [], 0, 0, (mSH, I, L))) rfl (by decide) ?_
                      refine mB 3 (s2 := (d + 5, 10, 13, [some (.ref 8), some (.int (v0 - 7))], [.int (v0 - 7), .ref 9], 0, 0, (mSH, I, L))) rfl ?_
                      refine mRq (s2 := (d + 5, 10, 14, [some (.ref 8), some (.int (v0 - 7))], [.int (I 9 ((v0 - 7).toNatClampNeg))], 0, 0, (mSH, I, L))) rfl (by first | (simp only [c9]; first | decide | rfl) | decide | rfl) ?_
                      refine mB 1 (s2 := (d + 5, 10, 18, [some (.ref 8), some (.int (v0 - 7))], [.int (I 9 ((v0 - 7).toNatClampNeg))], 0, 0, (mSH, I, L))) rfl ?_
                      refine mRt (r := (some (.int (I 9 ((v0 - 7).toNatClampNeg))))) (h := (mSH, I, L)) rfl (mRet_int rfl) ?_
                      show mWP mTb_ mFT ro (d + 6, 107, 108, [some (.ref 0), some (.int v0)], [.int (I 9 ((v0 - 7).toNatClampNeg))], 0, 0, (mSH, I, L)) _
                      refine mRt (r := (some (.int (I 9 ((v0 - 7).toNatClampNeg))))) (h := (mSH, I, L)) rfl (mRet_int rfl) ?_
                      show mWP mTb_ mFT ro (d + 7, 101, 22, [some (.ref 0), some (.int v0)], [.int (I 9 ((v0 - 7).toNatClampNeg))], 0, 0, (mSH, I, L)) _
                      refine mRt (r := (some (.int (I 9 ((v0 - 7).toNatClampNeg))))) (h := (mSH, I, L)) rfl (mRet_int rfl) ?_
                      exact hq _ _ mFr.rf ⟨hI.1, hI.2.1, hI.2.2.1, hI.2.2.2.1, hI.2.2.2.2.1, hI.2.2.2.2.2.1, hI.2.2.2.2.2.2⟩ ((by have e := c9; subst e; rfl : (I 9 ((v0 - 7).toNatClampNeg)) = tvC I 7).trans (an_tl7 (f := tvC I) c9)) (kc_0 (by have e := c9; subst e; decide) trivial (by rfl))
                    · by_cases c10 : v0 = 8
                      · refine mCall (s2 := (d + 6, 107, 0, [some (.ref 0), some (.int v0)], [], 0, 0, (mSH, I, L))) rfl ?_
                        refine mB 1 (s2 := (d + 6, 107, 1, [some (.ref 0), some (.int v0)], [.int v0], 0, 0, (mSH, I, L))) rfl ?_
                        refine mSw1 (t := (d + 6, 107, 97, [some (.ref 0), some (.int v0)], [], 0, 0, (mSH, I, L))) rfl (by simp only [c10]; rfl) ?_
                        refine mB 5 (s2 := (d + 6, 107, 105, [some (.ref 0), some (.int v0)], [.int (v0 - 7), .ref 8], 0, 0, (mSH, I, L))) rfl ?_
                        refine mCall (s2 := (d + 5, 10, 0, [some (.ref 8), some (.int (v0 - 7))], [], 0, 0, (mSH, I, L))) rfl ?_
                        refine mB 2 (s2 := (d + 5, 10, 2, [some (.ref 8), some (.int (v0 - 7))], [.int (v0 - 7), .ref 8], 0, 0, (mSH, I, L))) rfl ?_
                        refine mCall (s2 := (d + 4, 8, 0, [some (.ref 8), some (.int (v0 - 7))], [], 0, 0, (mSH, I, L))) rfl ?_
                        refine mB 1 (s2 := (d + 4, 8, 1, [some (.ref 8), some (.int (v0 - 7))], [.int (v0 - 7)], 0, 0, (mSH, I, L))) rfl ?_
                        refine mBF (s3 := (d + 4, 8, 4, [some (.ref 8), some (.int (v0 - 7))], [], 0, 0, (mSH, I, L))) rfl (by first | (simp only [c10]; first | decide | rfl) | decide | rfl) ?_
                        refine mB 4 (s2 := (d + 4, 8, 10, [some (.ref 8), some (.int (v0 - 7))], [.int 3, .int (v0 - 7)], 0, 0, (mSH, I, L))) rfl ?_
                        refine mBF (s3 := (d + 4, 8, 13, [some (.ref 8), some (.int (v0 - 7))], [], 0, 0, (mSH, I, L))) rfl (by first | (simp only [c10]; first | decide | rfl) | decide | rfl) ?_
                        refine mB 2 (s2 := (d + 4, 8, 18, [some (.ref 8), some (.int (v0 - 7))], [.int 1], 0, 0, (mSH, I, L))) rfl ?_
                        refine mRt (r := (some (.int 1))) (h := (mSH, I, L)) rfl rfl ?_
                        show mWP mTb_ mFT ro (d + 5, 10, 5, [some (.ref 8), some (.int (v0 - 7))], [.int 1], 0, 0, (mSH, I, L)) _
                        refine mBF (s3 := (d + 5, 10, 8, [some (.ref 8), some (.int (v0 - 7))], [], 0, 0, (mSH, I, L))) rfl (by decide) ?_
                        refine mB 3 (s2 := (d + 5, 10, 13, [some (.ref 8), some (.int (v0 - 7))], [.int (v0 - 7), .ref 9], 0, 0, (mSH, I, L))) rfl ?_
                        refine mRq (s2 := (d + 5, 10, 14, [some (.ref 8), some (.int (v0 - 7))], [.int (I 9 ((v0 - 7).toNatClampNeg))], 0, 0, (mSH, I, L))) rfl (by first | (simp only [c10]; first | decide | rfl) | decide | rfl) ?_
                        refine mB 1 (s2 := (d + 5, 10, 18, [some (.ref 8), some (.int (v0 - 7))], [.int (I 9 ((v0 - 7).toNatClampNeg))], 0, 0, (mSH, I, L))) rfl ?_
                        refine mRt (r := (some (.int (I 9 ((v0 - 7).toNatClampNeg))))) (h := (mSH, I, L)) rfl (mRet_int rfl) ?_
                        show mWP mTb_ mFT ro (d + 6, 107, 108, [some (.ref 0), some (.int v0)], [.int (I 9 ((v0 - 7).toNatClampNeg))], 0, 0, (mSH, I, L)) _
                        refine mRt (r := (some (.int (I 9 ((v0 - 7).toNatClampNeg))))) (h := (mSH, I, L)) rfl (mRet_int rfl) ?_
                        show mWP mTb_ mFT ro (d + 7, 101, 22, [some (.ref 0), some (.int v0)], [.int (I 9 ((v0 - 7).toNatClampNeg))], 0, 0, (mSH, I, L)) _
                        refine mRt (r := (some (.int (I 9 ((v0 - 7).toNatClampNeg))))) (h := (mSH, I, L)) rfl (mRet_int rfl) ?_
                        exact hq _ _ mFr.rf ⟨hI.1, hI.2.1, hI.2.2.1, hI.2.2.2.1, hI.2.2.2.2.1, hI.2.2.2.2.2.1, hI.2.2.2.2.2.2⟩ ((by have e := c10; subst e; rfl : (I 9 ((v0 - 7).toNatClampNeg)) = tvC I 8).trans (an_tl8 (f := tvC I) c10)) (kc_0 (by have e := c10; subst e; decide) trivial (by rfl))
                      · by_cases c11 : v0 = 9
                        · refine mCall (s2 := (d + 6, 107, 0, [some (.ref 0), some (.int v0)], [], 0, 0, (mSH, I, L))) rfl ?_
                          refine mB 1 (s2 := (d + 6, 107, 1, [some (.ref 0), some (.int v0)], [.int v0], 0, 0, (mSH, I, L))) rfl ?_
                          refine mSw1 (t := (d + 6, 107, 97, [some (.ref 0), some (.int v0)], [], 0, 0, (mSH, I, L))) rfl (by simp only [c11]; rfl) ?_
                          refine mB 5 (s2 := (d + 6, 107, 105, [some (.ref 0), some (.int v0)], [.int (v0 - 7), .ref 8], 0, 0, (mSH, I, L))) rfl ?_
                          refine mCall (s2 := (d + 5, 10, 0, [some (.ref 8), some (.int (v0 - 7))], [], 0, 0, (mSH, I, L))) rfl ?_
                          refine mB 2 (s2 := (d + 5, 10, 2, [some (.ref 8), some (.int (v0 - 7))], [.int (v0 - 7), .ref 8], 0, 0, (mSH, I, L))) rfl ?_
                          refine mCall (s2 := (d + 4, 8, 0, [some (.ref 8), some (.int (v0 - 7))], [], 0, 0, (mSH, I, L))) rfl ?_
                          refine mB 1 (s2 := (d + 4, 8, 1, [some (.ref 8), some (.int (v0 - 7))], [.int (v0 - 7)], 0, 0, (mSH, I, L))) rfl ?_
                          refine mBF (s3 := (d + 4, 8, 4, [some (.ref 8), some (.int (v0 - 7))], [], 0, 0, (mSH, I, L))) rfl (by first | (simp only [c11]; first | decide | rfl) | decide | rfl) ?_
                          refine mB 4 (s2 := (d + 4, 8, 10, [some (.ref 8), some (.int (v0 - 7))], [.int 3, .int (v0 - 7)], 0, 0, (mSH, I, L))) rfl ?_
                          refine mBF (s3 := (d + 4, 8, 13, [some (.ref 8), some (.int (v0 - 7))], [], 0, 0, (mSH, I, L))) rfl (by first | (simp only [c11]; first | decide | rfl) | decide | rfl) ?_
                          refine mB 2 (s2 := (d + 4, 8, 18, [some (.ref 8), some (.int (v0 - 7))], [.int 1], 0, 0, (mSH, I, L))) rfl ?_
                          refine mRt (r := (some (.int 1))) (h := (mSH, I, L)) rfl rfl ?_
                          show mWP mTb_ mFT ro (d + 5, 10, 5, [some (.ref 8), some (.int (v0 - 7))], [.int 1], 0, 0, (mSH, I, L)) _
                          refine mBF (s3 := (d + 5, 10, 8, [some (.ref 8), some (.int (v0 - 7))], [], 0, 0, (mSH, I, L))) rfl (by decide) ?_
                          refine mB 3 (s2 := (d + 5, 10, 13, [some (.ref 8), some (.int (v0 - 7))], [.int (v0 - 7), .ref 9], 0, 0, (mSH, I, L))) rfl ?_
                          refine mRq (s2 := (d + 5, 10, 14, [some (.ref 8), some (.int (v0 - 7))], [.int (I 9 ((v0 - 7).toNatClampNeg))], 0, 0, (mSH, I, L))) rfl (by first | (simp only [c11]; first | decide | rfl) | decide | rfl) ?_
                          refine mB 1 (s2 := (d + 5, 10, 18, [some (.ref 8), some (.int (v0 - 7))], [.int (I 9 ((v0 - 7).toNatClampNeg))], 0, 0, (mSH, I, L))) rfl ?_
                          refine mRt (r := (some (.int (I 9 ((v0 - 7).toNatClampNeg))))) (h := (mSH, I, L)) rfl (mRet_int rfl) ?_
                          show mWP mTb_ mFT ro (d + 6, 107, 108, [some (.ref 0), some (.int v0)], [.int (I 9 ((v0 - 7).toNatClampNeg))], 0, 0, (mSH, I, L)) _
                          refine mRt (r := (some (.int (I 9 ((v0 - 7).toNatClampNeg))))) (h := (mSH, I, L)) rfl (mRet_int rfl) ?_
                          show mWP mTb_ mFT ro (d + 7, 101, 22, [some (.ref 0), some (.int v0)], [.int (I 9 ((v0 - 7).toNatClampNeg))], 0, 0, (mSH, I, L)) _
                          refine mRt (r := (some (.int (I 9 ((v0 - 7).toNatClampNeg))))) (h := (mSH, I, L)) rfl (mRet_int rfl) ?_
                          exact hq _ _ mFr.rf ⟨hI.1, hI.2.1, hI.2.2.1, hI.2.2.2.1, hI.2.2.2.2.1, hI.2.2.2.2.2.1, hI.2.2.2.2.2.2⟩ ((by have e := c11; subst e; rfl : (I 9 ((v0 - 7).toNatClampNeg)) = tvC I 9).trans (an_tl9 (f := tvC I) c11)) (kc_0 (by have e := c11; subst e; decide) trivial (by rfl))
                        · refine mCall (s2 := (d + 6, 107, 0, [some (.ref 0), some (.int v0)], [], 0, 0, (mSH, I, L))) rfl ?_
                          refine mB 1 (s2 := (d + 6, 107, 1, [some (.ref 0), some (.int v0)], [.int v0], 0, 0, (mSH, I, L))) rfl ?_
                          refine mSwA (l := [(decide (v0.toInt < 0 ∨ 6 < v0.toInt), (d + 6, 107, 97, [some (.ref 0), some (.int v0)], [], 0, 0, (mSH, I, L))), (decide (v0.toInt = 0), (d + 6, 107, 44, [some (.ref 0), some (.int v0)], [], 0, 0, (mSH, I, L))), (decide (v0.toInt = 1), (d + 6, 107, 49, [some (.ref 0), some (.int v0)], [], 0, 0, (mSH, I, L))), (decide (v0.toInt = 2), (d + 6, 107, 54, [some (.ref 0), some (.int v0)], [], 0, 0, (mSH, I, L))), (decide (v0.toInt = 3), (d + 6, 107, 59, [some (.ref 0), some (.int v0)], [], 0, 0, (mSH, I, L))), (decide (v0.toInt = 4), (d + 6, 107, 67, [some (.ref 0), some (.int v0)], [], 0, 0, (mSH, I, L))), (decide (v0.toInt = 5), (d + 6, 107, 78, [some (.ref 0), some (.int v0)], [], 0, 0, (mSH, I, L))), (decide (v0.toInt = 6), (d + 6, 107, 89, [some (.ref 0), some (.int v0)], [], 0, 0, (mSH, I, L)))]) rfl ⟨fun c12 => ?_, fun c12 => ?_, fun c12 => ?_, fun c12 => ?_, fun c12 => ?_, fun c12 => ?_, fun c12 => ?_, fun c12 => ?_, trivial⟩
                          · refine mB 5 (s2 := (d + 6, 107, 105, [some (.ref 0), some (.int v0)], [.int (v0 - 7), .ref 8], 0, 0, (mSH, I, L))) rfl ?_
                            refine mCall (s2 := (d + 5, 10, 0, [some (.ref 8), some (.int (v0 - 7))], [], 0, 0, (mSH, I, L))) rfl ?_
                            refine mB 2 (s2 := (d + 5, 10, 2, [some (.ref 8), some (.int (v0 - 7))], [.int (v0 - 7), .ref 8], 0, 0, (mSH, I, L))) rfl ?_
                            refine mCall (s2 := (d + 4, 8, 0, [some (.ref 8), some (.int (v0 - 7))], [], 0, 0, (mSH, I, L))) rfl ?_
                            refine mB 1 (s2 := (d + 4, 8, 1, [some (.ref 8), some (.int (v0 - 7))], [.int (v0 - 7)], 0, 0, (mSH, I, L))) rfl ?_
                            refine mBr (s2 := (d + 4, 8, 17, [some (.ref 8), some (.int (v0 - 7))], [], 0, 0, (mSH, I, L))) (s3 := (d + 4, 8, 4, [some (.ref 8), some (.int (v0 - 7))], [], 0, 0, (mSH, I, L))) rfl (fun c13 => ?_) (fun c13 => ?_)
                            · refine mB 1 (s2 := (d + 4, 8, 18, [some (.ref 8), some (.int (v0 - 7))], [.int 0], 0, 0, (mSH, I, L))) rfl ?_
                              refine mRt (r := (some (.int 0))) (h := (mSH, I, L)) rfl rfl ?_
                              show mWP mTb_ mFT ro (d + 5, 10, 5, [some (.ref 8), some (.int (v0 - 7))], [.int 0], 0, 0, (mSH, I, L)) _
                              refine mBT (s2 := (d + 5, 10, 17, [some (.ref 8), some (.int (v0 - 7))], [], 0, 0, (mSH, I, L))) rfl (by decide) ?_
                              refine mB 1 (s2 := (d + 5, 10, 18, [some (.ref 8), some (.int (v0 - 7))], [.int 0], 0, 0, (mSH, I, L))) rfl ?_
                              refine mRt (r := (some (.int 0))) (h := (mSH, I, L)) rfl (mRet_int rfl) ?_
                              show mWP mTb_ mFT ro (d + 6, 107, 108, [some (.ref 0), some (.int v0)], [.int 0], 0, 0, (mSH, I, L)) _
                              refine mRt (r := (some (.int 0))) (h := (mSH, I, L)) rfl (mRet_int rfl) ?_
                              show mWP mTb_ mFT ro (d + 7, 101, 22, [some (.ref 0), some (.int v0)], [.int 0], 0, 0, (mSH, I, L)) _
                              refine mRt (r := (some (.int 0))) (h := (mSH, I, L)) rfl (mRet_int rfl) ?_
                              exact False.elim (by have a0 := of_decide_eq_false c0; have a1 := of_decide_eq_true c1; have a2 := c2; have a3 := c3; have a4 := c4; have a5 := c5; have a6 := c6; have a7 := c7; have a8 := c8; have a9 := c9; have a10 := c10; have a11 := c11; have a12 := of_decide_eq_true c13; simp only [Int32.lt_iff_toInt_lt, Int32.le_iff_toInt_le, ← Int32.toInt_inj, mLi0, mLi1, mLi2, mLi3, mLi4, mLi5, mLi6, mLi7, mLi8, mLi9, mLi10, mLi16, mLi32, mLi48, mLi57, mLi59, mLi65, mLi90, mLi97, mLi99, mLi120, mLi122, mLi127, mLi1584, mLi999999, mLim] at a0 a1 a2 a3 a4 a5 a6 a7 a8 a9 a10 a11 a12 <;> omega)
                            · refine mB 4 (s2 := (d + 4, 8, 10, [some (.ref 8), some (.int (v0 - 7))], [.int 3, .int (v0 - 7)], 0, 0, (mSH, I, L))) rfl ?_
                              refine mBr (s2 := (d + 4, 8, 17, [some (.ref 8), some (.int (v0 - 7))], [], 0, 0, (mSH, I, L))) (s3 := (d + 4, 8, 13, [some (.ref 8), some (.int (v0 - 7))], [], 0, 0, (mSH, I, L))) rfl (fun c14 => ?_) (fun c14 => ?_)
                              · refine mB 1 (s2 := (d + 4, 8, 18, [some (.ref 8), some (.int (v0 - 7))], [.int 0], 0, 0, (mSH, I, L))) rfl ?_
                                refine mRt (r := (some (.int 0))) (h := (mSH, I, L)) rfl rfl ?_
                                show mWP mTb_ mFT ro (d + 5, 10, 5, [some (.ref 8), some (.int (v0 - 7))], [.int 0], 0, 0, (mSH, I, L)) _
                                refine mBT (s2 := (d + 5, 10, 17, [some (.ref 8), some (.int (v0 - 7))], [], 0, 0, (mSH, I, L))) rfl (by decide) ?_
                                refine mB 1 (s2 := (d + 5, 10, 18, [some (.ref 8), some (.int (v0 - 7))], [.int 0], 0, 0, (mSH, I, L))) rfl ?_
                                refine mRt (r := (some (.int 0))) (h := (mSH, I, L)) rfl (mRet_int rfl) ?_
                                show mWP mTb_ mFT ro (d + 6, 107, 108, [some (.ref 0), some (.int v0)], [.int 0], 0, 0, (mSH, I, L)) _
                                refine mRt (r := (some (.int 0))) (h := (mSH, I, L)) rfl (mRet_int rfl) ?_
                                show mWP mTb_ mFT ro (d + 7, 101, 22, [some (.ref 0), some (.int v0)], [.int 0], 0, 0, (mSH, I, L)) _
                                refine mRt (r := (some (.int 0))) (h := (mSH, I, L)) rfl (mRet_int rfl) ?_
                                exact False.elim (by have a0 := of_decide_eq_false c0; have a1 := of_decide_eq_true c1; have a2 := c2; have a3 := c3; have a4 := c4; have a5 := c5; have a6 := c6; have a7 := c7; have a8 := c8; have a9 := c9; have a10 := c10; have a11 := c11; have a12 := of_decide_eq_false c13; have a13 := of_decide_eq_true c14; simp only [Int32.lt_iff_toInt_lt, Int32.le_iff_toInt_le, ← Int32.toInt_inj, mLi0, mLi1, mLi2, mLi3, mLi4, mLi5, mLi6, mLi7, mLi8, mLi9, mLi10, mLi16, mLi32, mLi48, mLi57, mLi59, mLi65, mLi90, mLi97, mLi99, mLi120, mLi122, mLi127, mLi1584, mLi999999, mLim] at a0 a1 a2 a3 a4 a5 a6 a7 a8 a9 a10 a11 a12 a13 <;> omega)
                              · refine mB 2 (s2 := (d + 4, 8, 18, [some (.ref 8), some (.int (v0 - 7))], [.int 1], 0, 0, (mSH, I, L))) rfl ?_
                                refine mRt (r := (some (.int 1))) (h := (mSH, I, L)) rfl rfl ?_
                                show mWP mTb_ mFT ro (d + 5, 10, 5, [some (.ref 8), some (.int (v0 - 7))], [.int 1], 0, 0, (mSH, I, L)) _
                                refine mBF (s3 := (d + 5, 10, 8, [some (.ref 8), some (.int (v0 - 7))], [], 0, 0, (mSH, I, L))) rfl (by decide) ?_
                                refine mB 3 (s2 := (d + 5, 10, 13, [some (.ref 8), some (.int (v0 - 7))], [.int (v0 - 7), .ref 9], 0, 0, (mSH, I, L))) rfl ?_
                                refine mRq (s2 := (d + 5, 10, 14, [some (.ref 8), some (.int (v0 - 7))], [.int (I 9 ((v0 - 7).toNatClampNeg))], 0, 0, (mSH, I, L))) rfl (mVp_of (vp_in_iff.mpr (by have a0 := of_decide_eq_false c0; have a1 := of_decide_eq_true c1; have a2 := c2; have a3 := c3; have a4 := c4; have a5 := c5; have a6 := c6; have a7 := c7; have a8 := c8; have a9 := c9; have a10 := c10; have a11 := c11; have a12 := of_decide_eq_false c13; have a13 := of_decide_eq_false c14; simp only [Int32.lt_iff_toInt_lt, Int32.le_iff_toInt_le, ← Int32.toInt_inj, mLi0, mLi1, mLi2, mLi3, mLi4, mLi5, mLi6, mLi7, mLi8, mLi9, mLi10, mLi16, mLi32, mLi48, mLi57, mLi59, mLi65, mLi90, mLi97, mLi99, mLi120, mLi122, mLi127, mLi1584, mLi999999, mLim] at a0 a1 a2 a3 a4 a5 a6 a7 a8 a9 a10 a11 a12 a13 ⊢; omega))) ?_
                                refine mB 1 (s2 := (d + 5, 10, 18, [some (.ref 8), some (.int (v0 - 7))], [.int (I 9 ((v0 - 7).toNatClampNeg))], 0, 0, (mSH, I, L))) rfl ?_
                                refine mRt (r := (some (.int (I 9 ((v0 - 7).toNatClampNeg))))) (h := (mSH, I, L)) rfl (mRet_int rfl) ?_
                                show mWP mTb_ mFT ro (d + 6, 107, 108, [some (.ref 0), some (.int v0)], [.int (I 9 ((v0 - 7).toNatClampNeg))], 0, 0, (mSH, I, L)) _
                                refine mRt (r := (some (.int (I 9 ((v0 - 7).toNatClampNeg))))) (h := (mSH, I, L)) rfl (mRet_int rfl) ?_
                                show mWP mTb_ mFT ro (d + 7, 101, 22, [some (.ref 0), some (.int v0)], [.int (I 9 ((v0 - 7).toNatClampNeg))], 0, 0, (mSH, I, L)) _
                                refine mRt (r := (some (.int (I 9 ((v0 - 7).toNatClampNeg))))) (h := (mSH, I, L)) rfl (mRet_int rfl) ?_
                                exact False.elim (by have a0 := of_decide_eq_false c0; have a1 := of_decide_eq_true c1; have a2 := c2; have a3 := c3; have a4 := c4; have a5 := c5; have a6 := c6; have a7 := c7; have a8 := c8; have a9 := c9; have a10 := c10; have a11 := c11; have a12 := of_decide_eq_false c13; have a13 := of_decide_eq_false c14; simp only [Int32.lt_iff_toInt_lt, Int32.le_iff_toInt_le, ← Int32.toInt_inj, mLi0, mLi1, mLi2, mLi3, mLi4, mLi5, mLi6, mLi7, mLi8, mLi9, mLi10, mLi16, mLi32, mLi48, mLi57, mLi59, mLi65, mLi90, mLi97, mLi99, mLi120, mLi122, mLi127, mLi1584, mLi999999, mLim] at a0 a1 a2 a3 a4 a5 a6 a7 a8 a9 a10 a11 a12 a13 <;> omega)
                          · refine mB 2 (s2 := (d + 6, 107, 48, [some (.ref 0), some (.int v0)], [.int (I 0 9)], 0, 0, (mSH, I, L))) rfl ?_
                            refine mRt (r := (some (.int (I 0 9)))) (h := (mSH, I, L)) rfl (mRet_int rfl) ?_
                            show mWP mTb_ mFT ro (d + 7, 101, 22, [some (.ref 0), some (.int v0)], [.int (I 0 9)], 0, 0, (mSH, I, L)) _
                            refine mRt (r := (some (.int (I 0 9)))) (h := (mSH, I, L)) rfl (mRet_int rfl) ?_
                            exact hq _ _ mFr.rf ⟨hI.1, hI.2.1, hI.2.2.1, hI.2.2.2.1, hI.2.2.2.2.1, hI.2.2.2.2.2.1, hI.2.2.2.2.2.2⟩ ((by have e := mTI (y := 0) (of_decide_eq_true c12) rfl; subst e; rfl : (I 0 9) = tvC I 0).trans (an_tl0 (f := tvC I) (mTI (y := 0) (of_decide_eq_true c12) rfl))) (kc_0 (by have e := mTI (y := 0) (of_decide_eq_true c12) rfl; subst e; decide) trivial (by rfl))
                          · refine mB 2 (s2 := (d + 6, 107, 53, [some (.ref 0), some (.int v0)], [.int (I 0 10)], 0, 0, (mSH, I, L))) rfl ?_
                            refine mRt (r := (some (.int (I 0 10)))) (h := (mSH, I, L)) rfl (mRet_int rfl) ?_
                            show mWP mTb_ mFT ro (d + 7, 101, 22, [some (.ref 0), some (.int v0)], [.int (I 0 10)], 0, 0, (mSH, I, L)) _
                            refine mRt (r := (some (.int (I 0 10)))) (h := (mSH, I, L)) rfl (mRet_int rfl) ?_
                            exact hq _ _ mFr.rf ⟨hI.1, hI.2.1, hI.2.2.1, hI.2.2.2.1, hI.2.2.2.2.1, hI.2.2.2.2.2.1, hI.2.2.2.2.2.2⟩ ((by have e := mTI (y := 1) (of_decide_eq_true c12) rfl; subst e; rfl : (I 0 10) = tvC I 1).trans (an_tl1 (f := tvC I) (mTI (y := 1) (of_decide_eq_true c12) rfl))) (kc_0 (by have e := mTI (y := 1) (of_decide_eq_true c12) rfl; subst e; decide) trivial (by rfl))
                          · refine mB 2 (s2 := (d + 6, 107, 58, [some (.ref 0), some (.int v0)], [.int (I 0 11)], 0, 0, (mSH, I, L))) rfl ?_
                            refine mRt (r := (some (.int (I 0 11)))) (h := (mSH, I, L)) rfl (mRet_int rfl) ?_
                            show mWP mTb_ mFT ro (d + 7, 101, 22, [some (.ref 0), some (.int v0)], [.int (I 0 11)], 0, 0, (mSH, I, L)) _
                            refine mRt (r := (some (.int (I 0 11)))) (h := (mSH, I, L)) rfl (mRet_int rfl) ?_
                            exact hq _ _ mFr.rf ⟨hI.1, hI.2.1, hI.2.2.1, hI.2.2.2.1, hI.2.2.2.2.1, hI.2.2.2.2.2.1, hI.2.2.2.2.2.2⟩ ((by have e := mTI (y := 2) (of_decide_eq_true c12) rfl; subst e; rfl : (I 0 11) = tvC I 2).trans (an_tl2 (f := tvC I) (mTI (y := 2) (of_decide_eq_true c12) rfl))) (kc_0 (by have e := mTI (y := 2) (of_decide_eq_true c12) rfl; subst e; decide) trivial (by rfl))
                          · refine mB 2 (s2 := (d + 6, 107, 63, [some (.ref 0), some (.int v0)], [.ref 26], 0, 0, (mSH, I, L))) rfl ?_
                            refine mCall (s2 := (d + 5, 39, 0, [some (.ref 26)], [], 0, 0, (mSH, I, L))) rfl ?_
                            refine mB 2 (s2 := (d + 5, 39, 4, [some (.ref 26)], [.int (I 26 1)], 0, 0, (mSH, I, L))) rfl ?_
                            refine mRt (r := (some (.int (I 26 1)))) (h := (mSH, I, L)) rfl (mRet_int rfl) ?_
                            show mWP mTb_ mFT ro (d + 6, 107, 66, [some (.ref 0), some (.int v0)], [.int (I 26 1)], 0, 0, (mSH, I, L)) _
                            refine mRt (r := (some (.int (I 26 1)))) (h := (mSH, I, L)) rfl (mRet_int rfl) ?_
                            show mWP mTb_ mFT ro (d + 7, 101, 22, [some (.ref 0), some (.int v0)], [.int (I 26 1)], 0, 0, (mSH, I, L)) _
                            refine mRt (r := (some (.int (I 26 1)))) (h := (mSH, I, L)) rfl (mRet_int rfl) ?_
                            exact hq _ _ mFr.rf ⟨hI.1, hI.2.1, hI.2.2.1, hI.2.2.2.1, hI.2.2.2.2.1, hI.2.2.2.2.2.1, hI.2.2.2.2.2.2⟩ ((by have e := mTI (y := 3) (of_decide_eq_true c12) rfl; subst e; rfl : (I 26 1) = tvC I 3).trans (an_tl3 (f := tvC I) (mTI (y := 3) (of_decide_eq_true c12) rfl))) (kc_0 (by have e := mTI (y := 3) (of_decide_eq_true c12) rfl; subst e; decide) trivial (by rfl))
                          · refine mB 3 (s2 := (d + 6, 107, 74, [some (.ref 0), some (.int v0)], [.ref 2], 0, 0, (mSH, I, L))) rfl ?_
                            refine mCall (s2 := (d + 5, 39, 0, [some (.ref 2)], [], 0, 0, (mSH, I, L))) rfl ?_
                            refine mB 2 (s2 := (d + 5, 39, 4, [some (.ref 2)], [.int (I 2 1)], 0, 0, (mSH, I, L))) rfl ?_
                            refine mRt (r := (some (.int (I 2 1)))) (h := (mSH, I, L)) rfl (mRet_int rfl) ?_
                            show mWP mTb_ mFT ro (d + 6, 107, 77, [some (.ref 0), some (.int v0)], [.int (I 2 1)], 0, 0, (mSH, I, L)) _
                            refine mRt (r := (some (.int (I 2 1)))) (h := (mSH, I, L)) rfl (mRet_int rfl) ?_
                            show mWP mTb_ mFT ro (d + 7, 101, 22, [some (.ref 0), some (.int v0)], [.int (I 2 1)], 0, 0, (mSH, I, L)) _
                            refine mRt (r := (some (.int (I 2 1)))) (h := (mSH, I, L)) rfl (mRet_int rfl) ?_
                            exact hq _ _ mFr.rf ⟨hI.1, hI.2.1, hI.2.2.1, hI.2.2.2.1, hI.2.2.2.2.1, hI.2.2.2.2.2.1, hI.2.2.2.2.2.2⟩ ((by have e := mTI (y := 4) (of_decide_eq_true c12) rfl; subst e; rfl : (I 2 1) = tvC I 4).trans (an_tl4 (f := tvC I) (mTI (y := 4) (of_decide_eq_true c12) rfl))) (kc_0 (by have e := mTI (y := 4) (of_decide_eq_true c12) rfl; subst e; decide) trivial (by rfl))
                          · refine mB 3 (s2 := (d + 6, 107, 85, [some (.ref 0), some (.int v0)], [.ref 4], 0, 0, (mSH, I, L))) rfl ?_
                            refine mCall (s2 := (d + 5, 39, 0, [some (.ref 4)], [], 0, 0, (mSH, I, L))) rfl ?_
                            refine mB 2 (s2 := (d + 5, 39, 4, [some (.ref 4)], [.int (I 4 1)], 0, 0, (mSH, I, L))) rfl ?_
                            refine mRt (r := (some (.int (I 4 1)))) (h := (mSH, I, L)) rfl (mRet_int rfl) ?_
                            show mWP mTb_ mFT ro (d + 6, 107, 88, [some (.ref 0), some (.int v0)], [.int (I 4 1)], 0, 0, (mSH, I, L)) _
                            refine mRt (r := (some (.int (I 4 1)))) (h := (mSH, I, L)) rfl (mRet_int rfl) ?_
                            show mWP mTb_ mFT ro (d + 7, 101, 22, [some (.ref 0), some (.int v0)], [.int (I 4 1)], 0, 0, (mSH, I, L)) _
                            refine mRt (r := (some (.int (I 4 1)))) (h := (mSH, I, L)) rfl (mRet_int rfl) ?_
                            exact hq _ _ mFr.rf ⟨hI.1, hI.2.1, hI.2.2.1, hI.2.2.2.1, hI.2.2.2.2.1, hI.2.2.2.2.2.1, hI.2.2.2.2.2.2⟩ ((by have e := mTI (y := 5) (of_decide_eq_true c12) rfl; subst e; rfl : (I 4 1) = tvC I 5).trans (an_tl5 (f := tvC I) (mTI (y := 5) (of_decide_eq_true c12) rfl))) (kc_0 (by have e := mTI (y := 5) (of_decide_eq_true c12) rfl; subst e; decide) trivial (by rfl))
                          · refine mB 3 (s2 := (d + 6, 107, 96, [some (.ref 0), some (.int v0)], [.int (I 1 2)], 0, 0, (mSH, I, L))) rfl ?_
                            refine mRt (r := (some (.int (I 1 2)))) (h := (mSH, I, L)) rfl (mRet_int rfl) ?_
                            show mWP mTb_ mFT ro (d + 7, 101, 22, [some (.ref 0), some (.int v0)], [.int (I 1 2)], 0, 0, (mSH, I, L)) _
                            refine mRt (r := (some (.int (I 1 2)))) (h := (mSH, I, L)) rfl (mRet_int rfl) ?_
                            exact hq _ _ mFr.rf ⟨hI.1, hI.2.1, hI.2.2.1, hI.2.2.2.1, hI.2.2.2.2.1, hI.2.2.2.2.2.1, hI.2.2.2.2.2.2⟩ ((by have e := mTI (y := 6) (of_decide_eq_true c12) rfl; subst e; rfl : (I 1 2) = tvC I 6).trans (an_tl6 (f := tvC I) (mTI (y := 6) (of_decide_eq_true c12) rfl))) (kc_0 (by have e := mTI (y := 6) (of_decide_eq_true c12) rfl; subst e; decide) trivial (by rfl))
    · refine mB 2 (s2 := (d + 7, 101, 13, [some (.ref 0), some (.int v0)], [.int (-2), .ref 0], 0, 0, (mSH, I, L))) rfl ?_
      refine mCall (s2 := (d + 6, 103, 0, [some (.ref 0), some (.int (-2))], [], 0, 0, (mSH, I, L))) rfl ?_
      refine mB 2 (s2 := (d + 6, 103, 3, [some (.ref 0), some (.int (-2))], [.int (-2), .int (-2)], 0, 0, (mSH, I, L))) rfl ?_
      refine mBT (s2 := (d + 6, 103, 6, [some (.ref 0), some (.int (-2))], [], 0, 0, (mSH, I, L))) rfl (by decide) ?_
      refine mB 8 (s2 := (d + 6, 103, 49, [some (.ref 0), some (.int (-2))], [.int (-2)], 0, 0, (mSH, (mUp I 0 9 ((I 0 9) + 1)), L))) rfl ?_
      refine mRt (r := (some (.int (-2)))) (h := (mSH, (mUp I 0 9 ((I 0 9) + 1)), L)) rfl (mRet_int rfl) ?_
      show mWP mTb_ mFT ro (d + 7, 101, 16, [some (.ref 0), some (.int v0)], [.int (-2)], 0, 0, (mSH, (mUp I 0 9 ((I 0 9) + 1)), L)) _
      refine mRt (r := (some (.int (-2)))) (h := (mSH, (mUp I 0 9 ((I 0 9) + 1)), L)) rfl (mRet_int rfl) ?_
      exact hq _ _ (mFr.up (by rfl) mFr.rf) ⟨hI.1, hI.2.1, hI.2.2.1, hI.2.2.2.1, hI.2.2.2.2.1, hI.2.2.2.2.2.1, (mRk.up hI.2.2.2.2.2.2 (by rfl) (by rfl))⟩ (if_neg (c := an_tk v0) (by have a0 := of_decide_eq_false c0; have a1 := of_decide_eq_false c1; simp only [Int32.lt_iff_toInt_lt, Int32.le_iff_toInt_le, ← Int32.toInt_inj, mLi0, mLi1, mLi2, mLi3, mLi4, mLi5, mLi6, mLi7, mLi8, mLi9, mLi10, mLi16, mLi32, mLi48, mLi57, mLi59, mLi65, mLi90, mLi97, mLi99, mLi120, mLi122, mLi127, mLi1584, mLi999999, mLim] at a0 a1 <;> omega)).symm (kc_1 (by have a0 := of_decide_eq_false c0; have a1 := of_decide_eq_false c1; simp only [Int32.lt_iff_toInt_lt, Int32.le_iff_toInt_le, ← Int32.toInt_inj, mLi0, mLi1, mLi2, mLi3, mLi4, mLi5, mLi6, mLi7, mLi8, mLi9, mLi10, mLi16, mLi32, mLi48, mLi57, mLi59, mLi65, mLi90, mLi97, mLi99, mLi120, mLi122, mLi127, mLi1584, mLi999999, mLim] at a0 a1 <;> omega) (by rfl))
theorem z_ntold {ro : Nat → Nat × (Nat → Int32)} {Q : mPo} {d : Nat} {I : Nat → Nat → Int32} {L : Nat → Nat → Int64} {s n t : Nat} {v0 : Int32} (hm : mM s n t I) (hq : ∀ r I1, mGw I I1 → mIM I1 → r = an_told (tvM I) v0 → kM (cdN (an_tk v0) True) I I1 → Q (some (.int r)) (mSH, I1, L))   : mWP mTb_ mFT ro (d + 5, 158, 0, [some (.ref 34), some (.int v0)], [], 0, 0, (mSH, I, L)) Q := by
  refine mB 3 (s2 := (d + 5, 158, 4, [some (.ref 34), some (.int v0)], [.int 9, .int 0, .int v0], 0, 0, (mSH, I, L))) rfl ?_
  refine mCall (s2 := (d + 4, 112, 0, [some (.int v0), some (.int 0), some (.int 9)], [], 0, 0, (mSH, I, L))) rfl ?_
  refine mB 2 (s2 := (d + 4, 112, 2, [some (.int v0), some (.int 0), some (.int 9)], [.int 0, .int v0], 0, 0, (mSH, I, L))) rfl ?_
  refine mBr (s2 := (d + 4, 112, 14, [some (.int v0), some (.int 0), some (.int 9)], [], 0, 0, (mSH, I, L))) (s3 := (d + 4, 112, 5, [some (.int v0), some (.int 0), some (.int 9)], [], 0, 0, (mSH, I, L))) rfl (fun c0 => ?_) (fun c0 => ?_)
  · refine mB 1 (s2 := (d + 4, 112, 15, [some (.int v0), some (.int 0), some (.int 9)], [.int 0], 0, 0, (mSH, I, L))) rfl ?_
    refine mRt (r := (some (.int 0))) (h := (mSH, I, L)) rfl rfl ?_
    show mWP mTb_ mFT ro (d + 5, 158, 7, [some (.ref 34), some (.int v0)], [.int 0], 0, 0, (mSH, I, L)) _
    refine mBT (s2 := (d + 5, 158, 18, [some (.ref 34), some (.int v0)], [], 0, 0, (mSH, I, L))) rfl (by decide) ?_
    refine mB 2 (s2 := (d + 5, 158, 21, [some (.ref 34), some (.int v0)], [.int (-2), .ref 34], 0, 0, (mSH, I, L))) rfl ?_
    refine mCall (s2 := (d + 4, 113, 0, [some (.ref 34), some (.int (-2))], [], 0, 0, (mSH, I, L))) rfl ?_
    refine mB 6 (s2 := (d + 4, 113, 9, [some (.ref 34), some (.int (-2))], [.int 0, .ref 39, .int 0, .ref 39], 0, 0, (mSH, I, L))) rfl ?_
    refine mRq (s2 := (d + 4, 113, 10, [some (.ref 34), some (.int (-2))], [.int (I 39 0), .int 0, .ref 39], 0, 0, (mSH, I, L))) rfl (by decide) ?_
    refine mB 2 (s2 := (d + 4, 113, 12, [some (.ref 34), some (.int (-2))], [.int ((I 39 0) + 1), .int 0, .ref 39], 0, 0, (mSH, I, L))) rfl ?_
    refine mRq (s2 := (d + 4, 113, 13, [some (.ref 34), some (.int (-2))], [], 0, 0, (mSH, (mUp I 39 0 ((I 39 0) + 1)), L))) rfl (by decide) ?_
    refine mB 1 (s2 := (d + 4, 113, 14, [some (.ref 34), some (.int (-2))], [.int (-2)], 0, 0, (mSH, (mUp I 39 0 ((I 39 0) + 1)), L))) rfl ?_
    refine mRt (r := (some (.int (-2)))) (h := (mSH, (mUp I 39 0 ((I 39 0) + 1)), L)) rfl (mRet_int rfl) ?_
    show mWP mTb_ mFT ro (d + 5, 158, 24, [some (.ref 34), some (.int v0)], [.int (-2)], 0, 0, (mSH, (mUp I 39 0 ((I 39 0) + 1)), L)) _
    refine mRt (r := (some (.int (-2)))) (h := (mSH, (mUp I 39 0 ((I 39 0) + 1)), L)) rfl (mRet_int rfl) ?_
    exact hq _ _ (mGr.w39 mGr.rf) ⟨s, n, t, ((mGr.w39 mGr.rf)).m hm⟩ (if_neg (c := an_tk v0) (by have a0 := of_decide_eq_true c0; simp only [Int32.lt_iff_toInt_lt, Int32.le_iff_toInt_le, ← Int32.toInt_inj, mLi0, mLi1, mLi2, mLi3, mLi4, mLi5, mLi6, mLi7, mLi8, mLi9, mLi10, mLi16, mLi32, mLi48, mLi57, mLi59, mLi65, mLi90, mLi97, mLi99, mLi120, mLi122, mLi127, mLi1584, mLi999999, mLim] at a0 <;> omega)).symm (km_1 (by have a0 := of_decide_eq_true c0; simp only [Int32.lt_iff_toInt_lt, Int32.le_iff_toInt_le, ← Int32.toInt_inj, mLi0, mLi1, mLi2, mLi3, mLi4, mLi5, mLi6, mLi7, mLi8, mLi9, mLi10, mLi16, mLi32, mLi48, mLi57, mLi59, mLi65, mLi90, mLi97, mLi99, mLi120, mLi122, mLi127, mLi1584, mLi999999, mLim] at a0 <;> omega) (by rfl))
  · refine mB 2 (s2 := (d + 4, 112, 7, [some (.int v0), some (.int 0), some (.int 9)], [.int 9, .int v0], 0, 0, (mSH, I, L))) rfl ?_
    refine mBr (s2 := (d + 4, 112, 14, [some (.int v0), some (.int 0), some (.int 9)], [], 0, 0, (mSH, I, L))) (s3 := (d + 4, 112, 10, [some (.int v0), some (.int 0), some (.int 9)], [], 0, 0, (mSH, I, L))) rfl (fun c1 => ?_) (fun c1 => ?_)
    · refine mB 1 (s2 := (d + 4, 112, 15, [some (.int v0), some (.int 0), some (.int 9)], [.int 0], 0, 0, (mSH, I, L))) rfl ?_
      refine mRt (r := (some (.int 0))) (h := (mSH, I, L)) rfl rfl ?_
      show mWP mTb_ mFT ro (d + 5, 158, 7, [some (.ref 34), some (.int v0)], [.int 0], 0, 0, (mSH, I, L)) _
      refine mBT (s2 := (d + 5, 158, 18, [some (.ref 34), some (.int v0)], [], 0, 0, (mSH, I, L))) rfl (by decide) ?_
      refine mB 2 (s2 := (d + 5, 158, 21, [some (.ref 34), some (.int v0)], [.int (-2), .ref 34], 0, 0, (mSH, I, L))) rfl ?_
      refine mCall (s2 := (d + 4, 113, 0, [some (.ref 34), some (.int (-2))], [], 0, 0, (mSH, I, L))) rfl ?_
      refine mB 6 (s2 := (d + 4, 113, 9, [some (.ref 34), some (.int (-2))], [.int 0, .ref 39, .int 0, .ref 39], 0, 0, (mSH, I, L))) rfl ?_
      refine mRq (s2 := (d + 4, 113, 10, [some (.ref 34), some (.int (-2))], [.int (I 39 0), .int 0, .ref 39], 0, 0, (mSH, I, L))) rfl (by decide) ?_
      refine mB 2 (s2 := (d + 4, 113, 12, [some (.ref 34), some (.int (-2))], [.int ((I 39 0) + 1), .int 0, .ref 39], 0, 0, (mSH, I, L))) rfl ?_
      refine mRq (s2 := (d + 4, 113, 13, [some (.ref 34), some (.int (-2))], [], 0, 0, (mSH, (mUp I 39 0 ((I 39 0) + 1)), L))) rfl (by decide) ?_
      refine mB 1 (s2 := (d + 4, 113, 14, [some (.ref 34), some (.int (-2))], [.int (-2)], 0, 0, (mSH, (mUp I 39 0 ((I 39 0) + 1)), L))) rfl ?_
      refine mRt (r := (some (.int (-2)))) (h := (mSH, (mUp I 39 0 ((I 39 0) + 1)), L)) rfl (mRet_int rfl) ?_
      show mWP mTb_ mFT ro (d + 5, 158, 24, [some (.ref 34), some (.int v0)], [.int (-2)], 0, 0, (mSH, (mUp I 39 0 ((I 39 0) + 1)), L)) _
      refine mRt (r := (some (.int (-2)))) (h := (mSH, (mUp I 39 0 ((I 39 0) + 1)), L)) rfl (mRet_int rfl) ?_
      exact hq _ _ (mGr.w39 mGr.rf) ⟨s, n, t, ((mGr.w39 mGr.rf)).m hm⟩ (if_neg (c := an_tk v0) (by have a0 := of_decide_eq_false c0; have a1 := of_decide_eq_true c1; simp only [Int32.lt_iff_toInt_lt, Int32.le_iff_toInt_le, ← Int32.toInt_inj, mLi0, mLi1, mLi2, mLi3, mLi4, mLi5, mLi6, mLi7, mLi8, mLi9, mLi10, mLi16, mLi32, mLi48, mLi57, mLi59, mLi65, mLi90, mLi97, mLi99, mLi120, mLi122, mLi127, mLi1584, mLi999999, mLim] at a0 a1 <;> omega)).symm (km_1 (by have a0 := of_decide_eq_false c0; have a1 := of_decide_eq_true c1; simp only [Int32.lt_iff_toInt_lt, Int32.le_iff_toInt_le, ← Int32.toInt_inj, mLi0, mLi1, mLi2, mLi3, mLi4, mLi5, mLi6, mLi7, mLi8, mLi9, mLi10, mLi16, mLi32, mLi48, mLi57, mLi59, mLi65, mLi90, mLi97, mLi99, mLi120, mLi122, mLi127, mLi1584, mLi999999, mLim] at a0 a1 <;> omega) (by rfl))
    · refine mB 2 (s2 := (d + 4, 112, 15, [some (.int v0), some (.int 0), some (.int 9)], [.int 1], 0, 0, (mSH, I, L))) rfl ?_
      refine mRt (r := (some (.int 1))) (h := (mSH, I, L)) rfl rfl ?_
      show mWP mTb_ mFT ro (d + 5, 158, 7, [some (.ref 34), some (.int v0)], [.int 1], 0, 0, (mSH, I, L)) _
      refine mBF (s3 := (d + 5, 158, 10, [some (.ref 34), some (.int v0)], [], 0, 0, (mSH, I, L))) rfl (by decide) ?_
      refine mB 2 (s2 := (d + 5, 158, 12, [some (.ref 34), some (.int v0)], [.int v0, .ref 34], 0, 0, (mSH, I, L))) rfl ?_
      by_cases c2 : v0 = 0
      · refine mCall (s2 := (d + 4, 157, 0, [some (.ref 34), some (.int v0)], [], 0, 0, (mSH, I, L))) rfl ?_
        refine mB 1 (s2 := (d + 4, 157, 1, [some (.ref 34), some (.int v0)], [.int v0], 0, 0, (mSH, I, L))) rfl ?_
        refine mSw1 (t := (d + 4, 157, 44, [some (.ref 34), some (.int v0)], [], 0, 0, (mSH, I, L))) rfl (by simp only [c2]; rfl) ?_
        refine mB 3 (s2 := (d + 4, 157, 49, [some (.ref 34), some (.int v0)], [.int v0, .ref 39], 0, 0, (mSH, I, L))) rfl ?_
        refine mRq (s2 := (d + 4, 157, 50, [some (.ref 34), some (.int v0)], [.int (I 39 v0.toNatClampNeg)], 0, 0, (mSH, I, L))) rfl (by first | (simp only [c2]; first | decide | rfl) | decide | rfl) ?_
        refine mRt (r := (some (.int (I 39 v0.toNatClampNeg)))) (h := (mSH, I, L)) rfl (mRet_int rfl) ?_
        show mWP mTb_ mFT ro (d + 5, 158, 15, [some (.ref 34), some (.int v0)], [.int (I 39 v0.toNatClampNeg)], 0, 0, (mSH, I, L)) _
        refine mB 1 (s2 := (d + 5, 158, 24, [some (.ref 34), some (.int v0)], [.int (I 39 v0.toNatClampNeg)], 0, 0, (mSH, I, L))) rfl ?_
        refine mRt (r := (some (.int (I 39 v0.toNatClampNeg)))) (h := (mSH, I, L)) rfl (mRet_int rfl) ?_
        exact hq _ _ (mGr.rf).w ⟨s, n, t, ((mGr.rf).w).m hm⟩ ((by have e := c2; subst e; rfl : (I 39 v0.toNatClampNeg) = tvM I 0).trans (an_tl0 (f := tvM I) c2)) (km_0 (by have e := c2; subst e; decide) trivial (by rfl))
      · by_cases c3 : v0 = 1
        · refine mCall (s2 := (d + 4, 157, 0, [some (.ref 34), some (.int v0)], [], 0, 0, (mSH, I, L))) rfl ?_
          refine mB 1 (s2 := (d + 4, 157, 1, [some (.ref 34), some (.int v0)], [.int v0], 0, 0, (mSH, I, L))) rfl ?_
          refine mSw1 (t := (d + 4, 157, 44, [some (.ref 34), some (.int v0)], [], 0, 0, (mSH, I, L))) rfl (by simp only [c3]; rfl) ?_
          refine mB 3 (s2 := (d + 4, 157, 49, [some (.ref 34), some (.int v0)], [.int v0, .ref 39], 0, 0, (mSH, I, L))) rfl ?_
          refine mRq (s2 := (d + 4, 157, 50, [some (.ref 34), some (.int v0)], [.int (I 39 v0.toNatClampNeg)], 0, 0, (mSH, I, L))) rfl (by first | (simp only [c3]; first | decide | rfl) | decide | rfl) ?_
          refine mRt (r := (some (.int (I 39 v0.toNatClampNeg)))) (h := (mSH, I, L)) rfl (mRet_int rfl) ?_
          show mWP mTb_ mFT ro (d + 5, 158, 15, [some (.ref 34), some (.int v0)], [.int (I 39 v0.toNatClampNeg)], 0, 0, (mSH, I, L)) _
          refine mB 1 (s2 := (d + 5, 158, 24, [some (.ref 34), some (.int v0)], [.int (I 39 v0.toNatClampNeg)], 0, 0, (mSH, I, L))) rfl ?_
          refine mRt (r := (some (.int (I 39 v0.toNatClampNeg)))) (h := (mSH, I, L)) rfl (mRet_int rfl) ?_
          exact hq _ _ (mGr.rf).w ⟨s, n, t, ((mGr.rf).w).m hm⟩ ((by have e := c3; subst e; rfl : (I 39 v0.toNatClampNeg) = tvM I 1).trans (an_tl1 (f := tvM I) c3)) (km_0 (by have e := c3; subst e; decide) trivial (by rfl))
        · by_cases c4 : v0 = 2
          · refine mCall (s2 := (d + 4, 157, 0, [some (.ref 34), some (.int v0)], [], 0, 0, (mSH, I, L))) rfl ?_
            refine mB 1 (s2 := (d + 4, 157, 1, [some (.ref 34), some (.int v0)], [.int v0], 0, 0, (mSH, I, L))) rfl ?_
            refine mSw1 (t := (d + 4, 157, 44, [some (.ref 34), some (.int v0)], [], 0, 0, (mSH, I, L))) rfl (by simp only [c4]; rfl) ?_
            refine mB 3 (s2 := (d + 4, 157, 49, [some (.ref 34), some (.int v0)], [.int v0, .ref 39], 0, 0, (mSH, I, L))) rfl ?_
            refine mRq (s2 := (d + 4, 157, 50, [some (.ref 34), some (.int v0)], [.int (I 39 v0.toNatClampNeg)], 0, 0, (mSH, I, L))) rfl (by first | (simp only [c4]; first | decide | rfl) | decide | rfl) ?_
            refine mRt (r := (some (.int (I 39 v0.toNatClampNeg)))) (h := (mSH, I, L)) rfl (mRet_int rfl) ?_
            show mWP mTb_ mFT ro (d + 5, 158, 15, [some (.ref 34), some (.int v0)], [.int (I 39 v0.toNatClampNeg)], 0, 0, (mSH, I, L)) _
            refine mB 1 (s2 := (d + 5, 158, 24, [some (.ref 34), some (.int v0)], [.int (I 39 v0.toNatClampNeg)], 0, 0, (mSH, I, L))) rfl ?_
            refine mRt (r := (some (.int (I 39 v0.toNatClampNeg)))) (h := (mSH, I, L)) rfl (mRet_int rfl) ?_
            exact hq _ _ (mGr.rf).w ⟨s, n, t, ((mGr.rf).w).m hm⟩ ((by have e := c4; subst e; rfl : (I 39 v0.toNatClampNeg) = tvM I 2).trans (an_tl2 (f := tvM I) c4)) (km_0 (by have e := c4; subst e; decide) trivial (by rfl))
          · by_cases c5 : v0 = 3
            · refine mCall (s2 := (d + 4, 157, 0, [some (.ref 34), some (.int v0)], [], 0, 0, (mSH, I, L))) rfl ?_
              refine mB 1 (s2 := (d + 4, 157, 1, [some (.ref 34), some (.int v0)], [.int v0], 0, 0, (mSH, I, L))) rfl ?_
              refine mSw1 (t := (d + 4, 157, 51, [some (.ref 34), some (.int v0)], [], 0, 0, (mSH, I, L))) rfl (by simp only [c5]; rfl) ?_
              refine mB 2 (s2 := (d + 4, 157, 55, [some (.ref 34), some (.int v0)], [.int (I 34 11)], 0, 0, (mSH, I, L))) rfl ?_
              refine mRt (r := (some (.int (I 34 11)))) (h := (mSH, I, L)) rfl (mRet_int rfl) ?_
              show mWP mTb_ mFT ro (d + 5, 158, 15, [some (.ref 34), some (.int v0)], [.int (I 34 11)], 0, 0, (mSH, I, L)) _
              refine mB 1 (s2 := (d + 5, 158, 24, [some (.ref 34), some (.int v0)], [.int (I 34 11)], 0, 0, (mSH, I, L))) rfl ?_
              refine mRt (r := (some (.int (I 34 11)))) (h := (mSH, I, L)) rfl (mRet_int rfl) ?_
              exact hq _ _ (mGr.rf).w ⟨s, n, t, ((mGr.rf).w).m hm⟩ ((by have e := c5; subst e; rfl : (I 34 11) = tvM I 3).trans (an_tl3 (f := tvM I) c5)) (km_0 (by have e := c5; subst e; decide) trivial (by rfl))
            · by_cases c6 : v0 = 4
              · refine mCall (s2 := (d + 4, 157, 0, [some (.ref 34), some (.int v0)], [], 0, 0, (mSH, I, L))) rfl ?_
                refine mB 1 (s2 := (d + 4, 157, 1, [some (.ref 34), some (.int v0)], [.int v0], 0, 0, (mSH, I, L))) rfl ?_
                refine mSw1 (t := (d + 4, 157, 56, [some (.ref 34), some (.int v0)], [], 0, 0, (mSH, I, L))) rfl (by simp only [c6]; rfl) ?_
                refine mB 2 (s2 := (d + 4, 157, 60, [some (.ref 34), some (.int v0)], [.int (I 34 1)], 0, 0, (mSH, I, L))) rfl ?_
                refine mRt (r := (some (.int (I 34 1)))) (h := (mSH, I, L)) rfl (mRet_int rfl) ?_
                show mWP mTb_ mFT ro (d + 5, 158, 15, [some (.ref 34), some (.int v0)], [.int (I 34 1)], 0, 0, (mSH, I, L)) _
                refine mB 1 (s2 := (d + 5, 158, 24, [some (.ref 34), some (.int v0)], [.int (I 34 1)], 0, 0, (mSH, I, L))) rfl ?_
                refine mRt (r := (some (.int (I 34 1)))) (h := (mSH, I, L)) rfl (mRet_int rfl) ?_
                exact hq _ _ (mGr.rf).w ⟨s, n, t, ((mGr.rf).w).m hm⟩ ((by have e := c6; subst e; rfl : (I 34 1) = tvM I 4).trans (an_tl4 (f := tvM I) c6)) (km_0 (by have e := c6; subst e; decide) trivial (by rfl))
              · by_cases c7 : v0 = 5
                · refine mCall (s2 := (d + 4, 157, 0, [some (.ref 34), some (.int v0)], [], 0, 0, (mSH, I, L))) rfl ?_
                  refine mB 1 (s2 := (d + 4, 157, 1, [some (.ref 34), some (.int v0)], [.int v0], 0, 0, (mSH, I, L))) rfl ?_
                  refine mSw1 (t := (d + 4, 157, 61, [some (.ref 34), some (.int v0)], [], 0, 0, (mSH, I, L))) rfl (by simp only [c7]; rfl) ?_
                  refine mB 2 (s2 := (d + 4, 157, 65, [some (.ref 34), some (.int v0)], [.int (I 34 3)], 0, 0, (mSH, I, L))) rfl ?_
                  refine mRt (r := (some (.int (I 34 3)))) (h := (mSH, I, L)) rfl (mRet_int rfl) ?_
                  show mWP mTb_ mFT ro (d + 5, 158, 15, [some (.ref 34), some (.int v0)], [.int (I 34 3)], 0, 0, (mSH, I, L)) _
                  refine mB 1 (s2 := (d + 5, 158, 24, [some (.ref 34), some (.int v0)], [.int (I 34 3)], 0, 0, (mSH, I, L))) rfl ?_
                  refine mRt (r := (some (.int (I 34 3)))) (h := (mSH, I, L)) rfl (mRet_int rfl) ?_
                  exact hq _ _ (mGr.rf).w ⟨s, n, t, ((mGr.rf).w).m hm⟩ ((by have e := c7; subst e; rfl : (I 34 3) = tvM I 5).trans (an_tl5 (f := tvM I) c7)) (km_0 (by have e := c7; subst e; decide) trivial (by rfl))
                · by_cases c8 : v0 = 6
                  · refine mCall (s2 := (d + 4, 157, 0, [some (.ref 34), some (.int v0)], [], 0, 0, (mSH, I, L))) rfl ?_
                    refine mB 1 (s2 := (d + 4, 157, 1, [some (.ref 34), some (.int v0)], [.int v0], 0, 0, (mSH, I, L))) rfl ?_
                    refine mSw1 (t := (d + 4, 157, 66, [some (.ref 34), some (.int v0)], [], 0, 0, (mSH, I, L))) rfl (by simp only [c8]; rfl) ?_
                    refine mB 2 (s2 := (d + 4, 157, 70, [some (.ref 34), some (.int v0)], [.int (I 34 4)], 0, 0, (mSH, I, L))) rfl ?_
                    refine mRt (r := (some (.int (I 34 4)))) (h := (mSH, I, L)) rfl (mRet_int rfl) ?_
                    show mWP mTb_ mFT ro (d + 5, 158, 15, [some (.ref 34), some (.int v0)], [.int (I 34 4)], 0, 0, (mSH, I, L)) _
                    refine mB 1 (s2 := (d + 5, 158, 24, [some (.ref 34), some (.int v0)], [.int (I 34 4)], 0, 0, (mSH, I, L))) rfl ?_
                    refine mRt (r := (some (.int (I 34 4)))) (h := (mSH, I, L)) rfl (mRet_int rfl) ?_
                    exact hq _ _ (mGr.rf).w ⟨s, n, t, ((mGr.rf).w).m hm⟩ ((by have e := c8; subst e; rfl : (I 34 4) = tvM I 6).trans (an_tl6 (f := tvM I) c8)) (km_0 (by have e := c8; subst e; decide) trivial (by rfl))
                  · by_cases c9 : v0 = 7
                    · refine mCall (s2 := (d + 4, 157, 0, [some (.ref 34), some (.int v0)], [], 0, 0, (mSH, I, L))) rfl ?_
                      refine mB 1 (s2 := (d + 4, 157, 1, [some (.ref 34), some (.int v0)], [.int v0], 0, 0, (mSH, I, L))) rfl ?_
                      refine mSw1 (t := (d + 4, 157, 71, [some (.ref 34), some (.int v0)], [], 0, 0, (mSH, I, L))) rfl (by simp only [c9]; rfl) ?_
                      refine mB 5 (s2 := (d + 4, 157, 79, [some (.ref 34), some (.int v0)], [.int (v0 - 7), .ref 38], 0, 0, (mSH, I, L))) rfl ?_
                      refine mRq (s2 := (d + 4, 157, 80, [some (.ref 34), some (.int v0)], [.int (I 38 ((v0 - 7).toNatClampNeg))], 0, 0, (mSH, I, L))) rfl (by first | (simp only [c9]; first | decide | rfl) | decide | rfl) ?_
                      refine mRt (r := (some (.int (I 38 ((v0 - 7).toNatClampNeg))))) (h := (mSH, I, L)) rfl (mRet_int rfl) ?_
                      show mWP mTb_ mFT ro (d + 5, 158, 15, [some (.ref 34), some (.int v0)], [.int (I 38 ((v0 - 7).toNatClampNeg))], 0, 0, (mSH, I, L)) _
                      refine mB 1 (s2 := (d + 5, 158, 24, [some (.ref 34), some (.int v0)], [.int (I 38 ((v0 - 7).toNatClampNeg))], 0, 0, (mSH, I, L))) rfl ?_
                      refine mRt (r := (some (.int (I 38 ((v0 - 7).toNatClampNeg))))) (h := (mSH, I, L)) rfl (mRet_int rfl) ?_
                      exact hq _ _ (mGr.rf).w ⟨s, n, t, ((mGr.rf).w).m hm⟩ ((by have e := c9; subst e; rfl : (I 38 ((v0 - 7).toNatClampNeg)) = tvM I 7).trans (an_tl7 (f := tvM I) c9)) (km_0 (by have e := c9; subst e; decide) trivial (by rfl))
                    · by_cases c10 : v0 = 8
                      · refine mCall (s2 := (d + 4, 157, 0, [some (.ref 34), some (.int v0)], [], 0, 0, (mSH, I, L))) rfl ?_
                        refine mB 1 (s2 := (d + 4, 157, 1, [some (.ref 34), some (.int v0)], [.int v0], 0, 0, (mSH, I, L))) rfl ?_
                        refine mSw1 (t := (d + 4, 157, 71, [some (.ref 34), some (.int v0)], [], 0, 0, (mSH, I, L))) rfl (by simp only [c10]; rfl) ?_
                        refine mB 5 (s2 := (d + 4, 157, 79, [some (.ref 34), some (.int v0)], [.int (v0 - 7), .ref 38], 0, 0, (mSH, I, L))) rfl ?_
                        refine mRq (s2 := (d + 4, 157, 80, [some (.ref 34), some (.int v0)], [.int (I 38 ((v0 - 7).toNatClampNeg))], 0, 0, (mSH, I, L))) rfl (by first | (simp only [c10]; first | decide | rfl) | decide | rfl) ?_
                        refine mRt (r := (some (.int (I 38 ((v0 - 7).toNatClampNeg))))) (h := (mSH, I, L)) rfl (mRet_int rfl) ?_
                        show mWP mTb_ mFT ro (d + 5, 158, 15, [some (.ref 34), some (.int v0)], [.int (I 38 ((v0 - 7).toNatClampNeg))], 0, 0, (mSH, I, L)) _
                        refine mB 1 (s2 := (d + 5, 158, 24, [some (.ref 34), some (.int v0)], [.int (I 38 ((v0 - 7).toNatClampNeg))], 0, 0, (mSH, I, L))) rfl ?_
                        refine mRt (r := (some (.int (I 38 ((v0 - 7).toNatClampNeg))))) (h := (mSH, I, L)) rfl (mRet_int rfl) ?_
                        exact hq _ _ (mGr.rf).w ⟨s, n, t, ((mGr.rf).w).m hm⟩ ((by have e := c10; subst e; rfl : (I 38 ((v0 - 7).toNatClampNeg)) = tvM I 8).trans (an_tl8 (f := tvM I) c10)) (km_0 (by have e := c10; subst e; decide) trivial (by rfl))
                      · by_cases c11 : v0 = 9
                        · refine mCall (s2 := (d + 4, 157, 0, [some (.ref 34), some (.int v0)], [], 0, 0, (mSH, I, L))) rfl ?_
                          refine mB 1 (s2 := (d + 4, 157, 1, [some (.ref 34), some (.int v0)], [.int v0], 0, 0, (mSH, I, L))) rfl ?_
                          refine mSw1 (t := (d + 4, 157, 71, [some (.ref 34), some (.int v0)], [], 0, 0, (mSH, I, L))) rfl (by simp only [c11]; rfl) ?_
                          refine mB 5 (s2 := (d + 4, 157, 79, [some (.ref 34), some (.int v0)], [.int (v0 - 7), .ref 38], 0, 0, (mSH, I, L))) rfl ?_
                          refine mRq (s2 := (d + 4, 157, 80, [some (.ref 34), some (.int v0)], [.int (I 38 ((v0 - 7).toNatClampNeg))], 0, 0, (mSH, I, L))) rfl (by first | (simp only [c11]; first | decide | rfl) | decide | rfl) ?_
                          refine mRt (r := (some (.int (I 38 ((v0 - 7).toNatClampNeg))))) (h := (mSH, I, L)) rfl (mRet_int rfl) ?_
                          show mWP mTb_ mFT ro (d + 5, 158, 15, [some (.ref 34), some (.int v0)], [.int (I 38 ((v0 - 7).toNatClampNeg))], 0, 0, (mSH, I, L)) _
                          refine mB 1 (s2 := (d + 5, 158, 24, [some (.ref 34), some (.int v0)], [.int (I 38 ((v0 - 7).toNatClampNeg))], 0, 0, (mSH, I, L))) rfl ?_
                          refine mRt (r := (some (.int (I 38 ((v0 - 7).toNatClampNeg))))) (h := (mSH, I, L)) rfl (mRet_int rfl) ?_
                          exact hq _ _ (mGr.rf).w ⟨s, n, t, ((mGr.rf).w).m hm⟩ ((by have e := c11; subst e; rfl : (I 38 ((v0 - 7).toNatClampNeg)) = tvM I 9).trans (an_tl9 (f := tvM I) c11)) (km_0 (by have e := c11; subst e; decide) trivial (by rfl))
                        · refine mCall (s2 := (d + 4, 157, 0, [some (.ref 34), some (.int v0)], [], 0, 0, (mSH, I, L))) rfl ?_
                          refine mB 1 (s2 := (d + 4, 157, 1, [some (.ref 34), some (.int v0)], [.int v0], 0, 0, (mSH, I, L))) rfl ?_
                          refine mSwA (l := [(decide (v0.toInt < 0 ∨ 6 < v0.toInt), (d + 4, 157, 71, [some (.ref 34), some (.int v0)], [], 0, 0, (mSH, I, L))), (decide (v0.toInt = 0), (d + 4, 157, 44, [some (.ref 34), some (.int v0)], [], 0, 0, (mSH, I, L))), (decide (v0.toInt = 1), (d + 4, 157, 44, [some (.ref 34), some (.int v0)], [], 0, 0, (mSH, I, L))), (decide (v0.toInt = 2), (d + 4, 157, 44, [some (.ref 34), some (.int v0)], [], 0, 0, (mSH, I, L))), (decide (v0.toInt = 3), (d + 4, 157, 51, [some (.ref 34), some (.int v0)], [], 0, 0, (mSH, I, L))), (decide (v0.toInt = 4), (d + 4, 157, 56, [some (.ref 34), some (.int v0)], [], 0, 0, (mSH, I, L))), (decide (v0.toInt = 5), (d + 4, 157, 61, [some (.ref 34), some (.int v0)], [], 0, 0, (mSH, I, L))), (decide (v0.toInt = 6), (d + 4, 157, 66, [some (.ref 34), some (.int v0)], [], 0, 0, (mSH, I, L)))]) rfl ⟨fun c12 => ?_, fun c12 => ?_, fun c12 => ?_, fun c12 => ?_, fun c12 => ?_, fun c12 => ?_, fun c12 => ?_, fun c12 => ?_, trivial⟩
                          · refine mB 5 (s2 := (d + 4, 157, 79, [some (.ref 34), some (.int v0)], [.int (v0 - 7), .ref 38], 0, 0, (mSH, I, L))) rfl ?_
                            refine mRq (s2 := (d + 4, 157, 80, [some (.ref 34), some (.int v0)], [.int (I 38 ((v0 - 7).toNatClampNeg))], 0, 0, (mSH, I, L))) rfl (mVp_of (False.elim (by have a0 := of_decide_eq_false c0; have a1 := of_decide_eq_false c1; have a2 := c2; have a3 := c3; have a4 := c4; have a5 := c5; have a6 := c6; have a7 := c7; have a8 := c8; have a9 := c9; have a10 := c10; have a11 := c11; simp only [Int32.lt_iff_toInt_lt, Int32.le_iff_toInt_le, ← Int32.toInt_inj, mLi0, mLi1, mLi2, mLi3, mLi4, mLi5, mLi6, mLi7, mLi8, mLi9, mLi10, mLi16, mLi32, mLi48, mLi57, mLi59, mLi65, mLi90, mLi97, mLi99, mLi120, mLi122, mLi127, mLi1584, mLi999999, mLim] at a0 a1 a2 a3 a4 a5 a6 a7 a8 a9 a10 a11; omega))) ?_
                            refine mRt (r := (some (.int (I 38 ((v0 - 7).toNatClampNeg))))) (h := (mSH, I, L)) rfl (mRet_int rfl) ?_
                            show mWP mTb_ mFT ro (d + 5, 158, 15, [some (.ref 34), some (.int v0)], [.int (I 38 ((v0 - 7).toNatClampNeg))], 0, 0, (mSH, I, L)) _
                            refine mB 1 (s2 := (d + 5, 158, 24, [some (.ref 34), some (.int v0)], [.int (I 38 ((v0 - 7).toNatClampNeg))], 0, 0, (mSH, I, L))) rfl ?_
                            refine mRt (r := (some (.int (I 38 ((v0 - 7).toNatClampNeg))))) (h := (mSH, I, L)) rfl (mRet_int rfl) ?_
                            exact False.elim (by have a0 := of_decide_eq_false c0; have a1 := of_decide_eq_false c1; have a2 := c2; have a3 := c3; have a4 := c4; have a5 := c5; have a6 := c6; have a7 := c7; have a8 := c8; have a9 := c9; have a10 := c10; have a11 := c11; simp only [Int32.lt_iff_toInt_lt, Int32.le_iff_toInt_le, ← Int32.toInt_inj, mLi0, mLi1, mLi2, mLi3, mLi4, mLi5, mLi6, mLi7, mLi8, mLi9, mLi10, mLi16, mLi32, mLi48, mLi57, mLi59, mLi65, mLi90, mLi97, mLi99, mLi120, mLi122, mLi127, mLi1584, mLi999999, mLim] at a0 a1 a2 a3 a4 a5 a6 a7 a8 a9 a10 a11 <;> omega)
                          · refine mB 3 (s2 := (d + 4, 157, 49, [some (.ref 34), some (.int v0)], [.int v0, .ref 39], 0, 0, (mSH, I, L))) rfl ?_
                            refine mRq (s2 := (d + 4, 157, 50, [some (.ref 34), some (.int v0)], [.int (I 39 v0.toNatClampNeg)], 0, 0, (mSH, I, L))) rfl (by first | (simp only [mTI (y := 0) (of_decide_eq_true c12) rfl]; first | decide | rfl) | decide | rfl) ?_
                            refine mRt (r := (some (.int (I 39 v0.toNatClampNeg)))) (h := (mSH, I, L)) rfl (mRet_int rfl) ?_
                            show mWP mTb_ mFT ro (d + 5, 158, 15, [some (.ref 34), some (.int v0)], [.int (I 39 v0.toNatClampNeg)], 0, 0, (mSH, I, L)) _
                            refine mB 1 (s2 := (d + 5, 158, 24, [some (.ref 34), some (.int v0)], [.int (I 39 v0.toNatClampNeg)], 0, 0, (mSH, I, L))) rfl ?_
                            refine mRt (r := (some (.int (I 39 v0.toNatClampNeg)))) (h := (mSH, I, L)) rfl (mRet_int rfl) ?_
                            exact hq _ _ (mGr.rf).w ⟨s, n, t, ((mGr.rf).w).m hm⟩ ((by have e := mTI (y := 0) (of_decide_eq_true c12) rfl; subst e; rfl : (I 39 v0.toNatClampNeg) = tvM I 0).trans (an_tl0 (f := tvM I) (mTI (y := 0) (of_decide_eq_true c12) rfl))) (km_0 (by have e := mTI (y := 0) (of_decide_eq_true c12) rfl; subst e; decide) trivial (by rfl))
                          · refine mB 3 (s2 := (d + 4, 157, 49, [some (.ref 34), some (.int v0)], [.int v0, .ref 39], 0, 0, (mSH, I, L))) rfl ?_
                            refine mRq (s2 := (d + 4, 157, 50, [some (.ref 34), some (.int v0)], [.int (I 39 v0.toNatClampNeg)], 0, 0, (mSH, I, L))) rfl (by first | (simp only [mTI (y := 1) (of_decide_eq_true c12) rfl]; first | decide | rfl) | decide | rfl) ?_
                            refine mRt (r := (some (.int (I 39 v0.toNatClampNeg)))) (h := (mSH, I, L)) rfl (mRet_int rfl) ?_
                            show mWP mTb_ mFT ro (d + 5, 158, 15, [some (.ref 34), some (.int v0)], [.int (I 39 v0.toNatClampNeg)], 0, 0, (mSH, I, L)) _
                            refine mB 1 (s2 := (d + 5, 158, 24, [some (.ref 34), some (.int v0)], [.int (I 39 v0.toNatClampNeg)], 0, 0, (mSH, I, L))) rfl ?_
                            refine mRt (r := (some (.int (I 39 v0.toNatClampNeg)))) (h := (mSH, I, L)) rfl (mRet_int rfl) ?_
                            exact hq _ _ (mGr.rf).w ⟨s, n, t, ((mGr.rf).w).m hm⟩ ((by have e := mTI (y := 1) (of_decide_eq_true c12) rfl; subst e; rfl : (I 39 v0.toNatClampNeg) = tvM I 1).trans (an_tl1 (f := tvM I) (mTI (y := 1) (of_decide_eq_true c12) rfl))) (km_0 (by have e := mTI (y := 1) (of_decide_eq_true c12) rfl; subst e; decide) trivial (by rfl))
                          · refine mB 3 (s2 := (d + 4, 157, 49, [some (.ref 34), some (.int v0)], [.int v0, .ref 39], 0, 0, (mSH, I, L))) rfl ?_
                            refine mRq (s2 := (d + 4, 157, 50, [some (.ref 34), some (.int v0)], [.int (I 39 v0.toNatClampNeg)], 0, 0, (mSH, I, L))) rfl (by first | (simp only [mTI (y := 2) (of_decide_eq_true c12) rfl]; first | decide | rfl) | decide | rfl) ?_
                            refine mRt (r := (some (.int (I 39 v0.toNatClampNeg)))) (h := (mSH, I, L)) rfl (mRet_int rfl) ?_
                            show mWP mTb_ mFT ro (d + 5, 158, 15, [some (.ref 34), some (.int v0)], [.int (I 39 v0.toNatClampNeg)], 0, 0, (mSH, I, L)) _
                            refine mB 1 (s2 := (d + 5, 158, 24, [some (.ref 34), some (.int v0)], [.int (I 39 v0.toNatClampNeg)], 0, 0, (mSH, I, L))) rfl ?_
                            refine mRt (r := (some (.int (I 39 v0.toNatClampNeg)))) (h := (mSH, I, L)) rfl (mRet_int rfl) ?_
                            exact hq _ _ (mGr.rf).w ⟨s, n, t, ((mGr.rf).w).m hm⟩ ((by have e := mTI (y := 2) (of_decide_eq_true c12) rfl; subst e; rfl : (I 39 v0.toNatClampNeg) = tvM I 2).trans (an_tl2 (f := tvM I) (mTI (y := 2) (of_decide_eq_true c12) rfl))) (km_0 (by have e := mTI (y := 2) (of_decide_eq_true c12) rfl; subst e; decide) trivial (by rfl))
                          · refine mB 2 (s2 := (d + 4, 157, 55, [some (.ref 34), some (.int v0)], [.int (I 34 11)], 0, 0, (mSH, I, L))) rfl ?_
                            refine mRt (r := (some (.int (I 34 11)))) (h := (mSH, I, L)) rfl (mRet_int rfl) ?_
                            show mWP mTb_ mFT ro (d + 5, 158, 15, [some (.ref 34), some (.int v0)], [.int (I 34 11)], 0, 0, (mSH, I, L)) _
                            refine mB 1 (s2 := (d + 5, 158, 24, [some (.ref 34), some (.int v0)], [.int (I 34 11)], 0, 0, (mSH, I, L))) rfl ?_
                            refine mRt (r := (some (.int (I 34 11)))) (h := (mSH, I, L)) rfl (mRet_int rfl) ?_
                            exact hq _ _ (mGr.rf).w ⟨s, n, t, ((mGr.rf).w).m hm⟩ ((by have e := mTI (y := 3) (of_decide_eq_true c12) rfl; subst e; rfl : (I 34 11) = tvM I 3).trans (an_tl3 (f := tvM I) (mTI (y := 3) (of_decide_eq_true c12) rfl))) (km_0 (by have e := mTI (y := 3) (of_decide_eq_true c12) rfl; subst e; decide) trivial (by rfl))
                          · refine mB 2 (s2 := (d + 4, 157, 60, [some (.ref 34), some (.int v0)], [.int (I 34 1)], 0, 0, (mSH, I, L))) rfl ?_
                            refine mRt (r := (some (.int (I 34 1)))) (h := (mSH, I, L)) rfl (mRet_int rfl) ?_
                            show mWP mTb_ mFT ro (d + 5, 158, 15, [some (.ref 34), some (.int v0)], [.int (I 34 1)], 0, 0, (mSH, I, L)) _
                            refine mB 1 (s2 := (d + 5, 158, 24, [some (.ref 34), some (.int v0)], [.int (I 34 1)], 0, 0, (mSH, I, L))) rfl ?_
                            refine mRt (r := (some (.int (I 34 1)))) (h := (mSH, I, L)) rfl (mRet_int rfl) ?_
                            exact hq _ _ (mGr.rf).w ⟨s, n, t, ((mGr.rf).w).m hm⟩ ((by have e := mTI (y := 4) (of_decide_eq_true c12) rfl; subst e; rfl : (I 34 1) = tvM I 4).trans (an_tl4 (f := tvM I) (mTI (y := 4) (of_decide_eq_true c12) rfl))) (km_0 (by have e := mTI (y := 4) (of_decide_eq_true c12) rfl; subst e; decide) trivial (by rfl))
                          · refine mB 2 (s2 := (d + 4, 157, 65, [some (.ref 34), some (.int v0)], [.int (I 34 3)], 0, 0, (mSH, I, L))) rfl ?_
                            refine mRt (r := (some (.int (I 34 3)))) (h := (mSH, I, L)) rfl (mRet_int rfl) ?_
                            show mWP mTb_ mFT ro (d + 5, 158, 15, [some (.ref 34), some (.int v0)], [.int (I 34 3)], 0, 0, (mSH, I, L)) _
                            refine mB 1 (s2 := (d + 5, 158, 24, [some (.ref 34), some (.int v0)], [.int (I 34 3)], 0, 0, (mSH, I, L))) rfl ?_
                            refine mRt (r := (some (.int (I 34 3)))) (h := (mSH, I, L)) rfl (mRet_int rfl) ?_
                            exact hq _ _ (mGr.rf).w ⟨s, n, t, ((mGr.rf).w).m hm⟩ ((by have e := mTI (y := 5) (of_decide_eq_true c12) rfl; subst e; rfl : (I 34 3) = tvM I 5).trans (an_tl5 (f := tvM I) (mTI (y := 5) (of_decide_eq_true c12) rfl))) (km_0 (by have e := mTI (y := 5) (of_decide_eq_true c12) rfl; subst e; decide) trivial (by rfl))
                          · refine mB 2 (s2 := (d + 4, 157, 70, [some (.ref 34), some (.int v0)], [.int (I 34 4)], 0, 0, (mSH, I, L))) rfl ?_
                            refine mRt (r := (some (.int (I 34 4)))) (h := (mSH, I, L)) rfl (mRet_int rfl) ?_
                            show mWP mTb_ mFT ro (d + 5, 158, 15, [some (.ref 34), some (.int v0)], [.int (I 34 4)], 0, 0, (mSH, I, L)) _
                            refine mB 1 (s2 := (d + 5, 158, 24, [some (.ref 34), some (.int v0)], [.int (I 34 4)], 0, 0, (mSH, I, L))) rfl ?_
                            refine mRt (r := (some (.int (I 34 4)))) (h := (mSH, I, L)) rfl (mRet_int rfl) ?_
                            exact hq _ _ (mGr.rf).w ⟨s, n, t, ((mGr.rf).w).m hm⟩ ((by have e := mTI (y := 6) (of_decide_eq_true c12) rfl; subst e; rfl : (I 34 4) = tvM I 6).trans (an_tl6 (f := tvM I) (mTI (y := 6) (of_decide_eq_true c12) rfl))) (km_0 (by have e := mTI (y := 6) (of_decide_eq_true c12) rfl; subst e; decide) trivial (by rfl))
abbrev mSQ3 : List Nat := [12, 13, 15, 16, 18, 19, 20, 21, 22, 23, 24]
theorem z_digest {ro : Nat → Nat × (Nat → Int32)} {Q : mPo} {d : Nat} {I : Nat → Nat → Int32} {L : Nat → Nat → Int64} (hI : mIC I) (hq : ∀ r I1, mFr mSQ3 I I1 → mIC I1 → Q (some (.long r)) (mSH, I1, L))   : mWP mTb_ mFT ro (d + 7, 102, 0, [some (.ref 0), none, none, none], [], 0, 0, (mSH, I, L)) Q := by
  refine mB 6 (s2 := (d + 7, 102, 9, [some (.ref 0), some (.long 2003), none, some (.int 0)], [.int 9, .int 0], 0, 0, (mSH, I, L))) rfl ?_
  refine mBF (s3 := (d + 7, 102, 12, [some (.ref 0), some (.long 2003), none, some (.int 0)], [], 0, 0, (mSH, I, L))) rfl (by decide) ?_
  refine mB 5 (s2 := (d + 7, 102, 19, [some (.ref 0), some (.long 2003), none, some (.int 0)], [.int 0, .ref 0, .long 62093], 0, 0, (mSH, I, L))) rfl ?_
  refine mCall (s2 := (d + 6, 107, 0, [some (.ref 0), some (.int 0)], [], 0, 0, (mSH, I, L))) rfl ?_
  refine mB 1 (s2 := (d + 6, 107, 1, [some (.ref 0), some (.int 0)], [.int 0], 0, 0, (mSH, I, L))) rfl ?_
  refine mSw1 (t := (d + 6, 107, 44, [some (.ref 0), some (.int 0)], [], 0, 0, (mSH, I, L))) rfl rfl ?_
  refine mB 2 (s2 := (d + 6, 107, 48, [some (.ref 0), some (.int 0)], [.int (I 0 9)], 0, 0, (mSH, I, L))) rfl ?_
  refine mRt (r := (some (.int (I 0 9)))) (h := (mSH, I, L)) rfl (mRet_int rfl) ?_
  show mWP mTb_ mFT ro (d + 7, 102, 22, [some (.ref 0), some (.long 2003), none, some (.int 0)], [.int (I 0 9), .long 62093], 0, 0, (mSH, I, L)) _
  refine mB 7 (s2 := (d + 7, 102, 9, [some (.ref 0), some (.long (62093 + ((I 0 9 : Int32).toInt64))), none, some (.int 1)], [.int 9, .int 1], 0, 0, (mSH, I, L))) rfl ?_
  refine mBF (s3 := (d + 7, 102, 12, [some (.ref 0), some (.long (62093 + ((I 0 9 : Int32).toInt64))), none, some (.int 1)], [], 0, 0, (mSH, I, L))) rfl (by decide) ?_
  refine mB 5 (s2 := (d + 7, 102, 19, [some (.ref 0), some (.long (62093 + ((I 0 9 : Int32).toInt64))), none, some (.int 1)], [.int 1, .ref 0, .long (31 * (62093 + ((I 0 9 : Int32).toInt64)))], 0, 0, (mSH, I, L))) rfl ?_
  refine mCall (s2 := (d + 6, 107, 0, [some (.ref 0), some (.int 1)], [], 0, 0, (mSH, I, L))) rfl ?_
  refine mB 1 (s2 := (d + 6, 107, 1, [some (.ref 0), some (.int 1)], [.int 1], 0, 0, (mSH, I, L))) rfl ?_
  refine mSw1 (t := (d + 6, 107, 49, [some (.ref 0), some (.int 1)], [], 0, 0, (mSH, I, L))) rfl rfl ?_
  refine mB 2 (s2 := (d + 6, 107, 53, [some (.ref 0), some (.int 1)], [.int (I 0 10)], 0, 0, (mSH, I, L))) rfl ?_
  refine mRt (r := (some (.int (I 0 10)))) (h := (mSH, I, L)) rfl (mRet_int rfl) ?_
  show mWP mTb_ mFT ro (d + 7, 102, 22, [some (.ref 0), some (.long (62093 + ((I 0 9 : Int32).toInt64))), none, some (.int 1)], [.int (I 0 10), .long (31 * (62093 + ((I 0 9 : Int32).toInt64)))], 0, 0, (mSH, I, L)) _
  refine mB 7 (s2 := (d + 7, 102, 9, [some (.ref 0), some (.long ((31 * (62093 + ((I 0 9 : Int32).toInt64))) + ((I 0 10 : Int32).toInt64))), none, some (.int 2)], [.int 9, .int 2], 0, 0, (mSH, I, L))) rfl ?_
  refine mBF (s3 := (d + 7, 102, 12, [some (.ref 0), some (.long ((31 * (62093 + ((I 0 9 : Int32).toInt64))) + ((I 0 10 : Int32).toInt64))), none, some (.int 2)], [], 0, 0, (mSH, I, L))) rfl (by decide) ?_
  refine mB 5 (s2 := (d + 7, 102, 19, [some (.ref 0), some (.long ((31 * (62093 + ((I 0 9 : Int32).toInt64))) + ((I 0 10 : Int32).toInt64))), none, some (.int 2)], [.int 2, .ref 0, .long (31 * ((31 * (62093 + ((I 0 9 : Int32).toInt64))) + ((I 0 10 : Int32).toInt64)))], 0, 0, (mSH, I, L))) rfl ?_
  refine mCall (s2 := (d + 6, 107, 0, [some (.ref 0), some (.int 2)], [], 0, 0, (mSH, I, L))) rfl ?_
  refine mB 1 (s2 := (d + 6, 107, 1, [some (.ref 0), some (.int 2)], [.int 2], 0, 0, (mSH, I, L))) rfl ?_
  refine mSw1 (t := (d + 6, 107, 54, [some (.ref 0), some (.int 2)], [], 0, 0, (mSH, I, L))) rfl rfl ?_
  refine mB 2 (s2 := (d + 6, 107, 58, [some (.ref 0), some (.int 2)], [.int (I 0 11)], 0, 0, (mSH, I, L))) rfl ?_
  refine mRt (r := (some (.int (I 0 11)))) (h := (mSH, I, L)) rfl (mRet_int rfl) ?_
  show mWP mTb_ mFT ro (d + 7, 102, 22, [some (.ref 0), some (.long ((31 * (62093 + ((I 0 9 : Int32).toInt64))) + ((I 0 10 : Int32).toInt64))), none, some (.int 2)], [.int (I 0 11), .long (31 * ((31 * (62093 + ((I 0 9 : Int32).toInt64))) + ((I 0 10 : Int32).toInt64)))], 0, 0, (mSH, I, L)) _
  refine mB 7 (s2 := (d + 7, 102, 9, [some (.ref 0), some (.long ((31 * ((31 * (62093 + ((I 0 9 : Int32).toInt64))) + ((I 0 10 : Int32).toInt64))) + ((I 0 11 : Int32).toInt64))), none, some (.int 3)], [.int 9, .int 3], 0, 0, (mSH, I, L))) rfl ?_
  refine mBF (s3 := (d + 7, 102, 12, [some (.ref 0), some (.long ((31 * ((31 * (62093 + ((I 0 9 : Int32).toInt64))) + ((I 0 10 : Int32).toInt64))) + ((I 0 11 : Int32).toInt64))), none, some (.int 3)], [], 0, 0, (mSH, I, L))) rfl (by decide) ?_
  refine mB 5 (s2 := (d + 7, 102, 19, [some (.ref 0), some (.long ((31 * ((31 * (62093 + ((I 0 9 : Int32).toInt64))) + ((I 0 10 : Int32).toInt64))) + ((I 0 11 : Int32).toInt64))), none, some (.int 3)], [.int 3, .ref 0, .long (31 * ((31 * ((31 * (62093 + ((I 0 9 : Int32).toInt64))) + ((I 0 10 : Int32).toInt64))) + ((I 0 11 : Int32).toInt64)))], 0, 0, (mSH, I, L))) rfl ?_
  refine mCall (s2 := (d + 6, 107, 0, [some (.ref 0), some (.int 3)], [], 0, 0, (mSH, I, L))) rfl ?_
  refine mB 1 (s2 := (d + 6, 107, 1, [some (.ref 0), some (.int 3)], [.int 3], 0, 0, (mSH, I, L))) rfl ?_
  refine mSw1 (t := (d + 6, 107, 59, [some (.ref 0), some (.int 3)], [], 0, 0, (mSH, I, L))) rfl rfl ?_
  refine mB 2 (s2 := (d + 6, 107, 63, [some (.ref 0), some (.int 3)], [.ref 26], 0, 0, (mSH, I, L))) rfl ?_
  refine mCall (s2 := (d + 5, 39, 0, [some (.ref 26)], [], 0, 0, (mSH, I, L))) rfl ?_
  refine mB 2 (s2 := (d + 5, 39, 4, [some (.ref 26)], [.int (I 26 1)], 0, 0, (mSH, I, L))) rfl ?_
  refine mRt (r := (some (.int (I 26 1)))) (h := (mSH, I, L)) rfl (mRet_int rfl) ?_
  show mWP mTb_ mFT ro (d + 6, 107, 66, [some (.ref 0), some (.int 3)], [.int (I 26 1)], 0, 0, (mSH, I, L)) _
  refine mRt (r := (some (.int (I 26 1)))) (h := (mSH, I, L)) rfl (mRet_int rfl) ?_
  show mWP mTb_ mFT ro (d + 7, 102, 22, [some (.ref 0), some (.long ((31 * ((31 * (62093 + ((I 0 9 : Int32).toInt64))) + ((I 0 10 : Int32).toInt64))) + ((I 0 11 : Int32).toInt64))), none, some (.int 3)], [.int (I 26 1), .long (31 * ((31 * ((31 * (62093 + ((I 0 9 : Int32).toInt64))) + ((I 0 10 : Int32).toInt64))) + ((I 0 11 : Int32).toInt64)))], 0, 0, (mSH, I, L)) _
  refine mB 7 (s2 := (d + 7, 102, 9, [some (.ref 0), some (.long ((31 * ((31 * ((31 * (62093 + ((I 0 9 : Int32).toInt64))) + ((I 0 10 : Int32).toInt64))) + ((I 0 11 : Int32).toInt64))) + ((I 26 1 : Int32).toInt64))), none, some (.int 4)], [.int 9, .int 4], 0, 0, (mSH, I, L))) rfl ?_
  refine mBF (s3 := (d + 7, 102, 12, [some (.ref 0), some (.long ((31 * ((31 * ((31 * (62093 + ((I 0 9 : Int32).toInt64))) + ((I 0 10 : Int32).toInt64))) + ((I 0 11 : Int32).toInt64))) + ((I 26 1 : Int32).toInt64))), none, some (.int 4)], [], 0, 0, (mSH, I, L))) rfl (by decide) ?_
  refine mB 5 (s2 := (d + 7, 102, 19, [some (.ref 0), some (.long ((31 * ((31 * ((31 * (62093 + ((I 0 9 : Int32).toInt64))) + ((I 0 10 : Int32).toInt64))) + ((I 0 11 : Int32).toInt64))) + ((I 26 1 : Int32).toInt64))), none, some (.int 4)], [.int 4, .ref 0, .long (31 * ((31 * ((31 * ((31 * (62093 + ((I 0 9 : Int32).toInt64))) + ((I 0 10 : Int32).toInt64))) + ((I 0 11 : Int32).toInt64))) + ((I 26 1 : Int32).toInt64)))], 0, 0, (mSH, I, L))) rfl ?_
  refine mCall (s2 := (d + 6, 107, 0, [some (.ref 0), some (.int 4)], [], 0, 0, (mSH, I, L))) rfl ?_
  refine mB 1 (s2 := (d + 6, 107, 1, [some (.ref 0), some (.int 4)], [.int 4], 0, 0, (mSH, I, L))) rfl ?_
  refine mSw1 (t := (d + 6, 107, 67, [some (.ref 0), some (.int 4)], [], 0, 0, (mSH, I, L))) rfl rfl ?_
  refine mB 3 (s2 := (d + 6, 107, 74, [some (.ref 0), some (.int 4)], [.ref 2], 0, 0, (mSH, I, L))) rfl ?_
  refine mCall (s2 := (d + 5, 39, 0, [some (.ref 2)], [], 0, 0, (mSH, I, L))) rfl ?_
  refine mB 2 (s2 := (d + 5, 39, 4, [some (.ref 2)], [.int (I 2 1)], 0, 0, (mSH, I, L))) rfl ?_
  refine mRt (r := (some (.int (I 2 1)))) (h := (mSH, I, L)) rfl (mRet_int rfl) ?_
  show mWP mTb_ mFT ro (d + 6, 107, 77, [some (.ref 0), some (.int 4)], [.int (I 2 1)], 0, 0, (mSH, I, L)) _
  refine mRt (r := (some (.int (I 2 1)))) (h := (mSH, I, L)) rfl (mRet_int rfl) ?_
  show mWP mTb_ mFT ro (d + 7, 102, 22, [some (.ref 0), some (.long ((31 * ((31 * ((31 * (62093 + ((I 0 9 : Int32).toInt64))) + ((I 0 10 : Int32).toInt64))) + ((I 0 11 : Int32).toInt64))) + ((I 26 1 : Int32).toInt64))), none, some (.int 4)], [.int (I 2 1), .long (31 * ((31 * ((31 * ((31 * (62093 + ((I 0 9 : Int32).toInt64))) + ((I 0 10 : Int32).toInt64))) + ((I 0 11 : Int32).toInt64))) + ((I 26 1 : Int32).toInt64)))], 0, 0, (mSH, I, L)) _
  refine mB 7 (s2 := (d + 7, 102, 9, [some (.ref 0), some (.long ((31 * ((31 * ((31 * ((31 * (62093 + ((I 0 9 : Int32).toInt64))) + ((I 0 10 : Int32).toInt64))) + ((I 0 11 : Int32).toInt64))) + ((I 26 1 : Int32).toInt64))) + ((I 2 1 : Int32).toInt64))), none, some (.int 5)], [.int 9, .int 5], 0, 0, (mSH, I, L))) rfl ?_
  refine mBF (s3 := (d + 7, 102, 12, [some (.ref 0), some (.long ((31 * ((31 * ((31 * ((31 * (62093 + ((I 0 9 : Int32).toInt64))) + ((I 0 10 : Int32).toInt64))) + ((I 0 11 : Int32).toInt64))) + ((I 26 1 : Int32).toInt64))) + ((I 2 1 : Int32).toInt64))), none, some (.int 5)], [], 0, 0, (mSH, I, L))) rfl (by decide) ?_
  refine mB 5 (s2 := (d + 7, 102, 19, [some (.ref 0), some (.long ((31 * ((31 * ((31 * ((31 * (62093 + ((I 0 9 : Int32).toInt64))) + ((I 0 10 : Int32).toInt64))) + ((I 0 11 : Int32).toInt64))) + ((I 26 1 : Int32).toInt64))) + ((I 2 1 : Int32).toInt64))), none, some (.int 5)], [.int 5, .ref 0, .long (31 * ((31 * ((31 * ((31 * ((31 * (62093 + ((I 0 9 : Int32).toInt64))) + ((I 0 10 : Int32).toInt64))) + ((I 0 11 : Int32).toInt64))) + ((I 26 1 : Int32).toInt64))) + ((I 2 1 : Int32).toInt64)))], 0, 0, (mSH, I, L))) rfl ?_
  refine mCall (s2 := (d + 6, 107, 0, [some (.ref 0), some (.int 5)], [], 0, 0, (mSH, I, L))) rfl ?_
  refine mB 1 (s2 := (d + 6, 107, 1, [some (.ref 0), some (.int 5)], [.int 5], 0, 0, (mSH, I, L))) rfl ?_
  refine mSw1 (t := (d + 6, 107, 78, [some (.ref 0), some (.int 5)], [], 0, 0, (mSH, I, L))) rfl rfl ?_
  refine mB 3 (s2 := (d + 6, 107, 85, [some (.ref 0), some (.int 5)], [.ref 4], 0, 0, (mSH, I, L))) rfl ?_
  refine mCall (s2 := (d + 5, 39, 0, [some (.ref 4)], [], 0, 0, (mSH, I, L))) rfl ?_
  refine mB 2 (s2 := (d + 5, 39, 4, [some (.ref 4)], [.int (I 4 1)], 0, 0, (mSH, I, L))) rfl ?_
  refine mRt (r := (some (.int (I 4 1)))) (h := (mSH, I, L)) rfl (mRet_int rfl) ?_
  show mWP mTb_ mFT ro (d + 6, 107, 88, [some (.ref 0), some (.int 5)], [.int (I 4 1)], 0, 0, (mSH, I, L)) _
  refine mRt (r := (some (.int (I 4 1)))) (h := (mSH, I, L)) rfl (mRet_int rfl) ?_
  show mWP mTb_ mFT ro (d + 7, 102, 22, [some (.ref 0), some (.long ((31 * ((31 * ((31 * ((31 * (62093 + ((I 0 9 : Int32).toInt64))) + ((I 0 10 : Int32).toInt64))) + ((I 0 11 : Int32).toInt64))) + ((I 26 1 : Int32).toInt64))) + ((I 2 1 : Int32).toInt64))), none, some (.int 5)], [.int (I 4 1), .long (31 * ((31 * ((31 * ((31 * ((31 * (62093 + ((I 0 9 : Int32).toInt64))) + ((I 0 10 : Int32).toInt64))) + ((I 0 11 : Int32).toInt64))) + ((I 26 1 : Int32).toInt64))) + ((I 2 1 : Int32).toInt64)))], 0, 0, (mSH, I, L)) _
  refine mB 7 (s2 := (d + 7, 102, 9, [some (.ref 0), some (.long ((31 * ((31 * ((31 * ((31 * ((31 * (62093 + ((I 0 9 : Int32).toInt64))) + ((I 0 10 : Int32).toInt64))) + ((I 0 11 : Int32).toInt64))) + ((I 26 1 : Int32).toInt64))) + ((I 2 1 : Int32).toInt64))) + ((I 4 1 : Int32).toInt64))), none, some (.int 6)], [.int 9, .int 6], 0, 0, (mSH, I, L))) rfl ?_
  refine mBF (s3 := (d + 7, 102, 12, [some (.ref 0), some (.long ((31 * ((31 * ((31 * ((31 * ((31 * (62093 + ((I 0 9 : Int32).toInt64))) + ((I 0 10 : Int32).toInt64))) + ((I 0 11 : Int32).toInt64))) + ((I 26 1 : Int32).toInt64))) + ((I 2 1 : Int32).toInt64))) + ((I 4 1 : Int32).toInt64))), none, some (.int 6)], [], 0, 0, (mSH, I, L))) rfl (by decide) ?_
  refine mB 5 (s2 := (d + 7, 102, 19, [some (.ref 0), some (.long ((31 * ((31 * ((31 * ((31 * ((31 * (62093 + ((I 0 9 : Int32).toInt64))) + ((I 0 10 : Int32).toInt64))) + ((I 0 11 : Int32).toInt64))) + ((I 26 1 : Int32).toInt64))) + ((I 2 1 : Int32).toInt64))) + ((I 4 1 : Int32).toInt64))), none, some (.int 6)], [.int 6, .ref 0, .long (31 * ((31 * ((31 * ((31 * ((31 * ((31 * (62093 + ((I 0 9 : Int32).toInt64))) + ((I 0 10 : Int32).toInt64))) + ((I 0 11 : Int32).toInt64))) + ((I 26 1 : Int32).toInt64))) + ((I 2 1 : Int32).toInt64))) + ((I 4 1 : Int32).toInt64)))], 0, 0, (mSH, I, L))) rfl ?_
  refine mCall (s2 := (d + 6, 107, 0, [some (.ref 0), some (.int 6)], [], 0, 0, (mSH, I, L))) rfl ?_
  refine mB 1 (s2 := (d + 6, 107, 1, [some (.ref 0), some (.int 6)], [.int 6], 0, 0, (mSH, I, L))) rfl ?_
  refine mSw1 (t := (d + 6, 107, 89, [some (.ref 0), some (.int 6)], [], 0, 0, (mSH, I, L))) rfl rfl ?_
  refine mB 3 (s2 := (d + 6, 107, 96, [some (.ref 0), some (.int 6)], [.int (I 1 2)], 0, 0, (mSH, I, L))) rfl ?_
  refine mRt (r := (some (.int (I 1 2)))) (h := (mSH, I, L)) rfl (mRet_int rfl) ?_
  show mWP mTb_ mFT ro (d + 7, 102, 22, [some (.ref 0), some (.long ((31 * ((31 * ((31 * ((31 * ((31 * (62093 + ((I 0 9 : Int32).toInt64))) + ((I 0 10 : Int32).toInt64))) + ((I 0 11 : Int32).toInt64))) + ((I 26 1 : Int32).toInt64))) + ((I 2 1 : Int32).toInt64))) + ((I 4 1 : Int32).toInt64))), none, some (.int 6)], [.int (I 1 2), .long (31 * ((31 * ((31 * ((31 * ((31 * ((31 * (62093 + ((I 0 9 : Int32).toInt64))) + ((I 0 10 : Int32).toInt64))) + ((I 0 11 : Int32).toInt64))) + ((I 26 1 : Int32).toInt64))) + ((I 2 1 : Int32).toInt64))) + ((I 4 1 : Int32).toInt64)))], 0, 0, (mSH, I, L)) _
  refine mB 7 (s2 := (d + 7, 102, 9, [some (.ref 0), some (.long ((31 * ((31 * ((31 * ((31 * ((31 * ((31 * (62093 + ((I 0 9 : Int32).toInt64))) + ((I 0 10 : Int32).toInt64))) + ((I 0 11 : Int32).toInt64))) + ((I 26 1 : Int32).toInt64))) + ((I 2 1 : Int32).toInt64))) + ((I 4 1 : Int32).toInt64))) + ((I 1 2 : Int32).toInt64))), none, some (.int 7)], [.int 9, .int 7], 0, 0, (mSH, I, L))) rfl ?_
  refine mBF (s3 := (d + 7, 102, 12, [some (.ref 0), some (.long ((31 * ((31 * ((31 * ((31 * ((31 * ((31 * (62093 + ((I 0 9 : Int32).toInt64))) + ((I 0 10 : Int32).toInt64))) + ((I 0 11 : Int32).toInt64))) + ((I 26 1 : Int32).toInt64))) + ((I 2 1 : Int32).toInt64))) + ((I 4 1 : Int32).toInt64))) + ((I 1 2 : Int32).toInt64))), none, some (.int 7)], [], 0, 0, (mSH, I, L))) rfl (by decide) ?_
  refine mB 5 (s2 := (d + 7, 102, 19, [some (.ref 0), some (.long ((31 * ((31 * ((31 * ((31 * ((31 * ((31 * (62093 + ((I 0 9 : Int32).toInt64))) + ((I 0 10 : Int32).toInt64))) + ((I 0 11 : Int32).toInt64))) + ((I 26 1 : Int32).toInt64))) + ((I 2 1 : Int32).toInt64))) + ((I 4 1 : Int32).toInt64))) + ((I 1 2 : Int32).toInt64))), none, some (.int 7)], [.int 7, .ref 0, .long (31 * ((31 * ((31 * ((31 * ((31 * ((31 * ((31 * (62093 + ((I 0 9 : Int32).toInt64))) + ((I 0 10 : Int32).toInt64))) + ((I 0 11 : Int32).toInt64))) + ((I 26 1 : Int32).toInt64))) + ((I 2 1 : Int32).toInt64))) + ((I 4 1 : Int32).toInt64))) + ((I 1 2 : Int32).toInt64)))], 0, 0, (mSH, I, L))) rfl ?_
  refine mCall (s2 := (d + 6, 107, 0, [some (.ref 0), some (.int 7)], [], 0, 0, (mSH, I, L))) rfl ?_
  refine mB 1 (s2 := (d + 6, 107, 1, [some (.ref 0), some (.int 7)], [.int 7], 0, 0, (mSH, I, L))) rfl ?_
  refine mSw1 (t := (d + 6, 107, 97, [some (.ref 0), some (.int 7)], [], 0, 0, (mSH, I, L))) rfl rfl ?_
  refine mB 5 (s2 := (d + 6, 107, 105, [some (.ref 0), some (.int 7)], [.int 0, .ref 8], 0, 0, (mSH, I, L))) rfl ?_
  refine mCall (s2 := (d + 5, 10, 0, [some (.ref 8), some (.int 0)], [], 0, 0, (mSH, I, L))) rfl ?_
  refine mB 2 (s2 := (d + 5, 10, 2, [some (.ref 8), some (.int 0)], [.int 0, .ref 8], 0, 0, (mSH, I, L))) rfl ?_
  refine mCall (s2 := (d + 4, 8, 0, [some (.ref 8), some (.int 0)], [], 0, 0, (mSH, I, L))) rfl ?_
  refine mB 1 (s2 := (d + 4, 8, 1, [some (.ref 8), some (.int 0)], [.int 0], 0, 0, (mSH, I, L))) rfl ?_
  refine mBF (s3 := (d + 4, 8, 4, [some (.ref 8), some (.int 0)], [], 0, 0, (mSH, I, L))) rfl (by decide) ?_
  refine mB 4 (s2 := (d + 4, 8, 10, [some (.ref 8), some (.int 0)], [.int 3, .int 0], 0, 0, (mSH, I, L))) rfl ?_
  refine mBF (s3 := (d + 4, 8, 13, [some (.ref 8), some (.int 0)], [], 0, 0, (mSH, I, L))) rfl (by decide) ?_
  refine mB 2 (s2 := (d + 4, 8, 18, [some (.ref 8), some (.int 0)], [.int 1], 0, 0, (mSH, I, L))) rfl ?_
  refine mRt (r := (some (.int 1))) (h := (mSH, I, L)) rfl rfl ?_
  show mWP mTb_ mFT ro (d + 5, 10, 5, [some (.ref 8), some (.int 0)], [.int 1], 0, 0, (mSH, I, L)) _
  refine mBF (s3 := (d + 5, 10, 8, [some (.ref 8), some (.int 0)], [], 0, 0, (mSH, I, L))) rfl (by decide) ?_
  refine mB 3 (s2 := (d + 5, 10, 13, [some (.ref 8), some (.int 0)], [.int 0, .ref 9], 0, 0, (mSH, I, L))) rfl ?_
  refine mRq (s2 := (d + 5, 10, 14, [some (.ref 8), some (.int 0)], [.int (I 9 0)], 0, 0, (mSH, I, L))) rfl (by decide) ?_
  refine mB 1 (s2 := (d + 5, 10, 18, [some (.ref 8), some (.int 0)], [.int (I 9 0)], 0, 0, (mSH, I, L))) rfl ?_
  refine mRt (r := (some (.int (I 9 0)))) (h := (mSH, I, L)) rfl (mRet_int rfl) ?_
  show mWP mTb_ mFT ro (d + 6, 107, 108, [some (.ref 0), some (.int 7)], [.int (I 9 0)], 0, 0, (mSH, I, L)) _
  refine mRt (r := (some (.int (I 9 0)))) (h := (mSH, I, L)) rfl (mRet_int rfl) ?_
  show mWP mTb_ mFT ro (d + 7, 102, 22, [some (.ref 0), some (.long ((31 * ((31 * ((31 * ((31 * ((31 * ((31 * (62093 + ((I 0 9 : Int32).toInt64))) + ((I 0 10 : Int32).toInt64))) + ((I 0 11 : Int32).toInt64))) + ((I 26 1 : Int32).toInt64))) + ((I 2 1 : Int32).toInt64))) + ((I 4 1 : Int32).toInt64))) + ((I 1 2 : Int32).toInt64))), none, some (.int 7)], [.int (I 9 0), .long (31 * ((31 * ((31 * ((31 * ((31 * ((31 * ((31 * (62093 + ((I 0 9 : Int32).toInt64))) + ((I 0 10 : Int32).toInt64))) + ((I 0 11 : Int32).toInt64))) + ((I 26 1 : Int32).toInt64))) + ((I 2 1 : Int32).toInt64))) + ((I 4 1 : Int32).toInt64))) + ((I 1 2 : Int32).toInt64)))], 0, 0, (mSH, I, L)) _
  refine mB 7 (s2 := (d + 7, 102, 9, [some (.ref 0), some (.long ((31 * ((31 * ((31 * ((31 * ((31 * ((31 * ((31 * (62093 + ((I 0 9 : Int32).toInt64))) + ((I 0 10 : Int32).toInt64))) + ((I 0 11 : Int32).toInt64))) + ((I 26 1 : Int32).toInt64))) + ((I 2 1 : Int32).toInt64))) + ((I 4 1 : Int32).toInt64))) + ((I 1 2 : Int32).toInt64))) + ((I 9 0 : Int32).toInt64))), none, some (.int 8)], [.int 9, .int 8], 0, 0, (mSH, I, L))) rfl ?_
  refine mBF (s3 := (d + 7, 102, 12, [some (.ref 0), some (.long ((31 * ((31 * ((31 * ((31 * ((31 * ((31 * ((31 * (62093 + ((I 0 9 : Int32).toInt64))) + ((I 0 10 : Int32).toInt64))) + ((I 0 11 : Int32).toInt64))) + ((I 26 1 : Int32).toInt64))) + ((I 2 1 : Int32).toInt64))) + ((I 4 1 : Int32).toInt64))) + ((I 1 2 : Int32).toInt64))) + ((I 9 0 : Int32).toInt64))), none, some (.int 8)], [], 0, 0, (mSH, I, L))) rfl (by decide) ?_
  refine mB 5 (s2 := (d + 7, 102, 19, [some (.ref 0), some (.long ((31 * ((31 * ((31 * ((31 * ((31 * ((31 * ((31 * (62093 + ((I 0 9 : Int32).toInt64))) + ((I 0 10 : Int32).toInt64))) + ((I 0 11 : Int32).toInt64))) + ((I 26 1 : Int32).toInt64))) + ((I 2 1 : Int32).toInt64))) + ((I 4 1 : Int32).toInt64))) + ((I 1 2 : Int32).toInt64))) + ((I 9 0 : Int32).toInt64))), none, some (.int 8)], [.int 8, .ref 0, .long (31 * ((31 * ((31 * ((31 * ((31 * ((31 * ((31 * ((31 * (62093 + ((I 0 9 : Int32).toInt64))) + ((I 0 10 : Int32).toInt64))) + ((I 0 11 : Int32).toInt64))) + ((I 26 1 : Int32).toInt64))) + ((I 2 1 : Int32).toInt64))) + ((I 4 1 : Int32).toInt64))) + ((I 1 2 : Int32).toInt64))) + ((I 9 0 : Int32).toInt64)))], 0, 0, (mSH, I, L))) rfl ?_
  refine mCall (s2 := (d + 6, 107, 0, [some (.ref 0), some (.int 8)], [], 0, 0, (mSH, I, L))) rfl ?_
  refine mB 1 (s2 := (d + 6, 107, 1, [some (.ref 0), some (.int 8)], [.int 8], 0, 0, (mSH, I, L))) rfl ?_
  refine mSw1 (t := (d + 6, 107, 97, [some (.ref 0), some (.int 8)], [], 0, 0, (mSH, I, L))) rfl rfl ?_
  refine mB 5 (s2 := (d + 6, 107, 105, [some (.ref 0), some (.int 8)], [.int 1, .ref 8], 0, 0, (mSH, I, L))) rfl ?_
  refine mCall (s2 := (d + 5, 10, 0, [some (.ref 8), some (.int 1)], [], 0, 0, (mSH, I, L))) rfl ?_
  refine mB 2 (s2 := (d + 5, 10, 2, [some (.ref 8), some (.int 1)], [.int 1, .ref 8], 0, 0, (mSH, I, L))) rfl ?_
  refine mCall (s2 := (d + 4, 8, 0, [some (.ref 8), some (.int 1)], [], 0, 0, (mSH, I, L))) rfl ?_
  refine mB 1 (s2 := (d + 4, 8, 1, [some (.ref 8), some (.int 1)], [.int 1], 0, 0, (mSH, I, L))) rfl ?_
  refine mBF (s3 := (d + 4, 8, 4, [some (.ref 8), some (.int 1)], [], 0, 0, (mSH, I, L))) rfl (by decide) ?_
  refine mB 4 (s2 := (d + 4, 8, 10, [some (.ref 8), some (.int 1)], [.int 3, .int 1], 0, 0, (mSH, I, L))) rfl ?_
  refine mBF (s3 := (d + 4, 8, 13, [some (.ref 8), some (.int 1)], [], 0, 0, (mSH, I, L))) rfl (by decide) ?_
  refine mB 2 (s2 := (d + 4, 8, 18, [some (.ref 8), some (.int 1)], [.int 1], 0, 0, (mSH, I, L))) rfl ?_
  refine mRt (r := (some (.int 1))) (h := (mSH, I, L)) rfl rfl ?_
  show mWP mTb_ mFT ro (d + 5, 10, 5, [some (.ref 8), some (.int 1)], [.int 1], 0, 0, (mSH, I, L)) _
  refine mBF (s3 := (d + 5, 10, 8, [some (.ref 8), some (.int 1)], [], 0, 0, (mSH, I, L))) rfl (by decide) ?_
  refine mB 3 (s2 := (d + 5, 10, 13, [some (.ref 8), some (.int 1)], [.int 1, .ref 9], 0, 0, (mSH, I, L))) rfl ?_
  refine mRq (s2 := (d + 5, 10, 14, [some (.ref 8), some (.int 1)], [.int (I 9 1)], 0, 0, (mSH, I, L))) rfl (by decide) ?_
  refine mB 1 (s2 := (d + 5, 10, 18, [some (.ref 8), some (.int 1)], [.int (I 9 1)], 0, 0, (mSH, I, L))) rfl ?_
  refine mRt (r := (some (.int (I 9 1)))) (h := (mSH, I, L)) rfl (mRet_int rfl) ?_
  show mWP mTb_ mFT ro (d + 6, 107, 108, [some (.ref 0), some (.int 8)], [.int (I 9 1)], 0, 0, (mSH, I, L)) _
  refine mRt (r := (some (.int (I 9 1)))) (h := (mSH, I, L)) rfl (mRet_int rfl) ?_
  show mWP mTb_ mFT ro (d + 7, 102, 22, [some (.ref 0), some (.long ((31 * ((31 * ((31 * ((31 * ((31 * ((31 * ((31 * (62093 + ((I 0 9 : Int32).toInt64))) + ((I 0 10 : Int32).toInt64))) + ((I 0 11 : Int32).toInt64))) + ((I 26 1 : Int32).toInt64))) + ((I 2 1 : Int32).toInt64))) + ((I 4 1 : Int32).toInt64))) + ((I 1 2 : Int32).toInt64))) + ((I 9 0 : Int32).toInt64))), none, some (.int 8)], [.int (I 9 1), .long (31 * ((31 * ((31 * ((31 * ((31 * ((31 * ((31 * ((31 * (62093 + ((I 0 9 : Int32).toInt64))) + ((I 0 10 : Int32).toInt64))) + ((I 0 11 : Int32).toInt64))) + ((I 26 1 : Int32).toInt64))) + ((I 2 1 : Int32).toInt64))) + ((I 4 1 : Int32).toInt64))) + ((I 1 2 : Int32).toInt64))) + ((I 9 0 : Int32).toInt64)))], 0, 0, (mSH, I, L)) _
  refine mB 7 (s2 := (d + 7, 102, 9, [some (.ref 0), some (.long ((31 * ((31 * ((31 * ((31 * ((31 * ((31 * ((31 * ((31 * (62093 + ((I 0 9 : Int32).toInt64))) + ((I 0 10 : Int32).toInt64))) + ((I 0 11 : Int32).toInt64))) + ((I 26 1 : Int32).toInt64))) + ((I 2 1 : Int32).toInt64))) + ((I 4 1 : Int32).toInt64))) + ((I 1 2 : Int32).toInt64))) + ((I 9 0 : Int32).toInt64))) + ((I 9 1 : Int32).toInt64))), none, some (.int 9)], [.int 9, .int 9], 0, 0, (mSH, I, L))) rfl ?_
  refine mBF (s3 := (d + 7, 102, 12, [some (.ref 0), some (.long ((31 * ((31 * ((31 * ((31 * ((31 * ((31 * ((31 * ((31 * (62093 + ((I 0 9 : Int32).toInt64))) + ((I 0 10 : Int32).toInt64))) + ((I 0 11 : Int32).toInt64))) + ((I 26 1 : Int32).toInt64))) + ((I 2 1 : Int32).toInt64))) + ((I 4 1 : Int32).toInt64))) + ((I 1 2 : Int32).toInt64))) + ((I 9 0 : Int32).toInt64))) + ((I 9 1 : Int32).toInt64))), none, some (.int 9)], [], 0, 0, (mSH, I, L))) rfl (by decide) ?_
  refine mB 5 (s2 := (d + 7, 102, 19, [some (.ref 0), some (.long ((31 * ((31 * ((31 * ((31 * ((31 * ((31 * ((31 * ((31 * (62093 + ((I 0 9 : Int32).toInt64))) + ((I 0 10 : Int32).toInt64))) + ((I 0 11 : Int32).toInt64))) + ((I 26 1 : Int32).toInt64))) + ((I 2 1 : Int32).toInt64))) + ((I 4 1 : Int32).toInt64))) + ((I 1 2 : Int32).toInt64))) + ((I 9 0 : Int32).toInt64))) + ((I 9 1 : Int32).toInt64))), none, some (.int 9)], [.int 9, .ref 0, .long (31 * ((31 * ((31 * ((31 * ((31 * ((31 * ((31 * ((31 * ((31 * (62093 + ((I 0 9 : Int32).toInt64))) + ((I 0 10 : Int32).toInt64))) + ((I 0 11 : Int32).toInt64))) + ((I 26 1 : Int32).toInt64))) + ((I 2 1 : Int32).toInt64))) + ((I 4 1 : Int32).toInt64))) + ((I 1 2 : Int32).toInt64))) + ((I 9 0 : Int32).toInt64))) + ((I 9 1 : Int32).toInt64)))], 0, 0, (mSH, I, L))) rfl ?_
  refine mCall (s2 := (d + 6, 107, 0, [some (.ref 0), some (.int 9)], [], 0, 0, (mSH, I, L))) rfl ?_
  refine mB 1 (s2 := (d + 6, 107, 1, [some (.ref 0), some (.int 9)], [.int 9], 0, 0, (mSH, I, L))) rfl ?_
  refine mSw1 (t := (d + 6, 107, 97, [some (.ref 0), some (.int 9)], [], 0, 0, (mSH, I, L))) rfl rfl ?_
  refine mB 5 (s2 := (d + 6, 107, 105, [some (.ref 0), some (.int 9)], [.int 2, .ref 8], 0, 0, (mSH, I, L))) rfl ?_
  refine mCall (s2 := (d + 5, 10, 0, [some (.ref 8), some (.int 2)], [], 0, 0, (mSH, I, L))) rfl ?_
  refine mB 2 (s2 := (d + 5, 10, 2, [some (.ref 8), some (.int 2)], [.int 2, .ref 8], 0, 0, (mSH, I, L))) rfl ?_
  refine mCall (s2 := (d + 4, 8, 0, [some (.ref 8), some (.int 2)], [], 0, 0, (mSH, I, L))) rfl ?_
  refine mB 1 (s2 := (d + 4, 8, 1, [some (.ref 8), some (.int 2)], [.int 2], 0, 0, (mSH, I, L))) rfl ?_
  refine mBF (s3 := (d + 4, 8, 4, [some (.ref 8), some (.int 2)], [], 0, 0, (mSH, I, L))) rfl (by decide) ?_
  refine mB 4 (s2 := (d + 4, 8, 10, [some (.ref 8), some (.int 2)], [.int 3, .int 2], 0, 0, (mSH, I, L))) rfl ?_
  refine mBF (s3 := (d + 4, 8, 13, [some (.ref 8), some (.int 2)], [], 0, 0, (mSH, I, L))) rfl (by decide) ?_
  refine mB 2 (s2 := (d + 4, 8, 18, [some (.ref 8), some (.int 2)], [.int 1], 0, 0, (mSH, I, L))) rfl ?_
  refine mRt (r := (some (.int 1))) (h := (mSH, I, L)) rfl rfl ?_
  show mWP mTb_ mFT ro (d + 5, 10, 5, [some (.ref 8), some (.int 2)], [.int 1], 0, 0, (mSH, I, L)) _
  refine mBF (s3 := (d + 5, 10, 8, [some (.ref 8), some (.int 2)], [], 0, 0, (mSH, I, L))) rfl (by decide) ?_
  refine mB 3 (s2 := (d + 5, 10, 13, [some (.ref 8), some (.int 2)], [.int 2, .ref 9], 0, 0, (mSH, I, L))) rfl ?_
  refine mRq (s2 := (d + 5, 10, 14, [some (.ref 8), some (.int 2)], [.int (I 9 2)], 0, 0, (mSH, I, L))) rfl (by decide) ?_
  refine mB 1 (s2 := (d + 5, 10, 18, [some (.ref 8), some (.int 2)], [.int (I 9 2)], 0, 0, (mSH, I, L))) rfl ?_
  refine mRt (r := (some (.int (I 9 2)))) (h := (mSH, I, L)) rfl (mRet_int rfl) ?_
  show mWP mTb_ mFT ro (d + 6, 107, 108, [some (.ref 0), some (.int 9)], [.int (I 9 2)], 0, 0, (mSH, I, L)) _
  refine mRt (r := (some (.int (I 9 2)))) (h := (mSH, I, L)) rfl (mRet_int rfl) ?_
  show mWP mTb_ mFT ro (d + 7, 102, 22, [some (.ref 0), some (.long ((31 * ((31 * ((31 * ((31 * ((31 * ((31 * ((31 * ((31 * (62093 + ((I 0 9 : Int32).toInt64))) + ((I 0 10 : Int32).toInt64))) + ((I 0 11 : Int32).toInt64))) + ((I 26 1 : Int32).toInt64))) + ((I 2 1 : Int32).toInt64))) + ((I 4 1 : Int32).toInt64))) + ((I 1 2 : Int32).toInt64))) + ((I 9 0 : Int32).toInt64))) + ((I 9 1 : Int32).toInt64))), none, some (.int 9)], [.int (I 9 2), .long (31 * ((31 * ((31 * ((31 * ((31 * ((31 * ((31 * ((31 * ((31 * (62093 + ((I 0 9 : Int32).toInt64))) + ((I 0 10 : Int32).toInt64))) + ((I 0 11 : Int32).toInt64))) + ((I 26 1 : Int32).toInt64))) + ((I 2 1 : Int32).toInt64))) + ((I 4 1 : Int32).toInt64))) + ((I 1 2 : Int32).toInt64))) + ((I 9 0 : Int32).toInt64))) + ((I 9 1 : Int32).toInt64)))], 0, 0, (mSH, I, L)) _
  refine mB 7 (s2 := (d + 7, 102, 9, [some (.ref 0), some (.long ((31 * ((31 * ((31 * ((31 * ((31 * ((31 * ((31 * ((31 * ((31 * (62093 + ((I 0 9 : Int32).toInt64))) + ((I 0 10 : Int32).toInt64))) + ((I 0 11 : Int32).toInt64))) + ((I 26 1 : Int32).toInt64))) + ((I 2 1 : Int32).toInt64))) + ((I 4 1 : Int32).toInt64))) + ((I 1 2 : Int32).toInt64))) + ((I 9 0 : Int32).toInt64))) + ((I 9 1 : Int32).toInt64))) + ((I 9 2 : Int32).toInt64))), none, some (.int 10)], [.int 9, .int 10], 0, 0, (mSH, I, L))) rfl ?_
  refine mBT (s2 := (d + 7, 102, 31, [some (.ref 0), some (.long ((31 * ((31 * ((31 * ((31 * ((31 * ((31 * ((31 * ((31 * ((31 * (62093 + ((I 0 9 : Int32).toInt64))) + ((I 0 10 : Int32).toInt64))) + ((I 0 11 : Int32).toInt64))) + ((I 26 1 : Int32).toInt64))) + ((I 2 1 : Int32).toInt64))) + ((I 4 1 : Int32).toInt64))) + ((I 1 2 : Int32).toInt64))) + ((I 9 0 : Int32).toInt64))) + ((I 9 1 : Int32).toInt64))) + ((I 9 2 : Int32).toInt64))), none, some (.int 10)], [], 0, 0, (mSH, I, L))) rfl (by decide) ?_
  refine mB 4 (s2 := (d + 7, 102, 39, [some (.ref 0), some (.long ((31 * ((31 * ((31 * ((31 * ((31 * ((31 * ((31 * ((31 * ((31 * (62093 + ((I 0 9 : Int32).toInt64))) + ((I 0 10 : Int32).toInt64))) + ((I 0 11 : Int32).toInt64))) + ((I 26 1 : Int32).toInt64))) + ((I 2 1 : Int32).toInt64))) + ((I 4 1 : Int32).toInt64))) + ((I 1 2 : Int32).toInt64))) + ((I 9 0 : Int32).toInt64))) + ((I 9 1 : Int32).toInt64))) + ((I 9 2 : Int32).toInt64))), none, some (.int 10)], [.long ((31 * ((31 * ((31 * ((31 * ((31 * ((31 * ((31 * ((31 * ((31 * (62093 + ((I 0 9 : Int32).toInt64))) + ((I 0 10 : Int32).toInt64))) + ((I 0 11 : Int32).toInt64))) + ((I 26 1 : Int32).toInt64))) + ((I 2 1 : Int32).toInt64))) + ((I 4 1 : Int32).toInt64))) + ((I 1 2 : Int32).toInt64))) + ((I 9 0 : Int32).toInt64))) + ((I 9 1 : Int32).toInt64))) + ((I 9 2 : Int32).toInt64)), .ref 2], 0, 0, (mSH, I, L))) rfl ?_
  refine mCall (s2 := (d + 6, 49, 0, [some (.ref 2), some (.long ((31 * ((31 * ((31 * ((31 * ((31 * ((31 * ((31 * ((31 * ((31 * (62093 + ((I 0 9 : Int32).toInt64))) + ((I 0 10 : Int32).toInt64))) + ((I 0 11 : Int32).toInt64))) + ((I 26 1 : Int32).toInt64))) + ((I 2 1 : Int32).toInt64))) + ((I 4 1 : Int32).toInt64))) + ((I 1 2 : Int32).toInt64))) + ((I 9 0 : Int32).toInt64))) + ((I 9 1 : Int32).toInt64))) + ((I 9 2 : Int32).toInt64))), none, none, none, none], [], 0, 0, (mSH, I, L))) rfl ?_
  refine w_mixed_2 hI.1 (fun r1 => ?_)
  show mWP mTb_ mFT ro (d + 7, 102, 42, [some (.ref 0), some (.long ((31 * ((31 * ((31 * ((31 * ((31 * ((31 * ((31 * ((31 * ((31 * (62093 + ((I 0 9 : Int32).toInt64))) + ((I 0 10 : Int32).toInt64))) + ((I 0 11 : Int32).toInt64))) + ((I 26 1 : Int32).toInt64))) + ((I 2 1 : Int32).toInt64))) + ((I 4 1 : Int32).toInt64))) + ((I 1 2 : Int32).toInt64))) + ((I 9 0 : Int32).toInt64))) + ((I 9 1 : Int32).toInt64))) + ((I 9 2 : Int32).toInt64))), none, some (.int 10)], [.long r1], 0, 0, (mSH, I, L)) _
  refine mB 5 (s2 := (d + 7, 102, 51, [some (.ref 0), some (.long r1), none, some (.int 10)], [.long r1, .ref 4], 0, 0, (mSH, I, L))) rfl ?_
  refine mCall (s2 := (d + 6, 49, 0, [some (.ref 4), some (.long r1), none, none, none, none], [], 0, 0, (mSH, I, L))) rfl ?_
  refine w_mixed_4 hI.2.1 (fun r2 => ?_)
  show mWP mTb_ mFT ro (d + 7, 102, 54, [some (.ref 0), some (.long r1), none, some (.int 10)], [.long r2], 0, 0, (mSH, I, L)) _
  refine mB 4 (s2 := (d + 7, 102, 60, [some (.ref 0), some (.long r2), none, some (.int 10)], [.long r2, .ref 6], 0, 0, (mSH, I, L))) rfl ?_
  refine mCall (s2 := (d + 6, 3, 0, [some (.ref 6), some (.long r2), none, none, none], [], 0, 0, (mSH, I, L))) rfl ?_
  refine mB 31 (s2 := (d + 6, 3, 47, [some (.ref 6), some (.long r2), none, some (.long ((31 * ((31 * ((31 * r2) + ((I 6 0 : Int32).toInt64))) + ((I 6 1 : Int32).toInt64))) + ((I 6 2 : Int32).toInt64))), none], [.long ((31 * ((31 * ((31 * ((31 * r2) + ((I 6 0 : Int32).toInt64))) + ((I 6 1 : Int32).toInt64))) + ((I 6 2 : Int32).toInt64))) + ((I 6 3 : Int32).toInt64))], 0, 0, (mSH, I, L))) rfl ?_
  refine mRt (r := (some (.long ((31 * ((31 * ((31 * ((31 * r2) + ((I 6 0 : Int32).toInt64))) + ((I 6 1 : Int32).toInt64))) + ((I 6 2 : Int32).toInt64))) + ((I 6 3 : Int32).toInt64))))) (h := (mSH, I, L)) rfl rfl ?_
  show mWP mTb_ mFT ro (d + 7, 102, 63, [some (.ref 0), some (.long r2), none, some (.int 10)], [.long ((31 * ((31 * ((31 * ((31 * r2) + ((I 6 0 : Int32).toInt64))) + ((I 6 1 : Int32).toInt64))) + ((I 6 2 : Int32).toInt64))) + ((I 6 3 : Int32).toInt64))], 0, 0, (mSH, I, L)) _
  refine mB 20 (s2 := (d + 7, 102, 95, [some (.ref 0), some (.long ((31 * ((31 * ((31 * ((31 * ((31 * ((31 * r2) + ((I 6 0 : Int32).toInt64))) + ((I 6 1 : Int32).toInt64))) + ((I 6 2 : Int32).toInt64))) + ((I 6 3 : Int32).toInt64))) + ((I 25 0 : Int32).toInt64))) + ((I 25 1 : Int32).toInt64))), none, some (.int 10)], [.ref 0], 0, 0, (mSH, I, L))) rfl ?_
  refine mCall (s2 := (d + 6, 105, 0, [some (.ref 0)], [], 0, 0, (mSH, I, L))) rfl ?_
  refine mB 7 (s2 := (d + 6, 105, 13, [some (.ref 0)], [.int 0, .ref 8, .ref 6, .ref 10], 0, 0, (mSH, I, L))) rfl ?_
  refine mCall (s2 := (d + 5, 10, 0, [some (.ref 8), some (.int 0)], [], 0, 0, (mSH, I, L))) rfl ?_
  refine mB 2 (s2 := (d + 5, 10, 2, [some (.ref 8), some (.int 0)], [.int 0, .ref 8], 0, 0, (mSH, I, L))) rfl ?_
  refine mCall (s2 := (d + 4, 8, 0, [some (.ref 8), some (.int 0)], [], 0, 0, (mSH, I, L))) rfl ?_
  refine mB 1 (s2 := (d + 4, 8, 1, [some (.ref 8), some (.int 0)], [.int 0], 0, 0, (mSH, I, L))) rfl ?_
  refine mBF (s3 := (d + 4, 8, 4, [some (.ref 8), some (.int 0)], [], 0, 0, (mSH, I, L))) rfl (by decide) ?_
  refine mB 4 (s2 := (d + 4, 8, 10, [some (.ref 8), some (.int 0)], [.int 3, .int 0], 0, 0, (mSH, I, L))) rfl ?_
  refine mBF (s3 := (d + 4, 8, 13, [some (.ref 8), some (.int 0)], [], 0, 0, (mSH, I, L))) rfl (by decide) ?_
  refine mB 2 (s2 := (d + 4, 8, 18, [some (.ref 8), some (.int 0)], [.int 1], 0, 0, (mSH, I, L))) rfl ?_
  refine mRt (r := (some (.int 1))) (h := (mSH, I, L)) rfl rfl ?_
  show mWP mTb_ mFT ro (d + 5, 10, 5, [some (.ref 8), some (.int 0)], [.int 1], 0, 0, (mSH, I, L)) _
  refine mBF (s3 := (d + 5, 10, 8, [some (.ref 8), some (.int 0)], [], 0, 0, (mSH, I, L))) rfl (by decide) ?_
  refine mB 3 (s2 := (d + 5, 10, 13, [some (.ref 8), some (.int 0)], [.int 0, .ref 9], 0, 0, (mSH, I, L))) rfl ?_
  refine mRq (s2 := (d + 5, 10, 14, [some (.ref 8), some (.int 0)], [.int (I 9 0)], 0, 0, (mSH, I, L))) rfl (by decide) ?_
  refine mB 1 (s2 := (d + 5, 10, 18, [some (.ref 8), some (.int 0)], [.int (I 9 0)], 0, 0, (mSH, I, L))) rfl ?_
  refine mRt (r := (some (.int (I 9 0)))) (h := (mSH, I, L)) rfl (mRet_int rfl) ?_
  show mWP mTb_ mFT ro (d + 6, 105, 16, [some (.ref 0)], [.int (I 9 0), .ref 6, .ref 10], 0, 0, (mSH, I, L)) _
  refine mCall (s2 := (d + 5, 52, 0, [some (.ref 10), some (.ref 6), some (.int (I 9 0)), none, none, none], [], 0, 0, (mSH, I, L))) rfl ?_
  refine w_fill_L6 hI.1 hI.2.1 hI.2.2.2.2.2.2 (fun K3 hK3 => ?_)
  show mWP mTb_ mFT ro (d + 6, 105, 19, [some (.ref 0)], [], 0, 0, (mSH, (mMix mSS I K3), L)) _
  refine mRt (r := none) (h := (mSH, (mMix mSS I K3), L)) rfl rfl ?_
  show mWP mTb_ mFT ro (d + 7, 102, 98, [some (.ref 0), some (.long ((31 * ((31 * ((31 * ((31 * ((31 * ((31 * r2) + ((I 6 0 : Int32).toInt64))) + ((I 6 1 : Int32).toInt64))) + ((I 6 2 : Int32).toInt64))) + ((I 6 3 : Int32).toInt64))) + ((I 25 0 : Int32).toInt64))) + ((I 25 1 : Int32).toInt64))), none, some (.int 10)], [], 0, 0, (mSH, (mMix mSS I K3), L)) _
  refine mB 5 (s2 := (d + 7, 102, 107, [some (.ref 0), some (.long ((31 * ((31 * ((31 * ((31 * ((31 * ((31 * r2) + ((I 6 0 : Int32).toInt64))) + ((I 6 1 : Int32).toInt64))) + ((I 6 2 : Int32).toInt64))) + ((I 6 3 : Int32).toInt64))) + ((I 25 0 : Int32).toInt64))) + ((I 25 1 : Int32).toInt64))), none, some (.int 10)], [.ref 10, .long (31 * ((31 * ((31 * ((31 * ((31 * ((31 * ((31 * r2) + ((I 6 0 : Int32).toInt64))) + ((I 6 1 : Int32).toInt64))) + ((I 6 2 : Int32).toInt64))) + ((I 6 3 : Int32).toInt64))) + ((I 25 0 : Int32).toInt64))) + ((I 25 1 : Int32).toInt64)))], 0, 0, (mSH, (mMix mSS I K3), L))) rfl ?_
  refine mCall (s2 := (d + 6, 61, 0, [some (.ref 10)], [], 0, 0, (mSH, (mMix mSS I K3), L))) rfl ?_
  refine mB 2 (s2 := (d + 6, 61, 4, [some (.ref 10)], [.int 153, .ref 10], 0, 0, (mSH, (mMix mSS I K3), L))) rfl ?_
  refine mCall (s2 := (d + 5, 60, 0, [some (.ref 10), some (.int 153)], [], 0, 0, (mSH, (mMix mSS I K3), L))) rfl ?_
  refine mB 3 (s2 := (d + 5, 60, 5, [some (.ref 10), some (.int 153)], [.int 0, .ref 11], 0, 0, (mSH, (mMix mSS I K3), L))) rfl ?_
  refine mRq (s2 := (d + 5, 60, 6, [some (.ref 10), some (.int 153)], [.ref 12], 0, 0, (mSH, (mMix mSS I K3), L))) rfl (by decide) ?_
  refine mB 1 (s2 := (d + 5, 60, 7, [some (.ref 10), some (.int 153)], [.int 153, .ref 12], 0, 0, (mSH, (mMix mSS I K3), L))) rfl ?_
  refine mRq (s2 := (d + 5, 60, 8, [some (.ref 10), some (.int 153)], [.int (K3 12 153)], 0, 0, (mSH, (mMix mSS I K3), L))) rfl (by decide) ?_
  refine mB 1 (s2 := (d + 5, 60, 10, [some (.ref 10), some (.int 153)], [.int 1000000000, .int (K3 12 153)], 0, 0, (mSH, (mMix mSS I K3), L))) rfl ?_
  refine mBr (s2 := (d + 5, 60, 13, [some (.ref 10), some (.int 153)], [], 0, 0, (mSH, (mMix mSS I K3), L))) (s3 := (d + 5, 60, 17, [some (.ref 10), some (.int 153)], [], 0, 0, (mSH, (mMix mSS I K3), L))) rfl (fun c4 => ?_) (fun c4 => ?_)
  · refine mB 2 (s2 := (d + 5, 60, 25, [some (.ref 10), some (.int 153)], [.int (-1)], 0, 0, (mSH, (mMix mSS I K3), L))) rfl ?_
    refine mRt (r := (some (.int (-1)))) (h := (mSH, (mMix mSS I K3), L)) rfl (mRet_int rfl) ?_
    show mWP mTb_ mFT ro (d + 6, 61, 7, [some (.ref 10)], [.int (-1)], 0, 0, (mSH, (mMix mSS I K3), L)) _
    refine mRt (r := (some (.int (-1)))) (h := (mSH, (mMix mSS I K3), L)) rfl (mRet_int rfl) ?_
    show mWP mTb_ mFT ro (d + 7, 102, 110, [some (.ref 0), some (.long ((31 * ((31 * ((31 * ((31 * ((31 * ((31 * r2) + ((I 6 0 : Int32).toInt64))) + ((I 6 1 : Int32).toInt64))) + ((I 6 2 : Int32).toInt64))) + ((I 6 3 : Int32).toInt64))) + ((I 25 0 : Int32).toInt64))) + ((I 25 1 : Int32).toInt64))), none, some (.int 10)], [.int (-1), .long (31 * ((31 * ((31 * ((31 * ((31 * ((31 * ((31 * r2) + ((I 6 0 : Int32).toInt64))) + ((I 6 1 : Int32).toInt64))) + ((I 6 2 : Int32).toInt64))) + ((I 6 3 : Int32).toInt64))) + ((I 25 0 : Int32).toInt64))) + ((I 25 1 : Int32).toInt64)))], 0, 0, (mSH, (mMix mSS I K3), L)) _
    refine mB 2 (s2 := (d + 7, 102, 112, [some (.ref 0), some (.long ((31 * ((31 * ((31 * ((31 * ((31 * ((31 * r2) + ((I 6 0 : Int32).toInt64))) + ((I 6 1 : Int32).toInt64))) + ((I 6 2 : Int32).toInt64))) + ((I 6 3 : Int32).toInt64))) + ((I 25 0 : Int32).toInt64))) + ((I 25 1 : Int32).toInt64))), none, some (.int 10)], [.long ((31 * ((31 * ((31 * ((31 * ((31 * ((31 * ((31 * r2) + ((I 6 0 : Int32).toInt64))) + ((I 6 1 : Int32).toInt64))) + ((I 6 2 : Int32).toInt64))) + ((I 6 3 : Int32).toInt64))) + ((I 25 0 : Int32).toInt64))) + ((I 25 1 : Int32).toInt64))) + (((-1) : Int32).toInt64))], 0, 0, (mSH, (mMix mSS I K3), L))) rfl ?_
    refine mRt (r := (some (.long ((31 * ((31 * ((31 * ((31 * ((31 * ((31 * ((31 * r2) + ((I 6 0 : Int32).toInt64))) + ((I 6 1 : Int32).toInt64))) + ((I 6 2 : Int32).toInt64))) + ((I 6 3 : Int32).toInt64))) + ((I 25 0 : Int32).toInt64))) + ((I 25 1 : Int32).toInt64))) + (((-1) : Int32).toInt64))))) (h := (mSH, (mMix mSS I K3), L)) rfl rfl ?_
    exact hq _ _ (mFr.mix (by decide) mFr.rf) ⟨hI.1, hI.2.1, hI.2.2.1, hI.2.2.2.1, hI.2.2.2.2.1, hI.2.2.2.2.2.1, hK3⟩
  · refine mB 3 (s2 := (d + 5, 60, 22, [some (.ref 10), some (.int 153)], [.int 0, .ref 11], 0, 0, (mSH, (mMix mSS I K3), L))) rfl ?_
    refine mRq (s2 := (d + 5, 60, 23, [some (.ref 10), some (.int 153)], [.ref 12], 0, 0, (mSH, (mMix mSS I K3), L))) rfl (by decide) ?_
    refine mB 1 (s2 := (d + 5, 60, 24, [some (.ref 10), some (.int 153)], [.int 153, .ref 12], 0, 0, (mSH, (mMix mSS I K3), L))) rfl ?_
    refine mRq (s2 := (d + 5, 60, 25, [some (.ref 10), some (.int 153)], [.int (K3 12 153)], 0, 0, (mSH, (mMix mSS I K3), L))) rfl (by decide) ?_
    refine mRt (r := (some (.int (K3 12 153)))) (h := (mSH, (mMix mSS I K3), L)) rfl (mRet_int rfl) ?_
    show mWP mTb_ mFT ro (d + 6, 61, 7, [some (.ref 10)], [.int (K3 12 153)], 0, 0, (mSH, (mMix mSS I K3), L)) _
    refine mRt (r := (some (.int (K3 12 153)))) (h := (mSH, (mMix mSS I K3), L)) rfl (mRet_int rfl) ?_
    show mWP mTb_ mFT ro (d + 7, 102, 110, [some (.ref 0), some (.long ((31 * ((31 * ((31 * ((31 * ((31 * ((31 * r2) + ((I 6 0 : Int32).toInt64))) + ((I 6 1 : Int32).toInt64))) + ((I 6 2 : Int32).toInt64))) + ((I 6 3 : Int32).toInt64))) + ((I 25 0 : Int32).toInt64))) + ((I 25 1 : Int32).toInt64))), none, some (.int 10)], [.int (K3 12 153), .long (31 * ((31 * ((31 * ((31 * ((31 * ((31 * ((31 * r2) + ((I 6 0 : Int32).toInt64))) + ((I 6 1 : Int32).toInt64))) + ((I 6 2 : Int32).toInt64))) + ((I 6 3 : Int32).toInt64))) + ((I 25 0 : Int32).toInt64))) + ((I 25 1 : Int32).toInt64)))], 0, 0, (mSH, (mMix mSS I K3), L)) _
    refine mB 2 (s2 := (d + 7, 102, 112, [some (.ref 0), some (.long ((31 * ((31 * ((31 * ((31 * ((31 * ((31 * r2) + ((I 6 0 : Int32).toInt64))) + ((I 6 1 : Int32).toInt64))) + ((I 6 2 : Int32).toInt64))) + ((I 6 3 : Int32).toInt64))) + ((I 25 0 : Int32).toInt64))) + ((I 25 1 : Int32).toInt64))), none, some (.int 10)], [.long ((31 * ((31 * ((31 * ((31 * ((31 * ((31 * ((31 * r2) + ((I 6 0 : Int32).toInt64))) + ((I 6 1 : Int32).toInt64))) + ((I 6 2 : Int32).toInt64))) + ((I 6 3 : Int32).toInt64))) + ((I 25 0 : Int32).toInt64))) + ((I 25 1 : Int32).toInt64))) + ((K3 12 153 : Int32).toInt64))], 0, 0, (mSH, (mMix mSS I K3), L))) rfl ?_
    refine mRt (r := (some (.long ((31 * ((31 * ((31 * ((31 * ((31 * ((31 * ((31 * r2) + ((I 6 0 : Int32).toInt64))) + ((I 6 1 : Int32).toInt64))) + ((I 6 2 : Int32).toInt64))) + ((I 6 3 : Int32).toInt64))) + ((I 25 0 : Int32).toInt64))) + ((I 25 1 : Int32).toInt64))) + ((K3 12 153 : Int32).toInt64))))) (h := (mSH, (mMix mSS I K3), L)) rfl rfl ?_
    exact hq _ _ (mFr.mix (by decide) mFr.rf) ⟨hI.1, hI.2.1, hI.2.2.1, hI.2.2.2.1, hI.2.2.2.2.1, hI.2.2.2.2.2.1, hK3⟩
theorem z_m_dg3 {ro : Nat → Nat × (Nat → Int32)} {Q : mPo} {d : Nat} {I : Nat → Nat → Int32} {L : Nat → Nat → Int64} {s n t : Nat} {x : Int64} (hm : mM s n t I) (hq : ∀ r I1, mGr I I1 → mIM I1 → Q (some (.long r)) (mSH, I1, L))   : mWP mTb_ mFT ro (d + 5, 159, 93, [some (.ref 34), some (.long x), none, some (.int 0)], [], 0, 0, (mSH, I, L)) Q := by
  refine mB 2 (s2 := (d + 5, 159, 95, [some (.ref 34), some (.long x), none, some (.int 0)], [.int 4, .int 0], 0, 0, (mSH, I, L))) rfl ?_
  refine mBF (s3 := (d + 5, 159, 98, [some (.ref 34), some (.long x), none, some (.int 0)], [], 0, 0, (mSH, I, L))) rfl (by decide) ?_
  refine mB 6 (s2 := (d + 5, 159, 108, [some (.ref 34), some (.long x), none, some (.int 0)], [.int 0, .ref 37, .long (31 * x)], 0, 0, (mSH, I, L))) rfl ?_
  refine mRq (s2 := (d + 5, 159, 109, [some (.ref 34), some (.long x), none, some (.int 0)], [.int (I 37 0), .long (31 * x)], 0, 0, (mSH, I, L))) rfl (by decide) ?_
  refine mB 7 (s2 := (d + 5, 159, 95, [some (.ref 34), some (.long ((31 * x) + ((I 37 0 : Int32).toInt64))), none, some (.int 1)], [.int 4, .int 1], 0, 0, (mSH, I, L))) rfl ?_
  refine mBF (s3 := (d + 5, 159, 98, [some (.ref 34), some (.long ((31 * x) + ((I 37 0 : Int32).toInt64))), none, some (.int 1)], [], 0, 0, (mSH, I, L))) rfl (by decide) ?_
  refine mB 6 (s2 := (d + 5, 159, 108, [some (.ref 34), some (.long ((31 * x) + ((I 37 0 : Int32).toInt64))), none, some (.int 1)], [.int 1, .ref 37, .long (31 * ((31 * x) + ((I 37 0 : Int32).toInt64)))], 0, 0, (mSH, I, L))) rfl ?_
  refine mRq (s2 := (d + 5, 159, 109, [some (.ref 34), some (.long ((31 * x) + ((I 37 0 : Int32).toInt64))), none, some (.int 1)], [.int (I 37 1), .long (31 * ((31 * x) + ((I 37 0 : Int32).toInt64)))], 0, 0, (mSH, I, L))) rfl (by decide) ?_
  refine mB 7 (s2 := (d + 5, 159, 95, [some (.ref 34), some (.long ((31 * ((31 * x) + ((I 37 0 : Int32).toInt64))) + ((I 37 1 : Int32).toInt64))), none, some (.int 2)], [.int 4, .int 2], 0, 0, (mSH, I, L))) rfl ?_
  refine mBF (s3 := (d + 5, 159, 98, [some (.ref 34), some (.long ((31 * ((31 * x) + ((I 37 0 : Int32).toInt64))) + ((I 37 1 : Int32).toInt64))), none, some (.int 2)], [], 0, 0, (mSH, I, L))) rfl (by decide) ?_
  refine mB 6 (s2 := (d + 5, 159, 108, [some (.ref 34), some (.long ((31 * ((31 * x) + ((I 37 0 : Int32).toInt64))) + ((I 37 1 : Int32).toInt64))), none, some (.int 2)], [.int 2, .ref 37, .long (31 * ((31 * ((31 * x) + ((I 37 0 : Int32).toInt64))) + ((I 37 1 : Int32).toInt64)))], 0, 0, (mSH, I, L))) rfl ?_
  refine mRq (s2 := (d + 5, 159, 109, [some (.ref 34), some (.long ((31 * ((31 * x) + ((I 37 0 : Int32).toInt64))) + ((I 37 1 : Int32).toInt64))), none, some (.int 2)], [.int (I 37 2), .long (31 * ((31 * ((31 * x) + ((I 37 0 : Int32).toInt64))) + ((I 37 1 : Int32).toInt64)))], 0, 0, (mSH, I, L))) rfl (by decide) ?_
  refine mB 7 (s2 := (d + 5, 159, 95, [some (.ref 34), some (.long ((31 * ((31 * ((31 * x) + ((I 37 0 : Int32).toInt64))) + ((I 37 1 : Int32).toInt64))) + ((I 37 2 : Int32).toInt64))), none, some (.int 3)], [.int 4, .int 3], 0, 0, (mSH, I, L))) rfl ?_
  refine mBF (s3 := (d + 5, 159, 98, [some (.ref 34), some (.long ((31 * ((31 * ((31 * x) + ((I 37 0 : Int32).toInt64))) + ((I 37 1 : Int32).toInt64))) + ((I 37 2 : Int32).toInt64))), none, some (.int 3)], [], 0, 0, (mSH, I, L))) rfl (by decide) ?_
  refine mB 6 (s2 := (d + 5, 159, 108, [some (.ref 34), some (.long ((31 * ((31 * ((31 * x) + ((I 37 0 : Int32).toInt64))) + ((I 37 1 : Int32).toInt64))) + ((I 37 2 : Int32).toInt64))), none, some (.int 3)], [.int 3, .ref 37, .long (31 * ((31 * ((31 * ((31 * x) + ((I 37 0 : Int32).toInt64))) + ((I 37 1 : Int32).toInt64))) + ((I 37 2 : Int32).toInt64)))], 0, 0, (mSH, I, L))) rfl ?_
  refine mRq (s2 := (d + 5, 159, 109, [some (.ref 34), some (.long ((31 * ((31 * ((31 * x) + ((I 37 0 : Int32).toInt64))) + ((I 37 1 : Int32).toInt64))) + ((I 37 2 : Int32).toInt64))), none, some (.int 3)], [.int (I 37 3), .long (31 * ((31 * ((31 * ((31 * x) + ((I 37 0 : Int32).toInt64))) + ((I 37 1 : Int32).toInt64))) + ((I 37 2 : Int32).toInt64)))], 0, 0, (mSH, I, L))) rfl (by decide) ?_
  refine mB 7 (s2 := (d + 5, 159, 95, [some (.ref 34), some (.long ((31 * ((31 * ((31 * ((31 * x) + ((I 37 0 : Int32).toInt64))) + ((I 37 1 : Int32).toInt64))) + ((I 37 2 : Int32).toInt64))) + ((I 37 3 : Int32).toInt64))), none, some (.int 4)], [.int 4, .int 4], 0, 0, (mSH, I, L))) rfl ?_
  refine mBT (s2 := (d + 5, 159, 118, [some (.ref 34), some (.long ((31 * ((31 * ((31 * ((31 * x) + ((I 37 0 : Int32).toInt64))) + ((I 37 1 : Int32).toInt64))) + ((I 37 2 : Int32).toInt64))) + ((I 37 3 : Int32).toInt64))), none, some (.int 4)], [], 0, 0, (mSH, I, L))) rfl (by decide) ?_
  refine mB 15 (s2 := (d + 5, 159, 141, [some (.ref 34), some (.long ((31 * ((31 * ((31 * ((31 * ((31 * ((31 * x) + ((I 37 0 : Int32).toInt64))) + ((I 37 1 : Int32).toInt64))) + ((I 37 2 : Int32).toInt64))) + ((I 37 3 : Int32).toInt64))) + (L 34 7))) + (L 34 8))), none, some (.int 4)], [.ref 34], 0, 0, (mSH, I, L))) rfl ?_
  refine mCall (s2 := (d + 4, 132, 0, [some (.ref 34)], [], 0, 0, (mSH, I, L))) rfl ?_
  refine w_isf hm ?_ ?_
  · intro K1 gK1
    show mWP mTb_ mFT ro (d + 5, 159, 144, [some (.ref 34), some (.long ((31 * ((31 * ((31 * ((31 * ((31 * ((31 * x) + ((I 37 0 : Int32).toInt64))) + ((I 37 1 : Int32).toInt64))) + ((I 37 2 : Int32).toInt64))) + ((I 37 3 : Int32).toInt64))) + (L 34 7))) + (L 34 8))), none, some (.int 4)], [.int 0], 0, 0, (mSH, K1, L)) _
    refine mB 7 (s2 := (d + 5, 159, 155, [some (.ref 34), some (.long ((31 * ((31 * ((31 * ((31 * ((31 * ((31 * x) + ((I 37 0 : Int32).toInt64))) + ((I 37 1 : Int32).toInt64))) + ((I 37 2 : Int32).toInt64))) + ((I 37 3 : Int32).toInt64))) + (L 34 7))) + (L 34 8))), none, some (.int 4)], [.int 0, .ref 46, .long (31 * ((31 * ((31 * ((31 * ((31 * ((31 * ((31 * x) + ((I 37 0 : Int32).toInt64))) + ((I 37 1 : Int32).toInt64))) + ((I 37 2 : Int32).toInt64))) + ((I 37 3 : Int32).toInt64))) + (L 34 7))) + (L 34 8)))], 0, 0, (mSH, K1, L))) rfl ?_
    refine mRq (s2 := (d + 5, 159, 156, [some (.ref 34), some (.long ((31 * ((31 * ((31 * ((31 * ((31 * ((31 * x) + ((I 37 0 : Int32).toInt64))) + ((I 37 1 : Int32).toInt64))) + ((I 37 2 : Int32).toInt64))) + ((I 37 3 : Int32).toInt64))) + (L 34 7))) + (L 34 8))), none, some (.int 4)], [.int (K1 46 0), .long (31 * ((31 * ((31 * ((31 * ((31 * ((31 * ((31 * x) + ((I 37 0 : Int32).toInt64))) + ((I 37 1 : Int32).toInt64))) + ((I 37 2 : Int32).toInt64))) + ((I 37 3 : Int32).toInt64))) + (L 34 7))) + (L 34 8)))], 0, 0, (mSH, K1, L))) rfl (by decide) ?_
    refine mB 2 (s2 := (d + 5, 159, 158, [some (.ref 34), some (.long ((31 * ((31 * ((31 * ((31 * ((31 * ((31 * x) + ((I 37 0 : Int32).toInt64))) + ((I 37 1 : Int32).toInt64))) + ((I 37 2 : Int32).toInt64))) + ((I 37 3 : Int32).toInt64))) + (L 34 7))) + (L 34 8))), none, some (.int 4)], [.long ((31 * ((31 * ((31 * ((31 * ((31 * ((31 * ((31 * x) + ((I 37 0 : Int32).toInt64))) + ((I 37 1 : Int32).toInt64))) + ((I 37 2 : Int32).toInt64))) + ((I 37 3 : Int32).toInt64))) + (L 34 7))) + (L 34 8))) + ((K1 46 0 : Int32).toInt64))], 0, 0, (mSH, K1, L))) rfl ?_
    refine mRt (r := (some (.long ((31 * ((31 * ((31 * ((31 * ((31 * ((31 * ((31 * x) + ((I 37 0 : Int32).toInt64))) + ((I 37 1 : Int32).toInt64))) + ((I 37 2 : Int32).toInt64))) + ((I 37 3 : Int32).toInt64))) + (L 34 7))) + (L 34 8))) + ((K1 46 0 : Int32).toInt64))))) (h := (mSH, K1, L)) rfl rfl ?_
    exact hq _ _ (gK1) ⟨s, n, t, (gK1).m hm⟩
  · intro K1 gK1 vK1 pK1
    show mWP mTb_ mFT ro (d + 5, 159, 144, [some (.ref 34), some (.long ((31 * ((31 * ((31 * ((31 * ((31 * ((31 * x) + ((I 37 0 : Int32).toInt64))) + ((I 37 1 : Int32).toInt64))) + ((I 37 2 : Int32).toInt64))) + ((I 37 3 : Int32).toInt64))) + (L 34 7))) + (L 34 8))), none, some (.int 4)], [.int 1], 0, 0, (mSH, K1, L)) _
    refine mB 7 (s2 := (d + 5, 159, 155, [some (.ref 34), some (.long ((31 * ((31 * ((31 * ((31 * ((31 * ((31 * x) + ((I 37 0 : Int32).toInt64))) + ((I 37 1 : Int32).toInt64))) + ((I 37 2 : Int32).toInt64))) + ((I 37 3 : Int32).toInt64))) + (L 34 7))) + (L 34 8))), none, some (.int 4)], [.int 0, .ref 46, .long (31 * ((31 * ((31 * ((31 * ((31 * ((31 * ((31 * x) + ((I 37 0 : Int32).toInt64))) + ((I 37 1 : Int32).toInt64))) + ((I 37 2 : Int32).toInt64))) + ((I 37 3 : Int32).toInt64))) + (L 34 7))) + (L 34 8)))], 0, 0, (mSH, K1, L))) rfl ?_
    refine mRq (s2 := (d + 5, 159, 156, [some (.ref 34), some (.long ((31 * ((31 * ((31 * ((31 * ((31 * ((31 * x) + ((I 37 0 : Int32).toInt64))) + ((I 37 1 : Int32).toInt64))) + ((I 37 2 : Int32).toInt64))) + ((I 37 3 : Int32).toInt64))) + (L 34 7))) + (L 34 8))), none, some (.int 4)], [.int (K1 46 0), .long (31 * ((31 * ((31 * ((31 * ((31 * ((31 * ((31 * x) + ((I 37 0 : Int32).toInt64))) + ((I 37 1 : Int32).toInt64))) + ((I 37 2 : Int32).toInt64))) + ((I 37 3 : Int32).toInt64))) + (L 34 7))) + (L 34 8)))], 0, 0, (mSH, K1, L))) rfl (by decide) ?_
    refine mB 2 (s2 := (d + 5, 159, 158, [some (.ref 34), some (.long ((31 * ((31 * ((31 * ((31 * ((31 * ((31 * x) + ((I 37 0 : Int32).toInt64))) + ((I 37 1 : Int32).toInt64))) + ((I 37 2 : Int32).toInt64))) + ((I 37 3 : Int32).toInt64))) + (L 34 7))) + (L 34 8))), none, some (.int 4)], [.long ((31 * ((31 * ((31 * ((31 * ((31 * ((31 * ((31 * x) + ((I 37 0 : Int32).toInt64))) + ((I 37 1 : Int32).toInt64))) + ((I 37 2 : Int32).toInt64))) + ((I 37 3 : Int32).toInt64))) + (L 34 7))) + (L 34 8))) + ((K1 46 0 : Int32).toInt64))], 0, 0, (mSH, K1, L))) rfl ?_
    refine mRt (r := (some (.long ((31 * ((31 * ((31 * ((31 * ((31 * ((31 * ((31 * x) + ((I 37 0 : Int32).toInt64))) + ((I 37 1 : Int32).toInt64))) + ((I 37 2 : Int32).toInt64))) + ((I 37 3 : Int32).toInt64))) + (L 34 7))) + (L 34 8))) + ((K1 46 0 : Int32).toInt64))))) (h := (mSH, K1, L)) rfl rfl ?_
    exact hq _ _ (gK1) ⟨s, n, t, (gK1).m hm⟩
theorem z_l_dg2 {ro : Nat → Nat × (Nat → Int32)} {Q : mPo} {d : Nat} {I : Nat → Nat → Int32} {L : Nat → Nat → Int64} {s n t : Nat} (hm : mM s n t I) (hq : ∀ r I1, mGr I I1 → mIM I1 → Q (some (.long r)) (mSH, I1, L)) : ∀ (e k : Nat), k + e = n → ∀ x : Int64, mWP mTb_ mFT ro (d + 5, 159, 63, [some (.ref 34), some (.long x), none, some (.int (nI k))], [], 0, 0, (mSH, I, L)) Q := by
  intro e
  have hb := hm.2.1.2
  induction e with
  | zero =>
    intro k he x
    have z : I 34 3 ≤ nI k := by rw [hm.2.1.1]; exact nI_le (by omega) (by omega)
    exact s_dg2 (fun _ => z_m_dg3 hm hq) (fun c => absurd z c) (fun c => absurd z c)
  | succ e ih =>
    intro k he x
    have z : ¬ I 34 3 ≤ nI k := by rw [hm.2.1.1]; exact nI_ge (by omega) (by omega)
    refine s_dg2 (fun c => absurd c z) (fun _ => vp_in_nI (by omega) (by omega)) (fun _ => ?_)
    rw [nI_1]
    exact ih (k + 1) (by omega) _
theorem z_l_dg1 {ro : Nat → Nat × (Nat → Int32)} {Q : mPo} {d : Nat} {I : Nat → Nat → Int32} {L : Nat → Nat → Int64} {s n t : Nat} (hm : mM s n t I) (hq : ∀ r I1, mGr I I1 → mIM I1 → Q (some (.long r)) (mSH, I1, L)) : ∀ (e k : Nat), k + e = s → ∀ x : Int64, mWP mTb_ mFT ro (d + 5, 159, 33, [some (.ref 34), some (.long x), none, some (.int (nI k))], [], 0, 0, (mSH, I, L)) Q := by
  intro e
  have hb := hm.1.2
  induction e with
  | zero =>
    intro k he x
    have z : I 34 1 ≤ nI k := by rw [hm.1.1]; exact nI_le (by omega) (by omega)
    exact s_dg1 (fun _ => z_l_dg2 hm hq n 0 (by omega) _) (fun c => absurd z c) (fun c => absurd z c)
  | succ e ih =>
    intro k he x
    have z : ¬ I 34 1 ≤ nI k := by rw [hm.1.1]; exact nI_ge (by omega) (by omega)
    refine s_dg1 (fun c => absurd c z) (fun _ => vp_in_nI (by omega) (by omega)) (fun _ => ?_)
    rw [nI_1]
    exact ih (k + 1) (by omega) _
theorem z_m_digest {ro : Nat → Nat × (Nat → Int32)} {Q : mPo} {d : Nat} {I : Nat → Nat → Int32} {L : Nat → Nat → Int64} {s n t : Nat} (hm : mM s n t I) (hq : ∀ r I1, mGr I I1 → mIM I1 → Q (some (.long r)) (mSH, I1, L))   : mWP mTb_ mFT ro (d + 5, 159, 0, [some (.ref 34), none, none, none], [], 0, 0, (mSH, I, L)) Q := by
  refine mB 6 (s2 := (d + 5, 159, 9, [some (.ref 34), some (.long 2003), none, some (.int 0)], [.int 10, .int 0], 0, 0, (mSH, I, L))) rfl ?_
  refine mBF (s3 := (d + 5, 159, 12, [some (.ref 34), some (.long 2003), none, some (.int 0)], [], 0, 0, (mSH, I, L))) rfl (by decide) ?_
  refine mB 5 (s2 := (d + 5, 159, 19, [some (.ref 34), some (.long 2003), none, some (.int 0)], [.int 0, .ref 34, .long 62093], 0, 0, (mSH, I, L))) rfl ?_
  refine mCall (s2 := (d + 4, 157, 0, [some (.ref 34), some (.int 0)], [], 0, 0, (mSH, I, L))) rfl ?_
  refine mB 1 (s2 := (d + 4, 157, 1, [some (.ref 34), some (.int 0)], [.int 0], 0, 0, (mSH, I, L))) rfl ?_
  refine mSw1 (t := (d + 4, 157, 44, [some (.ref 34), some (.int 0)], [], 0, 0, (mSH, I, L))) rfl rfl ?_
  refine mB 3 (s2 := (d + 4, 157, 49, [some (.ref 34), some (.int 0)], [.int 0, .ref 39], 0, 0, (mSH, I, L))) rfl ?_
  refine mRq (s2 := (d + 4, 157, 50, [some (.ref 34), some (.int 0)], [.int (I 39 0)], 0, 0, (mSH, I, L))) rfl (by decide) ?_
  refine mRt (r := (some (.int (I 39 0)))) (h := (mSH, I, L)) rfl (mRet_int rfl) ?_
  show mWP mTb_ mFT ro (d + 5, 159, 22, [some (.ref 34), some (.long 2003), none, some (.int 0)], [.int (I 39 0), .long 62093], 0, 0, (mSH, I, L)) _
  refine mB 7 (s2 := (d + 5, 159, 9, [some (.ref 34), some (.long (62093 + ((I 39 0 : Int32).toInt64))), none, some (.int 1)], [.int 10, .int 1], 0, 0, (mSH, I, L))) rfl ?_
  refine mBF (s3 := (d + 5, 159, 12, [some (.ref 34), some (.long (62093 + ((I 39 0 : Int32).toInt64))), none, some (.int 1)], [], 0, 0, (mSH, I, L))) rfl (by decide) ?_
  refine mB 5 (s2 := (d + 5, 159, 19, [some (.ref 34), some (.long (62093 + ((I 39 0 : Int32).toInt64))), none, some (.int 1)], [.int 1, .ref 34, .long (31 * (62093 + ((I 39 0 : Int32).toInt64)))], 0, 0, (mSH, I, L))) rfl ?_
  refine mCall (s2 := (d + 4, 157, 0, [some (.ref 34), some (.int 1)], [], 0, 0, (mSH, I, L))) rfl ?_
  refine mB 1 (s2 := (d + 4, 157, 1, [some (.ref 34), some (.int 1)], [.int 1], 0, 0, (mSH, I, L))) rfl ?_
  refine mSw1 (t := (d + 4, 157, 44, [some (.ref 34), some (.int 1)], [], 0, 0, (mSH, I, L))) rfl rfl ?_
  refine mB 3 (s2 := (d + 4, 157, 49, [some (.ref 34), some (.int 1)], [.int 1, .ref 39], 0, 0, (mSH, I, L))) rfl ?_
  refine mRq (s2 := (d + 4, 157, 50, [some (.ref 34), some (.int 1)], [.int (I 39 1)], 0, 0, (mSH, I, L))) rfl (by decide) ?_
  refine mRt (r := (some (.int (I 39 1)))) (h := (mSH, I, L)) rfl (mRet_int rfl) ?_
  show mWP mTb_ mFT ro (d + 5, 159, 22, [some (.ref 34), some (.long (62093 + ((I 39 0 : Int32).toInt64))), none, some (.int 1)], [.int (I 39 1), .long (31 * (62093 + ((I 39 0 : Int32).toInt64)))], 0, 0, (mSH, I, L)) _
  refine mB 7 (s2 := (d + 5, 159, 9, [some (.ref 34), some (.long ((31 * (62093 + ((I 39 0 : Int32).toInt64))) + ((I 39 1 : Int32).toInt64))), none, some (.int 2)], [.int 10, .int 2], 0, 0, (mSH, I, L))) rfl ?_
  refine mBF (s3 := (d + 5, 159, 12, [some (.ref 34), some (.long ((31 * (62093 + ((I 39 0 : Int32).toInt64))) + ((I 39 1 : Int32).toInt64))), none, some (.int 2)], [], 0, 0, (mSH, I, L))) rfl (by decide) ?_
  refine mB 5 (s2 := (d + 5, 159, 19, [some (.ref 34), some (.long ((31 * (62093 + ((I 39 0 : Int32).toInt64))) + ((I 39 1 : Int32).toInt64))), none, some (.int 2)], [.int 2, .ref 34, .long (31 * ((31 * (62093 + ((I 39 0 : Int32).toInt64))) + ((I 39 1 : Int32).toInt64)))], 0, 0, (mSH, I, L))) rfl ?_
  refine mCall (s2 := (d + 4, 157, 0, [some (.ref 34), some (.int 2)], [], 0, 0, (mSH, I, L))) rfl ?_
  refine mB 1 (s2 := (d + 4, 157, 1, [some (.ref 34), some (.int 2)], [.int 2], 0, 0, (mSH, I, L))) rfl ?_
  refine mSw1 (t := (d + 4, 157, 44, [some (.ref 34), some (.int 2)], [], 0, 0, (mSH, I, L))) rfl rfl ?_
  refine mB 3 (s2 := (d + 4, 157, 49, [some (.ref 34), some (.int 2)], [.int 2, .ref 39], 0, 0, (mSH, I, L))) rfl ?_
  refine mRq (s2 := (d + 4, 157, 50, [some (.ref 34), some (.int 2)], [.int (I 39 2)], 0, 0, (mSH, I, L))) rfl (by decide) ?_
  refine mRt (r := (some (.int (I 39 2)))) (h := (mSH, I, L)) rfl (mRet_int rfl) ?_
  show mWP mTb_ mFT ro (d + 5, 159, 22, [some (.ref 34), some (.long ((31 * (62093 + ((I 39 0 : Int32).toInt64))) + ((I 39 1 : Int32).toInt64))), none, some (.int 2)], [.int (I 39 2), .long (31 * ((31 * (62093 + ((I 39 0 : Int32).toInt64))) + ((I 39 1 : Int32).toInt64)))], 0, 0, (mSH, I, L)) _
  refine mB 7 (s2 := (d + 5, 159, 9, [some (.ref 34), some (.long ((31 * ((31 * (62093 + ((I 39 0 : Int32).toInt64))) + ((I 39 1 : Int32).toInt64))) + ((I 39 2 : Int32).toInt64))), none, some (.int 3)], [.int 10, .int 3], 0, 0, (mSH, I, L))) rfl ?_
  refine mBF (s3 := (d + 5, 159, 12, [some (.ref 34), some (.long ((31 * ((31 * (62093 + ((I 39 0 : Int32).toInt64))) + ((I 39 1 : Int32).toInt64))) + ((I 39 2 : Int32).toInt64))), none, some (.int 3)], [], 0, 0, (mSH, I, L))) rfl (by decide) ?_
  refine mB 5 (s2 := (d + 5, 159, 19, [some (.ref 34), some (.long ((31 * ((31 * (62093 + ((I 39 0 : Int32).toInt64))) + ((I 39 1 : Int32).toInt64))) + ((I 39 2 : Int32).toInt64))), none, some (.int 3)], [.int 3, .ref 34, .long (31 * ((31 * ((31 * (62093 + ((I 39 0 : Int32).toInt64))) + ((I 39 1 : Int32).toInt64))) + ((I 39 2 : Int32).toInt64)))], 0, 0, (mSH, I, L))) rfl ?_
  refine mCall (s2 := (d + 4, 157, 0, [some (.ref 34), some (.int 3)], [], 0, 0, (mSH, I, L))) rfl ?_
  refine mB 1 (s2 := (d + 4, 157, 1, [some (.ref 34), some (.int 3)], [.int 3], 0, 0, (mSH, I, L))) rfl ?_
  refine mSw1 (t := (d + 4, 157, 51, [some (.ref 34), some (.int 3)], [], 0, 0, (mSH, I, L))) rfl rfl ?_
  refine mB 2 (s2 := (d + 4, 157, 55, [some (.ref 34), some (.int 3)], [.int (I 34 11)], 0, 0, (mSH, I, L))) rfl ?_
  refine mRt (r := (some (.int (I 34 11)))) (h := (mSH, I, L)) rfl (mRet_int rfl) ?_
  show mWP mTb_ mFT ro (d + 5, 159, 22, [some (.ref 34), some (.long ((31 * ((31 * (62093 + ((I 39 0 : Int32).toInt64))) + ((I 39 1 : Int32).toInt64))) + ((I 39 2 : Int32).toInt64))), none, some (.int 3)], [.int (I 34 11), .long (31 * ((31 * ((31 * (62093 + ((I 39 0 : Int32).toInt64))) + ((I 39 1 : Int32).toInt64))) + ((I 39 2 : Int32).toInt64)))], 0, 0, (mSH, I, L)) _
  refine mB 7 (s2 := (d + 5, 159, 9, [some (.ref 34), some (.long ((31 * ((31 * ((31 * (62093 + ((I 39 0 : Int32).toInt64))) + ((I 39 1 : Int32).toInt64))) + ((I 39 2 : Int32).toInt64))) + ((I 34 11 : Int32).toInt64))), none, some (.int 4)], [.int 10, .int 4], 0, 0, (mSH, I, L))) rfl ?_
  refine mBF (s3 := (d + 5, 159, 12, [some (.ref 34), some (.long ((31 * ((31 * ((31 * (62093 + ((I 39 0 : Int32).toInt64))) + ((I 39 1 : Int32).toInt64))) + ((I 39 2 : Int32).toInt64))) + ((I 34 11 : Int32).toInt64))), none, some (.int 4)], [], 0, 0, (mSH, I, L))) rfl (by decide) ?_
  refine mB 5 (s2 := (d + 5, 159, 19, [some (.ref 34), some (.long ((31 * ((31 * ((31 * (62093 + ((I 39 0 : Int32).toInt64))) + ((I 39 1 : Int32).toInt64))) + ((I 39 2 : Int32).toInt64))) + ((I 34 11 : Int32).toInt64))), none, some (.int 4)], [.int 4, .ref 34, .long (31 * ((31 * ((31 * ((31 * (62093 + ((I 39 0 : Int32).toInt64))) + ((I 39 1 : Int32).toInt64))) + ((I 39 2 : Int32).toInt64))) + ((I 34 11 : Int32).toInt64)))], 0, 0, (mSH, I, L))) rfl ?_
  refine mCall (s2 := (d + 4, 157, 0, [some (.ref 34), some (.int 4)], [], 0, 0, (mSH, I, L))) rfl ?_
  refine mB 1 (s2 := (d + 4, 157, 1, [some (.ref 34), some (.int 4)], [.int 4], 0, 0, (mSH, I, L))) rfl ?_
  refine mSw1 (t := (d + 4, 157, 56, [some (.ref 34), some (.int 4)], [], 0, 0, (mSH, I, L))) rfl rfl ?_
  refine mB 2 (s2 := (d + 4, 157, 60, [some (.ref 34), some (.int 4)], [.int (I 34 1)], 0, 0, (mSH, I, L))) rfl ?_
  refine mRt (r := (some (.int (I 34 1)))) (h := (mSH, I, L)) rfl (mRet_int rfl) ?_
  show mWP mTb_ mFT ro (d + 5, 159, 22, [some (.ref 34), some (.long ((31 * ((31 * ((31 * (62093 + ((I 39 0 : Int32).toInt64))) + ((I 39 1 : Int32).toInt64))) + ((I 39 2 : Int32).toInt64))) + ((I 34 11 : Int32).toInt64))), none, some (.int 4)], [.int (I 34 1), .long (31 * ((31 * ((31 * ((31 * (62093 + ((I 39 0 : Int32).toInt64))) + ((I 39 1 : Int32).toInt64))) + ((I 39 2 : Int32).toInt64))) + ((I 34 11 : Int32).toInt64)))], 0, 0, (mSH, I, L)) _
  refine mB 7 (s2 := (d + 5, 159, 9, [some (.ref 34), some (.long ((31 * ((31 * ((31 * ((31 * (62093 + ((I 39 0 : Int32).toInt64))) + ((I 39 1 : Int32).toInt64))) + ((I 39 2 : Int32).toInt64))) + ((I 34 11 : Int32).toInt64))) + ((I 34 1 : Int32).toInt64))), none, some (.int 5)], [.int 10, .int 5], 0, 0, (mSH, I, L))) rfl ?_
  refine mBF (s3 := (d + 5, 159, 12, [some (.ref 34), some (.long ((31 * ((31 * ((31 * ((31 * (62093 + ((I 39 0 : Int32).toInt64))) + ((I 39 1 : Int32).toInt64))) + ((I 39 2 : Int32).toInt64))) + ((I 34 11 : Int32).toInt64))) + ((I 34 1 : Int32).toInt64))), none, some (.int 5)], [], 0, 0, (mSH, I, L))) rfl (by decide) ?_
  refine mB 5 (s2 := (d + 5, 159, 19, [some (.ref 34), some (.long ((31 * ((31 * ((31 * ((31 * (62093 + ((I 39 0 : Int32).toInt64))) + ((I 39 1 : Int32).toInt64))) + ((I 39 2 : Int32).toInt64))) + ((I 34 11 : Int32).toInt64))) + ((I 34 1 : Int32).toInt64))), none, some (.int 5)], [.int 5, .ref 34, .long (31 * ((31 * ((31 * ((31 * ((31 * (62093 + ((I 39 0 : Int32).toInt64))) + ((I 39 1 : Int32).toInt64))) + ((I 39 2 : Int32).toInt64))) + ((I 34 11 : Int32).toInt64))) + ((I 34 1 : Int32).toInt64)))], 0, 0, (mSH, I, L))) rfl ?_
  refine mCall (s2 := (d + 4, 157, 0, [some (.ref 34), some (.int 5)], [], 0, 0, (mSH, I, L))) rfl ?_
  refine mB 1 (s2 := (d + 4, 157, 1, [some (.ref 34), some (.int 5)], [.int 5], 0, 0, (mSH, I, L))) rfl ?_
  refine mSw1 (t := (d + 4, 157, 61, [some (.ref 34), some (.int 5)], [], 0, 0, (mSH, I, L))) rfl rfl ?_
  refine mB 2 (s2 := (d + 4, 157, 65, [some (.ref 34), some (.int 5)], [.int (I 34 3)], 0, 0, (mSH, I, L))) rfl ?_
  refine mRt (r := (some (.int (I 34 3)))) (h := (mSH, I, L)) rfl (mRet_int rfl) ?_
  show mWP mTb_ mFT ro (d + 5, 159, 22, [some (.ref 34), some (.long ((31 * ((31 * ((31 * ((31 * (62093 + ((I 39 0 : Int32).toInt64))) + ((I 39 1 : Int32).toInt64))) + ((I 39 2 : Int32).toInt64))) + ((I 34 11 : Int32).toInt64))) + ((I 34 1 : Int32).toInt64))), none, some (.int 5)], [.int (I 34 3), .long (31 * ((31 * ((31 * ((31 * ((31 * (62093 + ((I 39 0 : Int32).toInt64))) + ((I 39 1 : Int32).toInt64))) + ((I 39 2 : Int32).toInt64))) + ((I 34 11 : Int32).toInt64))) + ((I 34 1 : Int32).toInt64)))], 0, 0, (mSH, I, L)) _
  refine mB 7 (s2 := (d + 5, 159, 9, [some (.ref 34), some (.long ((31 * ((31 * ((31 * ((31 * ((31 * (62093 + ((I 39 0 : Int32).toInt64))) + ((I 39 1 : Int32).toInt64))) + ((I 39 2 : Int32).toInt64))) + ((I 34 11 : Int32).toInt64))) + ((I 34 1 : Int32).toInt64))) + ((I 34 3 : Int32).toInt64))), none, some (.int 6)], [.int 10, .int 6], 0, 0, (mSH, I, L))) rfl ?_
  refine mBF (s3 := (d + 5, 159, 12, [some (.ref 34), some (.long ((31 * ((31 * ((31 * ((31 * ((31 * (62093 + ((I 39 0 : Int32).toInt64))) + ((I 39 1 : Int32).toInt64))) + ((I 39 2 : Int32).toInt64))) + ((I 34 11 : Int32).toInt64))) + ((I 34 1 : Int32).toInt64))) + ((I 34 3 : Int32).toInt64))), none, some (.int 6)], [], 0, 0, (mSH, I, L))) rfl (by decide) ?_
  refine mB 5 (s2 := (d + 5, 159, 19, [some (.ref 34), some (.long ((31 * ((31 * ((31 * ((31 * ((31 * (62093 + ((I 39 0 : Int32).toInt64))) + ((I 39 1 : Int32).toInt64))) + ((I 39 2 : Int32).toInt64))) + ((I 34 11 : Int32).toInt64))) + ((I 34 1 : Int32).toInt64))) + ((I 34 3 : Int32).toInt64))), none, some (.int 6)], [.int 6, .ref 34, .long (31 * ((31 * ((31 * ((31 * ((31 * ((31 * (62093 + ((I 39 0 : Int32).toInt64))) + ((I 39 1 : Int32).toInt64))) + ((I 39 2 : Int32).toInt64))) + ((I 34 11 : Int32).toInt64))) + ((I 34 1 : Int32).toInt64))) + ((I 34 3 : Int32).toInt64)))], 0, 0, (mSH, I, L))) rfl ?_
  refine mCall (s2 := (d + 4, 157, 0, [some (.ref 34), some (.int 6)], [], 0, 0, (mSH, I, L))) rfl ?_
  refine mB 1 (s2 := (d + 4, 157, 1, [some (.ref 34), some (.int 6)], [.int 6], 0, 0, (mSH, I, L))) rfl ?_
  refine mSw1 (t := (d + 4, 157, 66, [some (.ref 34), some (.int 6)], [], 0, 0, (mSH, I, L))) rfl rfl ?_
  refine mB 2 (s2 := (d + 4, 157, 70, [some (.ref 34), some (.int 6)], [.int (I 34 4)], 0, 0, (mSH, I, L))) rfl ?_
  refine mRt (r := (some (.int (I 34 4)))) (h := (mSH, I, L)) rfl (mRet_int rfl) ?_
  show mWP mTb_ mFT ro (d + 5, 159, 22, [some (.ref 34), some (.long ((31 * ((31 * ((31 * ((31 * ((31 * (62093 + ((I 39 0 : Int32).toInt64))) + ((I 39 1 : Int32).toInt64))) + ((I 39 2 : Int32).toInt64))) + ((I 34 11 : Int32).toInt64))) + ((I 34 1 : Int32).toInt64))) + ((I 34 3 : Int32).toInt64))), none, some (.int 6)], [.int (I 34 4), .long (31 * ((31 * ((31 * ((31 * ((31 * ((31 * (62093 + ((I 39 0 : Int32).toInt64))) + ((I 39 1 : Int32).toInt64))) + ((I 39 2 : Int32).toInt64))) + ((I 34 11 : Int32).toInt64))) + ((I 34 1 : Int32).toInt64))) + ((I 34 3 : Int32).toInt64)))], 0, 0, (mSH, I, L)) _
  refine mB 7 (s2 := (d + 5, 159, 9, [some (.ref 34), some (.long ((31 * ((31 * ((31 * ((31 * ((31 * ((31 * (62093 + ((I 39 0 : Int32).toInt64))) + ((I 39 1 : Int32).toInt64))) + ((I 39 2 : Int32).toInt64))) + ((I 34 11 : Int32).toInt64))) + ((I 34 1 : Int32).toInt64))) + ((I 34 3 : Int32).toInt64))) + ((I 34 4 : Int32).toInt64))), none, some (.int 7)], [.int 10, .int 7], 0, 0, (mSH, I, L))) rfl ?_
  refine mBF (s3 := (d + 5, 159, 12, [some (.ref 34), some (.long ((31 * ((31 * ((31 * ((31 * ((31 * ((31 * (62093 + ((I 39 0 : Int32).toInt64))) + ((I 39 1 : Int32).toInt64))) + ((I 39 2 : Int32).toInt64))) + ((I 34 11 : Int32).toInt64))) + ((I 34 1 : Int32).toInt64))) + ((I 34 3 : Int32).toInt64))) + ((I 34 4 : Int32).toInt64))), none, some (.int 7)], [], 0, 0, (mSH, I, L))) rfl (by decide) ?_
  refine mB 5 (s2 := (d + 5, 159, 19, [some (.ref 34), some (.long ((31 * ((31 * ((31 * ((31 * ((31 * ((31 * (62093 + ((I 39 0 : Int32).toInt64))) + ((I 39 1 : Int32).toInt64))) + ((I 39 2 : Int32).toInt64))) + ((I 34 11 : Int32).toInt64))) + ((I 34 1 : Int32).toInt64))) + ((I 34 3 : Int32).toInt64))) + ((I 34 4 : Int32).toInt64))), none, some (.int 7)], [.int 7, .ref 34, .long (31 * ((31 * ((31 * ((31 * ((31 * ((31 * ((31 * (62093 + ((I 39 0 : Int32).toInt64))) + ((I 39 1 : Int32).toInt64))) + ((I 39 2 : Int32).toInt64))) + ((I 34 11 : Int32).toInt64))) + ((I 34 1 : Int32).toInt64))) + ((I 34 3 : Int32).toInt64))) + ((I 34 4 : Int32).toInt64)))], 0, 0, (mSH, I, L))) rfl ?_
  refine mCall (s2 := (d + 4, 157, 0, [some (.ref 34), some (.int 7)], [], 0, 0, (mSH, I, L))) rfl ?_
  refine mB 1 (s2 := (d + 4, 157, 1, [some (.ref 34), some (.int 7)], [.int 7], 0, 0, (mSH, I, L))) rfl ?_
  refine mSw1 (t := (d + 4, 157, 71, [some (.ref 34), some (.int 7)], [], 0, 0, (mSH, I, L))) rfl rfl ?_
  refine mB 5 (s2 := (d + 4, 157, 79, [some (.ref 34), some (.int 7)], [.int 0, .ref 38], 0, 0, (mSH, I, L))) rfl ?_
  refine mRq (s2 := (d + 4, 157, 80, [some (.ref 34), some (.int 7)], [.int (I 38 0)], 0, 0, (mSH, I, L))) rfl (by decide) ?_
  refine mRt (r := (some (.int (I 38 0)))) (h := (mSH, I, L)) rfl (mRet_int rfl) ?_
  show mWP mTb_ mFT ro (d + 5, 159, 22, [some (.ref 34), some (.long ((31 * ((31 * ((31 * ((31 * ((31 * ((31 * (62093 + ((I 39 0 : Int32).toInt64))) + ((I 39 1 : Int32).toInt64))) + ((I 39 2 : Int32).toInt64))) + ((I 34 11 : Int32).toInt64))) + ((I 34 1 : Int32).toInt64))) + ((I 34 3 : Int32).toInt64))) + ((I 34 4 : Int32).toInt64))), none, some (.int 7)], [.int (I 38 0), .long (31 * ((31 * ((31 * ((31 * ((31 * ((31 * ((31 * (62093 + ((I 39 0 : Int32).toInt64))) + ((I 39 1 : Int32).toInt64))) + ((I 39 2 : Int32).toInt64))) + ((I 34 11 : Int32).toInt64))) + ((I 34 1 : Int32).toInt64))) + ((I 34 3 : Int32).toInt64))) + ((I 34 4 : Int32).toInt64)))], 0, 0, (mSH, I, L)) _
  refine mB 7 (s2 := (d + 5, 159, 9, [some (.ref 34), some (.long ((31 * ((31 * ((31 * ((31 * ((31 * ((31 * ((31 * (62093 + ((I 39 0 : Int32).toInt64))) + ((I 39 1 : Int32).toInt64))) + ((I 39 2 : Int32).toInt64))) + ((I 34 11 : Int32).toInt64))) + ((I 34 1 : Int32).toInt64))) + ((I 34 3 : Int32).toInt64))) + ((I 34 4 : Int32).toInt64))) + ((I 38 0 : Int32).toInt64))), none, some (.int 8)], [.int 10, .int 8], 0, 0, (mSH, I, L))) rfl ?_
  refine mBF (s3 := (d + 5, 159, 12, [some (.ref 34), some (.long ((31 * ((31 * ((31 * ((31 * ((31 * ((31 * ((31 * (62093 + ((I 39 0 : Int32).toInt64))) + ((I 39 1 : Int32).toInt64))) + ((I 39 2 : Int32).toInt64))) + ((I 34 11 : Int32).toInt64))) + ((I 34 1 : Int32).toInt64))) + ((I 34 3 : Int32).toInt64))) + ((I 34 4 : Int32).toInt64))) + ((I 38 0 : Int32).toInt64))), none, some (.int 8)], [], 0, 0, (mSH, I, L))) rfl (by decide) ?_
  refine mB 5 (s2 := (d + 5, 159, 19, [some (.ref 34), some (.long ((31 * ((31 * ((31 * ((31 * ((31 * ((31 * ((31 * (62093 + ((I 39 0 : Int32).toInt64))) + ((I 39 1 : Int32).toInt64))) + ((I 39 2 : Int32).toInt64))) + ((I 34 11 : Int32).toInt64))) + ((I 34 1 : Int32).toInt64))) + ((I 34 3 : Int32).toInt64))) + ((I 34 4 : Int32).toInt64))) + ((I 38 0 : Int32).toInt64))), none, some (.int 8)], [.int 8, .ref 34, .long (31 * ((31 * ((31 * ((31 * ((31 * ((31 * ((31 * ((31 * (62093 + ((I 39 0 : Int32).toInt64))) + ((I 39 1 : Int32).toInt64))) + ((I 39 2 : Int32).toInt64))) + ((I 34 11 : Int32).toInt64))) + ((I 34 1 : Int32).toInt64))) + ((I 34 3 : Int32).toInt64))) + ((I 34 4 : Int32).toInt64))) + ((I 38 0 : Int32).toInt64)))], 0, 0, (mSH, I, L))) rfl ?_
  refine mCall (s2 := (d + 4, 157, 0, [some (.ref 34), some (.int 8)], [], 0, 0, (mSH, I, L))) rfl ?_
  refine mB 1 (s2 := (d + 4, 157, 1, [some (.ref 34), some (.int 8)], [.int 8], 0, 0, (mSH, I, L))) rfl ?_
  refine mSw1 (t := (d + 4, 157, 71, [some (.ref 34), some (.int 8)], [], 0, 0, (mSH, I, L))) rfl rfl ?_
  refine mB 5 (s2 := (d + 4, 157, 79, [some (.ref 34), some (.int 8)], [.int 1, .ref 38], 0, 0, (mSH, I, L))) rfl ?_
  refine mRq (s2 := (d + 4, 157, 80, [some (.ref 34), some (.int 8)], [.int (I 38 1)], 0, 0, (mSH, I, L))) rfl (by decide) ?_
  refine mRt (r := (some (.int (I 38 1)))) (h := (mSH, I, L)) rfl (mRet_int rfl) ?_
  show mWP mTb_ mFT ro (d + 5, 159, 22, [some (.ref 34), some (.long ((31 * ((31 * ((31 * ((31 * ((31 * ((31 * ((31 * (62093 + ((I 39 0 : Int32).toInt64))) + ((I 39 1 : Int32).toInt64))) + ((I 39 2 : Int32).toInt64))) + ((I 34 11 : Int32).toInt64))) + ((I 34 1 : Int32).toInt64))) + ((I 34 3 : Int32).toInt64))) + ((I 34 4 : Int32).toInt64))) + ((I 38 0 : Int32).toInt64))), none, some (.int 8)], [.int (I 38 1), .long (31 * ((31 * ((31 * ((31 * ((31 * ((31 * ((31 * ((31 * (62093 + ((I 39 0 : Int32).toInt64))) + ((I 39 1 : Int32).toInt64))) + ((I 39 2 : Int32).toInt64))) + ((I 34 11 : Int32).toInt64))) + ((I 34 1 : Int32).toInt64))) + ((I 34 3 : Int32).toInt64))) + ((I 34 4 : Int32).toInt64))) + ((I 38 0 : Int32).toInt64)))], 0, 0, (mSH, I, L)) _
  refine mB 7 (s2 := (d + 5, 159, 9, [some (.ref 34), some (.long ((31 * ((31 * ((31 * ((31 * ((31 * ((31 * ((31 * ((31 * (62093 + ((I 39 0 : Int32).toInt64))) + ((I 39 1 : Int32).toInt64))) + ((I 39 2 : Int32).toInt64))) + ((I 34 11 : Int32).toInt64))) + ((I 34 1 : Int32).toInt64))) + ((I 34 3 : Int32).toInt64))) + ((I 34 4 : Int32).toInt64))) + ((I 38 0 : Int32).toInt64))) + ((I 38 1 : Int32).toInt64))), none, some (.int 9)], [.int 10, .int 9], 0, 0, (mSH, I, L))) rfl ?_
  refine mBF (s3 := (d + 5, 159, 12, [some (.ref 34), some (.long ((31 * ((31 * ((31 * ((31 * ((31 * ((31 * ((31 * ((31 * (62093 + ((I 39 0 : Int32).toInt64))) + ((I 39 1 : Int32).toInt64))) + ((I 39 2 : Int32).toInt64))) + ((I 34 11 : Int32).toInt64))) + ((I 34 1 : Int32).toInt64))) + ((I 34 3 : Int32).toInt64))) + ((I 34 4 : Int32).toInt64))) + ((I 38 0 : Int32).toInt64))) + ((I 38 1 : Int32).toInt64))), none, some (.int 9)], [], 0, 0, (mSH, I, L))) rfl (by decide) ?_
  refine mB 5 (s2 := (d + 5, 159, 19, [some (.ref 34), some (.long ((31 * ((31 * ((31 * ((31 * ((31 * ((31 * ((31 * ((31 * (62093 + ((I 39 0 : Int32).toInt64))) + ((I 39 1 : Int32).toInt64))) + ((I 39 2 : Int32).toInt64))) + ((I 34 11 : Int32).toInt64))) + ((I 34 1 : Int32).toInt64))) + ((I 34 3 : Int32).toInt64))) + ((I 34 4 : Int32).toInt64))) + ((I 38 0 : Int32).toInt64))) + ((I 38 1 : Int32).toInt64))), none, some (.int 9)], [.int 9, .ref 34, .long (31 * ((31 * ((31 * ((31 * ((31 * ((31 * ((31 * ((31 * ((31 * (62093 + ((I 39 0 : Int32).toInt64))) + ((I 39 1 : Int32).toInt64))) + ((I 39 2 : Int32).toInt64))) + ((I 34 11 : Int32).toInt64))) + ((I 34 1 : Int32).toInt64))) + ((I 34 3 : Int32).toInt64))) + ((I 34 4 : Int32).toInt64))) + ((I 38 0 : Int32).toInt64))) + ((I 38 1 : Int32).toInt64)))], 0, 0, (mSH, I, L))) rfl ?_
  refine mCall (s2 := (d + 4, 157, 0, [some (.ref 34), some (.int 9)], [], 0, 0, (mSH, I, L))) rfl ?_
  refine mB 1 (s2 := (d + 4, 157, 1, [some (.ref 34), some (.int 9)], [.int 9], 0, 0, (mSH, I, L))) rfl ?_
  refine mSw1 (t := (d + 4, 157, 71, [some (.ref 34), some (.int 9)], [], 0, 0, (mSH, I, L))) rfl rfl ?_
  refine mB 5 (s2 := (d + 4, 157, 79, [some (.ref 34), some (.int 9)], [.int 2, .ref 38], 0, 0, (mSH, I, L))) rfl ?_
  refine mRq (s2 := (d + 4, 157, 80, [some (.ref 34), some (.int 9)], [.int (I 38 2)], 0, 0, (mSH, I, L))) rfl (by decide) ?_
  refine mRt (r := (some (.int (I 38 2)))) (h := (mSH, I, L)) rfl (mRet_int rfl) ?_
  show mWP mTb_ mFT ro (d + 5, 159, 22, [some (.ref 34), some (.long ((31 * ((31 * ((31 * ((31 * ((31 * ((31 * ((31 * ((31 * (62093 + ((I 39 0 : Int32).toInt64))) + ((I 39 1 : Int32).toInt64))) + ((I 39 2 : Int32).toInt64))) + ((I 34 11 : Int32).toInt64))) + ((I 34 1 : Int32).toInt64))) + ((I 34 3 : Int32).toInt64))) + ((I 34 4 : Int32).toInt64))) + ((I 38 0 : Int32).toInt64))) + ((I 38 1 : Int32).toInt64))), none, some (.int 9)], [.int (I 38 2), .long (31 * ((31 * ((31 * ((31 * ((31 * ((31 * ((31 * ((31 * ((31 * (62093 + ((I 39 0 : Int32).toInt64))) + ((I 39 1 : Int32).toInt64))) + ((I 39 2 : Int32).toInt64))) + ((I 34 11 : Int32).toInt64))) + ((I 34 1 : Int32).toInt64))) + ((I 34 3 : Int32).toInt64))) + ((I 34 4 : Int32).toInt64))) + ((I 38 0 : Int32).toInt64))) + ((I 38 1 : Int32).toInt64)))], 0, 0, (mSH, I, L)) _
  refine mB 7 (s2 := (d + 5, 159, 9, [some (.ref 34), some (.long ((31 * ((31 * ((31 * ((31 * ((31 * ((31 * ((31 * ((31 * ((31 * (62093 + ((I 39 0 : Int32).toInt64))) + ((I 39 1 : Int32).toInt64))) + ((I 39 2 : Int32).toInt64))) + ((I 34 11 : Int32).toInt64))) + ((I 34 1 : Int32).toInt64))) + ((I 34 3 : Int32).toInt64))) + ((I 34 4 : Int32).toInt64))) + ((I 38 0 : Int32).toInt64))) + ((I 38 1 : Int32).toInt64))) + ((I 38 2 : Int32).toInt64))), none, some (.int 10)], [.int 10, .int 10], 0, 0, (mSH, I, L))) rfl ?_
  refine mBT (s2 := (d + 5, 159, 31, [some (.ref 34), some (.long ((31 * ((31 * ((31 * ((31 * ((31 * ((31 * ((31 * ((31 * ((31 * (62093 + ((I 39 0 : Int32).toInt64))) + ((I 39 1 : Int32).toInt64))) + ((I 39 2 : Int32).toInt64))) + ((I 34 11 : Int32).toInt64))) + ((I 34 1 : Int32).toInt64))) + ((I 34 3 : Int32).toInt64))) + ((I 34 4 : Int32).toInt64))) + ((I 38 0 : Int32).toInt64))) + ((I 38 1 : Int32).toInt64))) + ((I 38 2 : Int32).toInt64))), none, some (.int 10)], [], 0, 0, (mSH, I, L))) rfl (by decide) ?_
  refine mB 2 (s2 := (d + 5, 159, 33, [some (.ref 34), some (.long ((31 * ((31 * ((31 * ((31 * ((31 * ((31 * ((31 * ((31 * ((31 * (62093 + ((I 39 0 : Int32).toInt64))) + ((I 39 1 : Int32).toInt64))) + ((I 39 2 : Int32).toInt64))) + ((I 34 11 : Int32).toInt64))) + ((I 34 1 : Int32).toInt64))) + ((I 34 3 : Int32).toInt64))) + ((I 34 4 : Int32).toInt64))) + ((I 38 0 : Int32).toInt64))) + ((I 38 1 : Int32).toInt64))) + ((I 38 2 : Int32).toInt64))), none, some (.int 0)], [], 0, 0, (mSH, I, L))) rfl ?_
  exact z_l_dg1 hm hq s 0 (by omega) _

