/-! draw, type, clear, judge with their effects. Written by a program (wip/mk_c.py). -/
abbrev kDk (sd n : Int32) : Prop := 0 ≤ sd.toInt ∧ sd.toInt ≤ 999999 ∧ 1 ≤ n.toInt ∧ n.toInt ≤ 16
/-- what draw makes of a site -/
def kDrw (sd n : Int32) (y y' g g' : Nat → Int32) (c c' l l' s s' : Int32) : Prop := (kDk sd n → c' = n ∧ (∀ j, y' j = kYs n.toNatClampNeg sd.toInt64 y j) ∧ l' = mD sd n ∧ (∀ j, g' j = kDA y' n.toNatClampNeg mNine (mIt n.toNatClampNeg sd.toInt64) 0 0 g j) ∧ s' = 0) ∧ (¬ kDk sd n → c' = c ∧ y' = y ∧ l' = l ∧ g' = g ∧ s' = s)
theorem kDrw_no {sd n : Int32} {y g : Nat → Int32} {c l s : Int32} (h : ¬ kDk sd n) : kDrw sd n y y g g c c l l s s := ⟨fun z => absurd z h, fun _ => ⟨rfl, rfl, rfl, rfl, rfl⟩⟩
theorem kDA_c {y z : Nat → Int32} {N : Nat} (hy : ∀ j, j < N → y j = z j) : ∀ (f : Nat) (x : Int64) (P J : Nat) (g k : Nat → Int32), P ≤ N → (∀ j, j < 8 → g j = k j) → ∀ j, j < 8 → kDA y N f x P J g j = kDA z N f x P J k j
  | 0, x, P, J, g, k, hP, h, j, hj => h j hj
  | f + 1, x, P, J, g, k, hP, h, j, hj => by
    rw [kDA_s, kDA_s]
    split
    · exact h j hj
    · split
      · exact h j hj
      · split
        · rename_i c
          refine kDA_c hy f _ _ _ _ _ (by omega) (fun j hj => ?_) j hj
          unfold kPut
          rw [hy P (by omega), hy (P + 1) (by omega), hy (P + 2) (by omega), h j hj]
        · refine kDA_c hy f _ _ _ _ _ (by omega) (fun j hj => ?_) j hj
          unfold kPut
          rw [hy P (by omega), h j hj]
/-- equal sites stay equal -/
theorem kDrw_c {sd n : Int32} {y y' g g' y2 y2' g2 g2' : Nat → Int32} {c c' l l' s s' c2 c2' l2 l2' s2 s2' : Int32} (h : kDrw sd n y y' g g' c c' l l' s s') (k : kDrw sd n y2 y2' g2 g2' c2 c2' l2 l2' s2 s2') (hy : ∀ j, j < 16 → y j = y2 j) (hg : ∀ j, j < 8 → g j = g2 j) (hc : c = c2) (hl : l = l2) (hs : s = s2) : (∀ j, j < 16 → y' j = y2' j) ∧ (∀ j, j < 8 → g' j = g2' j) ∧ c' = c2' ∧ l' = l2' ∧ s' = s2' := by
  by_cases ok : kDk sd n
  · obtain ⟨a1, a2, a3, a4, a5⟩ := h.1 ok
    obtain ⟨b1, b2, b3, b4, b5⟩ := k.1 ok
    have e : n.toNatClampNeg = n.toInt.toNat := rfl
    have ey : ∀ j, j < 16 → y' j = y2' j := fun j hj => by
      rw [a2 j, b2 j]
      unfold kYs
      rw [hy j hj]
    refine ⟨ey, fun j hj => ?_, by rw [a1, b1], by rw [a3, b3], by rw [a5, b5]⟩
    rw [a4 j, b4 j]
    exact kDA_c (fun j hj => ey j (by rw [e] at hj; omega)) _ _ _ _ _ _ (Nat.zero_le _) hg j hj
  · obtain ⟨a1, a2, a3, a4, a5⟩ := h.2 ok
    obtain ⟨b1, b2, b3, b4, b5⟩ := k.2 ok
    subst a2
    subst a4
    subst b2
    subst b4
    exact ⟨hy, hg, by rw [a1, b1, hc], by rw [a3, b3, hl], by rw [a5, b5, hs]⟩
section XB
variable {ro : Nat → Nat × (Nat → Int32)} {Q : mPo} {d : Nat} {L : Nat → Nat → Int64} {I : Nat → Nat → Int32} {sd n : Int32}
theorem x_bd (h1 : ¬ n < 1) (h2 : n ≤ 16) (hq : ∀ J : Nat → Nat → Int32, (∀ r, mMem [1, 2, 3, 4, 5] r = false → J r = I r) → J 2 1 = n → (∀ j, J 3 j = kYs n.toNatClampNeg sd.toInt64 (I 3) j) → J 4 1 = mD sd n → (∀ j, J 5 j = kDA (J 3) n.toNatClampNeg mNine (mIt n.toNatClampNeg sd.toInt64) 0 0 (I 5) j) → J 1 2 = 0 → mCn J 2 16 → mCn J 4 8 → Q none (mSH, J, L)) : mWP mTb_ mFT ro (d + 3, 71, 0, [some (.ref 1), some (.int sd), some (.int n), none, none], [], 0, 0, (mSH, I, L)) Q := by
  obtain ⟨hn, hN⟩ := mNn h1 h2
  unfold mD at hq
  generalize n.toNatClampNeg = N at hn hN hq
  subst hn
  generalize hf : mNine = f at hq
  have hf : 8 < f := by
    rw [← hf]
    exact (by decide : 8 < 9)
  refine mB 3 (s2 := (d + 3, 71, 3, [some (.ref 1), some (.int sd), some (.int (nI N)), none, none], [.int (nI N), .int sd, .ref 1], 0, 0, (mSH, I, L))) rfl ?_
  refine mCall (s2 := (d + 2, 72, 0, [some (.ref 1), some (.int sd), some (.int (nI N)), none, none, none], [], 0, 0, (mSH, I, L))) rfl ?_
  refine s_ds0 ?_
  refine e_spans hN N 0 _ _ (by omega) rfl (fun I' g1 g2 g3 => ?_)
  show mWP mTb_ mFT ro (d + 3, 71, 6, [some (.ref 1), some (.int sd), some (.int (nI N)), none, none], [.long (mIt N sd.toInt64)], 0, 0, (mSH, I', L)) _
  have y3 : ∀ j, I' 3 j = kYs N sd.toInt64 (I 3) j := fun j => by
    rw [g3 j]
    unfold kYs
    by_cases c : j < N
    · rw [if_pos ⟨Nat.zero_le j, c⟩, if_pos c]
      rfl
    · rw [if_neg (fun z => c z.2), if_neg c, mUp_row (by omega)]
  generalize mIt N sd.toInt64 = y at hq
  refine mB 3 (s2 := (d + 3, 71, 9, [some (.ref 1), some (.int sd), some (.int (nI N)), some (.long y), none], [.long y, .ref 1], 0, 0, (mSH, I', L))) rfl ?_
  refine mCall (s2 := (d + 2, 73, 0, [some (.ref 1), some (.long y), none, none, none, none, none, none, none], [], 0, 0, (mSH, I', L))) rfl ?_
  refine s_dl0 ?_
  refine e_layers hN f y 0 0 _ _ _ (by omega) (by omega) (Nat.zero_le N) g1 rfl (fun J k1 k2 k3 => ?_)
  show mWP mTb_ mFT ro (d + 3, 71, 12, [some (.ref 1), some (.int sd), some (.int (nI N)), some (.long y), none], [], 0, 0, (mSH, J, L)) _
  refine mB 3 (s2 := (d + 3, 71, 17, [some (.ref 1), some (.int sd), some (.int (nI N)), some (.long y), none], [], 0, 0, (mSH, mUp J 1 2 0, L))) rfl ?_
  refine mRt (r := none) (h := (mSH, mUp J 1 2 0, L)) rfl rfl ?_
  have j2 : J 2 = I' 2 := k2 2 (by omega) (by omega)
  have j3 : J 3 = I' 3 := k2 3 (by omega) (by omega)
  obtain ⟨J', hJ', eJ⟩ := mDL_le (N := N) f y (nI 0) 0 (by omega)
  refine hq (mUp J 1 2 0) (fun r hr => ?_) ?_ (fun j => ?_) k1 (fun j => ?_) rfl ?_ ?_
  · have r1 : r ≠ 1 := mMem_ne hr rfl
    have r2 : r ≠ 2 := mMem_ne hr rfl
    have r3 : r ≠ 3 := mMem_ne hr rfl
    have r4 : r ≠ 4 := mMem_ne hr rfl
    have r5 : r ≠ 5 := mMem_ne hr rfl
    rw [mUp_row r1, k2 r r4 r5, mUp_row r4, g2 r r2 r3, mUp_row r2]
  · show J 2 1 = _
    rw [j2]
    exact g1
  · show J 3 j = _
    rw [j3]
    exact y3 j
  · show J 5 j = kDA (J 3) N f y 0 0 (I 5) j
    rw [k3 j, j3]
    show kDA (I' 3) N f y 0 0 (I' 5) j = _
    rw [g2 5 (by omega) (by omega)]
    rfl
  · exact mCn.of (I := mUp J 1 2 0) (k := N) (by show J 2 1 = _; rw [j2]; exact g1) hN (by omega)
  · exact mCn.of (I := mUp J 1 2 0) (k := J') (by show J 4 1 = _; rw [k1]; exact eJ) hJ' (by omega)
end XB
theorem u_draw {ro : Nat → Nat × (Nat → Int32)} {Q : mPo} {d : Nat} {I : Nat → Nat → Int32} {L : Nat → Nat → Int64} {v0 v1 : Int32} (hI : mIC I) (hq : ∀ r I1, mFr [0, 1, 2, 3, 4, 5] I I1 → mIC I1 → r = mDrR v0 v1 → kDrw v0 v1 (I 3) (I1 3) (I 5) (I1 5) (I 2 1) (I1 2 1) (I 4 1) (I1 4 1) (I 1 2) (I1 1 2) → Q (some (.int r)) (mSH, I1, L))   : mWP mTb_ mFT ro (d + 7, 81, 0, [some (.ref 0), some (.int v0), some (.int v1)], [], 0, 0, (mSH, I, L)) Q := by
  refine mB 1 (s2 := (d + 7, 81, 1, [some (.ref 0), some (.int v0), some (.int v1)], [.int v0], 0, 0, (mSH, I, L))) rfl ?_
  refine mBr (s2 := (d + 7, 81, 21, [some (.ref 0), some (.int v0), some (.int v1)], [], 0, 0, (mSH, I, L))) (s3 := (d + 7, 81, 4, [some (.ref 0), some (.int v0), some (.int v1)], [], 0, 0, (mSH, I, L))) rfl (fun c0 => ?_) (fun c0 => ?_)
  · refine mB 2 (s2 := (d + 7, 81, 24, [some (.ref 0), some (.int v0), some (.int v1)], [.int (-2), .ref 0], 0, 0, (mSH, I, L))) rfl ?_
    refine mCall (s2 := (d + 6, 103, 0, [some (.ref 0), some (.int (-2))], [], 0, 0, (mSH, I, L))) rfl ?_
    refine mB 2 (s2 := (d + 6, 103, 3, [some (.ref 0), some (.int (-2))], [.int (-2), .int (-2)], 0, 0, (mSH, I, L))) rfl ?_
    refine mBT (s2 := (d + 6, 103, 6, [some (.ref 0), some (.int (-2))], [], 0, 0, (mSH, I, L))) rfl (by decide) ?_
    refine mB 8 (s2 := (d + 6, 103, 49, [some (.ref 0), some (.int (-2))], [.int (-2)], 0, 0, (mSH, (mUp I 0 9 ((I 0 9) + 1)), L))) rfl ?_
    refine mRt (r := (some (.int (-2)))) (h := (mSH, (mUp I 0 9 ((I 0 9) + 1)), L)) rfl (mRet_int rfl) ?_
    show mWP mTb_ mFT ro (d + 7, 81, 27, [some (.ref 0), some (.int v0), some (.int v1)], [.int (-2)], 0, 0, (mSH, (mUp I 0 9 ((I 0 9) + 1)), L)) _
    refine mRt (r := (some (.int (-2)))) (h := (mSH, (mUp I 0 9 ((I 0 9) + 1)), L)) rfl (mRet_int rfl) ?_
    exact hq _ _ (mFr.up (by rfl) mFr.rf) ⟨hI.1, hI.2.1, hI.2.2.1, hI.2.2.2.1, hI.2.2.2.2.1, hI.2.2.2.2.2.1, (mRk.up hI.2.2.2.2.2.2 (by rfl) (by rfl))⟩ (if_neg (by have a0 := of_decide_eq_true c0; simp only [Int32.lt_iff_toInt_lt, Int32.le_iff_toInt_le, ← Int32.toInt_inj, mLi0, mLi1, mLi2, mLi3, mLi4, mLi5, mLi6, mLi7, mLi8, mLi9, mLi10, mLi16, mLi32, mLi48, mLi57, mLi59, mLi65, mLi90, mLi97, mLi99, mLi120, mLi122, mLi127, mLi1584, mLi999999, mLim] at a0 <;> omega)).symm (kDrw_no (by have a0 := of_decide_eq_true c0; simp only [Int32.lt_iff_toInt_lt, Int32.le_iff_toInt_le, ← Int32.toInt_inj, mLi0, mLi1, mLi2, mLi3, mLi4, mLi5, mLi6, mLi7, mLi8, mLi9, mLi10, mLi16, mLi32, mLi48, mLi57, mLi59, mLi65, mLi90, mLi97, mLi99, mLi120, mLi122, mLi127, mLi1584, mLi999999, mLim] at a0 <;> omega))
  · refine mB 2 (s2 := (d + 7, 81, 7, [some (.ref 0), some (.int v0), some (.int v1)], [.int 999999, .int v0], 0, 0, (mSH, I, L))) rfl ?_
    refine mBr (s2 := (d + 7, 81, 21, [some (.ref 0), some (.int v0), some (.int v1)], [], 0, 0, (mSH, I, L))) (s3 := (d + 7, 81, 10, [some (.ref 0), some (.int v0), some (.int v1)], [], 0, 0, (mSH, I, L))) rfl (fun c1 => ?_) (fun c1 => ?_)
    · refine mB 2 (s2 := (d + 7, 81, 24, [some (.ref 0), some (.int v0), some (.int v1)], [.int (-2), .ref 0], 0, 0, (mSH, I, L))) rfl ?_
      refine mCall (s2 := (d + 6, 103, 0, [some (.ref 0), some (.int (-2))], [], 0, 0, (mSH, I, L))) rfl ?_
      refine mB 2 (s2 := (d + 6, 103, 3, [some (.ref 0), some (.int (-2))], [.int (-2), .int (-2)], 0, 0, (mSH, I, L))) rfl ?_
      refine mBT (s2 := (d + 6, 103, 6, [some (.ref 0), some (.int (-2))], [], 0, 0, (mSH, I, L))) rfl (by decide) ?_
      refine mB 8 (s2 := (d + 6, 103, 49, [some (.ref 0), some (.int (-2))], [.int (-2)], 0, 0, (mSH, (mUp I 0 9 ((I 0 9) + 1)), L))) rfl ?_
      refine mRt (r := (some (.int (-2)))) (h := (mSH, (mUp I 0 9 ((I 0 9) + 1)), L)) rfl (mRet_int rfl) ?_
      show mWP mTb_ mFT ro (d + 7, 81, 27, [some (.ref 0), some (.int v0), some (.int v1)], [.int (-2)], 0, 0, (mSH, (mUp I 0 9 ((I 0 9) + 1)), L)) _
      refine mRt (r := (some (.int (-2)))) (h := (mSH, (mUp I 0 9 ((I 0 9) + 1)), L)) rfl (mRet_int rfl) ?_
      exact hq _ _ (mFr.up (by rfl) mFr.rf) ⟨hI.1, hI.2.1, hI.2.2.1, hI.2.2.2.1, hI.2.2.2.2.1, hI.2.2.2.2.2.1, (mRk.up hI.2.2.2.2.2.2 (by rfl) (by rfl))⟩ (if_neg (by have a0 := of_decide_eq_false c0; have a1 := of_decide_eq_true c1; simp only [Int32.lt_iff_toInt_lt, Int32.le_iff_toInt_le, ← Int32.toInt_inj, mLi0, mLi1, mLi2, mLi3, mLi4, mLi5, mLi6, mLi7, mLi8, mLi9, mLi10, mLi16, mLi32, mLi48, mLi57, mLi59, mLi65, mLi90, mLi97, mLi99, mLi120, mLi122, mLi127, mLi1584, mLi999999, mLim] at a0 a1 <;> omega)).symm (kDrw_no (by have a0 := of_decide_eq_false c0; have a1 := of_decide_eq_true c1; simp only [Int32.lt_iff_toInt_lt, Int32.le_iff_toInt_le, ← Int32.toInt_inj, mLi0, mLi1, mLi2, mLi3, mLi4, mLi5, mLi6, mLi7, mLi8, mLi9, mLi10, mLi16, mLi32, mLi48, mLi57, mLi59, mLi65, mLi90, mLi97, mLi99, mLi120, mLi122, mLi127, mLi1584, mLi999999, mLim] at a0 a1 <;> omega))
    · refine mB 2 (s2 := (d + 7, 81, 12, [some (.ref 0), some (.int v0), some (.int v1)], [.int 1, .int v1], 0, 0, (mSH, I, L))) rfl ?_
      refine mBr (s2 := (d + 7, 81, 21, [some (.ref 0), some (.int v0), some (.int v1)], [], 0, 0, (mSH, I, L))) (s3 := (d + 7, 81, 15, [some (.ref 0), some (.int v0), some (.int v1)], [], 0, 0, (mSH, I, L))) rfl (fun c2 => ?_) (fun c2 => ?_)
      · refine mB 2 (s2 := (d + 7, 81, 24, [some (.ref 0), some (.int v0), some (.int v1)], [.int (-2), .ref 0], 0, 0, (mSH, I, L))) rfl ?_
        refine mCall (s2 := (d + 6, 103, 0, [some (.ref 0), some (.int (-2))], [], 0, 0, (mSH, I, L))) rfl ?_
        refine mB 2 (s2 := (d + 6, 103, 3, [some (.ref 0), some (.int (-2))], [.int (-2), .int (-2)], 0, 0, (mSH, I, L))) rfl ?_
        refine mBT (s2 := (d + 6, 103, 6, [some (.ref 0), some (.int (-2))], [], 0, 0, (mSH, I, L))) rfl (by decide) ?_
        refine mB 8 (s2 := (d + 6, 103, 49, [some (.ref 0), some (.int (-2))], [.int (-2)], 0, 0, (mSH, (mUp I 0 9 ((I 0 9) + 1)), L))) rfl ?_
        refine mRt (r := (some (.int (-2)))) (h := (mSH, (mUp I 0 9 ((I 0 9) + 1)), L)) rfl (mRet_int rfl) ?_
        show mWP mTb_ mFT ro (d + 7, 81, 27, [some (.ref 0), some (.int v0), some (.int v1)], [.int (-2)], 0, 0, (mSH, (mUp I 0 9 ((I 0 9) + 1)), L)) _
        refine mRt (r := (some (.int (-2)))) (h := (mSH, (mUp I 0 9 ((I 0 9) + 1)), L)) rfl (mRet_int rfl) ?_
        exact hq _ _ (mFr.up (by rfl) mFr.rf) ⟨hI.1, hI.2.1, hI.2.2.1, hI.2.2.2.1, hI.2.2.2.2.1, hI.2.2.2.2.2.1, (mRk.up hI.2.2.2.2.2.2 (by rfl) (by rfl))⟩ (if_neg (by have a0 := of_decide_eq_false c0; have a1 := of_decide_eq_false c1; have a2 := of_decide_eq_true c2; simp only [Int32.lt_iff_toInt_lt, Int32.le_iff_toInt_le, ← Int32.toInt_inj, mLi0, mLi1, mLi2, mLi3, mLi4, mLi5, mLi6, mLi7, mLi8, mLi9, mLi10, mLi16, mLi32, mLi48, mLi57, mLi59, mLi65, mLi90, mLi97, mLi99, mLi120, mLi122, mLi127, mLi1584, mLi999999, mLim] at a0 a1 a2 <;> omega)).symm (kDrw_no (by have a0 := of_decide_eq_false c0; have a1 := of_decide_eq_false c1; have a2 := of_decide_eq_true c2; simp only [Int32.lt_iff_toInt_lt, Int32.le_iff_toInt_le, ← Int32.toInt_inj, mLi0, mLi1, mLi2, mLi3, mLi4, mLi5, mLi6, mLi7, mLi8, mLi9, mLi10, mLi16, mLi32, mLi48, mLi57, mLi59, mLi65, mLi90, mLi97, mLi99, mLi120, mLi122, mLi127, mLi1584, mLi999999, mLim] at a0 a1 a2 <;> omega))
      · refine mB 2 (s2 := (d + 7, 81, 18, [some (.ref 0), some (.int v0), some (.int v1)], [.int 16, .int v1], 0, 0, (mSH, I, L))) rfl ?_
        refine mBr (s2 := (d + 7, 81, 28, [some (.ref 0), some (.int v0), some (.int v1)], [], 0, 0, (mSH, I, L))) (s3 := (d + 7, 81, 21, [some (.ref 0), some (.int v0), some (.int v1)], [], 0, 0, (mSH, I, L))) rfl (fun c3 => ?_) (fun c3 => ?_)
        · refine mB 4 (s2 := (d + 7, 81, 34, [some (.ref 0), some (.int v0), some (.int v1)], [.int v1, .int v0, .ref 1], 0, 0, (mSH, I, L))) rfl ?_
          refine mCall (s2 := (d + 6, 71, 0, [some (.ref 1), some (.int v0), some (.int v1), none, none], [], 0, 0, (mSH, I, L))) rfl ?_
          refine x_bd (of_decide_eq_false c2) (of_decide_eq_true c3) (fun J f1 f2 f3 f4 f5 f6 m2 m4 => ?_)
          show mWP mTb_ mFT ro (d + 7, 81, 37, [some (.ref 0), some (.int v0), some (.int v1)], [], 0, 0, (mSH, J, L)) _
          refine mB 3 (s2 := (d + 7, 81, 44, [some (.ref 0), some (.int v0), some (.int v1)], [.ref 4], 0, 0, (mSH, J, L))) rfl ?_
          refine mCall (s2 := (d + 6, 39, 0, [some (.ref 4)], [], 0, 0, (mSH, J, L))) rfl ?_
          refine mB 2 (s2 := (d + 6, 39, 4, [some (.ref 4)], [.int (J 4 1)], 0, 0, (mSH, J, L))) rfl ?_
          refine mRt (r := (some (.int (J 4 1)))) (h := (mSH, J, L)) rfl (mRet_int rfl) ?_
          show mWP mTb_ mFT ro (d + 7, 81, 47, [some (.ref 0), some (.int v0), some (.int v1)], [.int (J 4 1)], 0, 0, (mSH, J, L)) _
          refine mRt (r := (some (.int (J 4 1)))) (h := (mSH, J, L)) rfl (mRet_int rfl) ?_
          exact hq _ _ (mFr.sub (by decide) f1) ⟨m2, m4, (mCn.eqr (f1 23 rfl) hI.2.2.1), (mCn.eqr (f1 26 rfl) hI.2.2.2.1), (mCn.eqr (f1 30 rfl) hI.2.2.2.2.1), (mCn.eqr (f1 32 rfl) hI.2.2.2.2.2.1), mRk.eq (f1 18 rfl) (f1 19 rfl) hI.2.2.2.2.2.2⟩ (f4.trans (if_pos (by have a0 := of_decide_eq_false c0; have a1 := of_decide_eq_false c1; have a2 := of_decide_eq_false c2; have a3 := of_decide_eq_true c3; simp only [Int32.lt_iff_toInt_lt, Int32.le_iff_toInt_le, ← Int32.toInt_inj, mLi0, mLi1, mLi2, mLi3, mLi4, mLi5, mLi6, mLi7, mLi8, mLi9, mLi10, mLi16, mLi32, mLi48, mLi57, mLi59, mLi65, mLi90, mLi97, mLi99, mLi120, mLi122, mLi127, mLi1584, mLi999999, mLim] at a0 a1 a2 a3 <;> omega)).symm) ⟨fun _ => ⟨f2, f3, f4, f5, f6⟩, fun z => absurd (by have a0 := of_decide_eq_false c0; have a1 := of_decide_eq_false c1; have a2 := of_decide_eq_false c2; have a3 := of_decide_eq_true c3; simp only [Int32.lt_iff_toInt_lt, Int32.le_iff_toInt_le, ← Int32.toInt_inj, mLi0, mLi1, mLi2, mLi3, mLi4, mLi5, mLi6, mLi7, mLi8, mLi9, mLi10, mLi16, mLi32, mLi48, mLi57, mLi59, mLi65, mLi90, mLi97, mLi99, mLi120, mLi122, mLi127, mLi1584, mLi999999, mLim] at a0 a1 a2 a3 <;> omega) z⟩
        · refine mB 2 (s2 := (d + 7, 81, 24, [some (.ref 0), some (.int v0), some (.int v1)], [.int (-2), .ref 0], 0, 0, (mSH, I, L))) rfl ?_
          refine mCall (s2 := (d + 6, 103, 0, [some (.ref 0), some (.int (-2))], [], 0, 0, (mSH, I, L))) rfl ?_
          refine mB 2 (s2 := (d + 6, 103, 3, [some (.ref 0), some (.int (-2))], [.int (-2), .int (-2)], 0, 0, (mSH, I, L))) rfl ?_
          refine mBT (s2 := (d + 6, 103, 6, [some (.ref 0), some (.int (-2))], [], 0, 0, (mSH, I, L))) rfl (by decide) ?_
          refine mB 8 (s2 := (d + 6, 103, 49, [some (.ref 0), some (.int (-2))], [.int (-2)], 0, 0, (mSH, (mUp I 0 9 ((I 0 9) + 1)), L))) rfl ?_
          refine mRt (r := (some (.int (-2)))) (h := (mSH, (mUp I 0 9 ((I 0 9) + 1)), L)) rfl (mRet_int rfl) ?_
          show mWP mTb_ mFT ro (d + 7, 81, 27, [some (.ref 0), some (.int v0), some (.int v1)], [.int (-2)], 0, 0, (mSH, (mUp I 0 9 ((I 0 9) + 1)), L)) _
          refine mRt (r := (some (.int (-2)))) (h := (mSH, (mUp I 0 9 ((I 0 9) + 1)), L)) rfl (mRet_int rfl) ?_
          exact hq _ _ (mFr.up (by rfl) mFr.rf) ⟨hI.1, hI.2.1, hI.2.2.1, hI.2.2.2.1, hI.2.2.2.2.1, hI.2.2.2.2.2.1, (mRk.up hI.2.2.2.2.2.2 (by rfl) (by rfl))⟩ (if_neg (by have a0 := of_decide_eq_false c0; have a1 := of_decide_eq_false c1; have a2 := of_decide_eq_false c2; have a3 := of_decide_eq_false c3; simp only [Int32.lt_iff_toInt_lt, Int32.le_iff_toInt_le, ← Int32.toInt_inj, mLi0, mLi1, mLi2, mLi3, mLi4, mLi5, mLi6, mLi7, mLi8, mLi9, mLi10, mLi16, mLi32, mLi48, mLi57, mLi59, mLi65, mLi90, mLi97, mLi99, mLi120, mLi122, mLi127, mLi1584, mLi999999, mLim] at a0 a1 a2 a3 <;> omega)).symm (kDrw_no (by have a0 := of_decide_eq_false c0; have a1 := of_decide_eq_false c1; have a2 := of_decide_eq_false c2; have a3 := of_decide_eq_false c3; simp only [Int32.lt_iff_toInt_lt, Int32.le_iff_toInt_le, ← Int32.toInt_inj, mLi0, mLi1, mLi2, mLi3, mLi4, mLi5, mLi6, mLi7, mLi8, mLi9, mLi10, mLi16, mLi32, mLi48, mLi57, mLi59, mLi65, mLi90, mLi97, mLi99, mLi120, mLi122, mLi127, mLi1584, mLi999999, mLim] at a0 a1 a2 a3 <;> omega))
theorem n_draw1 {ro : Nat → Nat × (Nat → Int32)} {Q : mPo} {d : Nat} {I : Nat → Nat → Int32} {L : Nat → Nat → Int64} {s n t : Nat} {v0 v1 : Int32} (hm : mM s n t I) (hok : kDk v0 v1) (hq : ∀ r I1 L1, mXm [34, 35, 36, 39] [1, 3, 4] I I1 → mIM I1 → r = mDrR v0 v1 → kDrw v0 v1 (I 35) (I1 35) (I 36) (I1 36) (I 34 1) (I1 34 1) (I 34 3) (I1 34 3) (I 34 4) (I1 34 4) → Q (some (.int r)) (mSH, I1, L1)) : mWP mTb_ mFT ro (d, 121, 33, [some (.ref 34), some (.int v0), some (.int v1), some (.long (v0 : Int32).toInt64), none, some (.int 0), none, none], [], 0, 0, (mSH, I, L)) Q := by
  have hr : mDrR v0 v1 = mD v0 v1 := if_pos hok
  obtain ⟨hn, hN⟩ := mNn (n := v1) (fun c => by rw [Int32.lt_iff_toInt_lt, mLi1] at c; omega) (by rw [Int32.le_iff_toInt_le, mLi16]; omega)
  rw [hr] at hq
  have hx : ∃ a, a < 2 ^ 31 ∧ v0.toInt64 = lN a := by
    obtain ⟨a, ha, e⟩ := nI_of (x := v0) (fun c => by rw [Int32.lt_iff_toInt_lt, mLi0] at c; omega)
    exact ⟨a, ha, by rw [e, nI_l ha]⟩
  have hq2 : ∀ I1 : Nat → Nat → Int32, mXm [34, 35, 36, 39] [1, 3, 4] I I1 → mIM I1 → I1 34 1 = v1 → (∀ j, I1 35 j = kYs v1.toNatClampNeg v0.toInt64 (I 35) j) → I1 34 3 = mD v0 v1 → (∀ j, I1 36 j = kDA (I1 35) v1.toNatClampNeg mNine (mIt v1.toNatClampNeg v0.toInt64) 0 0 (I 36) j) → I1 34 4 = 0 → Q (some (.int (mD v0 v1))) (mSH, I1, L) := fun I1 a b c1 c2 c3 c4 c5 => hq _ I1 L a b rfl ⟨fun _ => ⟨c1, c2, c3, c4, c5⟩, fun z => absurd hok z⟩
  clear hq
  unfold mD at hq2
  generalize v1.toNatClampNeg = N at hn hN hq2
  subst hn
  generalize hf : mNine = f at hq2
  have hf : 8 < f := by
    rw [← hf]
    exact (by decide : 8 < 9)
  refine e_mdraw1 hN f hf N 0 _ _ (by omega) hx (fun j hj => absurd hj (Nat.not_lt_zero j)) (fun I1 k1 k2 k3 k4 k5 k6 k7 k8 k9 => ?_)
  obtain ⟨J', j1, j2, j3⟩ := k5
  refine hq2 I1 ⟨fun c hc => k1 c (mMem_ne hc rfl) (mMem_ne hc rfl) (mMem_ne hc rfl), fun j hj => k2 j (mMem_ne hj rfl) (mMem_ne hj rfl) (mMem_ne hj rfl)⟩ ⟨N, J', t, ⟨k3, hN⟩, ⟨j2, j1⟩, ⟨(k2 11 (by omega) (by omega) (by omega)).trans hm.2.2.1.1, hm.2.2.1.2⟩, k4, j3, ?_⟩ k3 (fun j => ?_) k7 k9 k6
  · rw [k1 41 (by omega) (by omega) (by omega)]
    exact hm.2.2.2.2.2
  · rw [k8 j]
    unfold kYs
    by_cases c : j < N
    · rw [if_pos ⟨Nat.zero_le j, c⟩, if_pos c]
      rfl
    · rw [if_neg (fun z => c z.2), if_neg c]
theorem n_draw {ro : Nat → Nat × (Nat → Int32)} {Q : mPo} {d : Nat} {I : Nat → Nat → Int32} {L : Nat → Nat → Int64} {s n t : Nat} {v0 v1 : Int32} (hm : mM s n t I) (hq : ∀ r I1 L1, mXm [34, 35, 36, 39] [1, 3, 4] I I1 → mIM I1 → r = mDrR v0 v1 → kDrw v0 v1 (I 35) (I1 35) (I 36) (I1 36) (I 34 1) (I1 34 1) (I 34 3) (I1 34 3) (I 34 4) (I1 34 4) → Q (some (.int r)) (mSH, I1, L1))   : mWP mTb_ mFT ro (d + 5, 121, 0, [some (.ref 34), some (.int v0), some (.int v1), none, none, none, none, none], [], 0, 0, (mSH, I, L)) Q := by
  refine mB 3 (s2 := (d + 5, 121, 4, [some (.ref 34), some (.int v0), some (.int v1), none, none, none, none, none], [.int 999999, .int 0, .int v0], 0, 0, (mSH, I, L))) rfl ?_
  refine mCall (s2 := (d + 4, 112, 0, [some (.int v0), some (.int 0), some (.int 999999)], [], 0, 0, (mSH, I, L))) rfl ?_
  refine mB 2 (s2 := (d + 4, 112, 2, [some (.int v0), some (.int 0), some (.int 999999)], [.int 0, .int v0], 0, 0, (mSH, I, L))) rfl ?_
  refine mBr (s2 := (d + 4, 112, 14, [some (.int v0), some (.int 0), some (.int 999999)], [], 0, 0, (mSH, I, L))) (s3 := (d + 4, 112, 5, [some (.int v0), some (.int 0), some (.int 999999)], [], 0, 0, (mSH, I, L))) rfl (fun c0 => ?_) (fun c0 => ?_)
  · refine mB 1 (s2 := (d + 4, 112, 15, [some (.int v0), some (.int 0), some (.int 999999)], [.int 0], 0, 0, (mSH, I, L))) rfl ?_
    refine mRt (r := (some (.int 0))) (h := (mSH, I, L)) rfl rfl ?_
    show mWP mTb_ mFT ro (d + 5, 121, 7, [some (.ref 34), some (.int v0), some (.int v1), none, none, none, none, none], [.int 0], 0, 0, (mSH, I, L)) _
    refine mBT (s2 := (d + 5, 121, 20, [some (.ref 34), some (.int v0), some (.int v1), none, none, none, none, none], [], 0, 0, (mSH, I, L))) rfl (by decide) ?_
    refine mB 2 (s2 := (d + 5, 121, 23, [some (.ref 34), some (.int v0), some (.int v1), none, none, none, none, none], [.int (-2), .ref 34], 0, 0, (mSH, I, L))) rfl ?_
    refine mCall (s2 := (d + 4, 113, 0, [some (.ref 34), some (.int (-2))], [], 0, 0, (mSH, I, L))) rfl ?_
    refine mB 6 (s2 := (d + 4, 113, 9, [some (.ref 34), some (.int (-2))], [.int 0, .ref 39, .int 0, .ref 39], 0, 0, (mSH, I, L))) rfl ?_
    refine mRq (s2 := (d + 4, 113, 10, [some (.ref 34), some (.int (-2))], [.int (I 39 0), .int 0, .ref 39], 0, 0, (mSH, I, L))) rfl (by decide) ?_
    refine mB 2 (s2 := (d + 4, 113, 12, [some (.ref 34), some (.int (-2))], [.int ((I 39 0) + 1), .int 0, .ref 39], 0, 0, (mSH, I, L))) rfl ?_
    refine mRq (s2 := (d + 4, 113, 13, [some (.ref 34), some (.int (-2))], [], 0, 0, (mSH, (mUp I 39 0 ((I 39 0) + 1)), L))) rfl (by decide) ?_
    refine mB 1 (s2 := (d + 4, 113, 14, [some (.ref 34), some (.int (-2))], [.int (-2)], 0, 0, (mSH, (mUp I 39 0 ((I 39 0) + 1)), L))) rfl ?_
    refine mRt (r := (some (.int (-2)))) (h := (mSH, (mUp I 39 0 ((I 39 0) + 1)), L)) rfl (mRet_int rfl) ?_
    show mWP mTb_ mFT ro (d + 5, 121, 26, [some (.ref 34), some (.int v0), some (.int v1), none, none, none, none, none], [.int (-2)], 0, 0, (mSH, (mUp I 39 0 ((I 39 0) + 1)), L)) _
    refine mRt (r := (some (.int (-2)))) (h := (mSH, (mUp I 39 0 ((I 39 0) + 1)), L)) rfl (mRet_int rfl) ?_
    exact hq _ _ _ (mXm.up (by rfl) (by rfl) mXm.rf) ⟨_, _, _, hm⟩ (if_neg (by have a0 := of_decide_eq_true c0; simp only [Int32.lt_iff_toInt_lt, Int32.le_iff_toInt_le, ← Int32.toInt_inj, mLi0, mLi1, mLi2, mLi3, mLi4, mLi5, mLi6, mLi7, mLi8, mLi9, mLi10, mLi16, mLi32, mLi48, mLi57, mLi59, mLi65, mLi90, mLi97, mLi99, mLi120, mLi122, mLi127, mLi1584, mLi999999, mLim] at a0 <;> omega)).symm (kDrw_no (by have a0 := of_decide_eq_true c0; simp only [Int32.lt_iff_toInt_lt, Int32.le_iff_toInt_le, ← Int32.toInt_inj, mLi0, mLi1, mLi2, mLi3, mLi4, mLi5, mLi6, mLi7, mLi8, mLi9, mLi10, mLi16, mLi32, mLi48, mLi57, mLi59, mLi65, mLi90, mLi97, mLi99, mLi120, mLi122, mLi127, mLi1584, mLi999999, mLim] at a0 <;> omega))
  · refine mB 2 (s2 := (d + 4, 112, 7, [some (.int v0), some (.int 0), some (.int 999999)], [.int 999999, .int v0], 0, 0, (mSH, I, L))) rfl ?_
    refine mBr (s2 := (d + 4, 112, 14, [some (.int v0), some (.int 0), some (.int 999999)], [], 0, 0, (mSH, I, L))) (s3 := (d + 4, 112, 10, [some (.int v0), some (.int 0), some (.int 999999)], [], 0, 0, (mSH, I, L))) rfl (fun c1 => ?_) (fun c1 => ?_)
    · refine mB 1 (s2 := (d + 4, 112, 15, [some (.int v0), some (.int 0), some (.int 999999)], [.int 0], 0, 0, (mSH, I, L))) rfl ?_
      refine mRt (r := (some (.int 0))) (h := (mSH, I, L)) rfl rfl ?_
      show mWP mTb_ mFT ro (d + 5, 121, 7, [some (.ref 34), some (.int v0), some (.int v1), none, none, none, none, none], [.int 0], 0, 0, (mSH, I, L)) _
      refine mBT (s2 := (d + 5, 121, 20, [some (.ref 34), some (.int v0), some (.int v1), none, none, none, none, none], [], 0, 0, (mSH, I, L))) rfl (by decide) ?_
      refine mB 2 (s2 := (d + 5, 121, 23, [some (.ref 34), some (.int v0), some (.int v1), none, none, none, none, none], [.int (-2), .ref 34], 0, 0, (mSH, I, L))) rfl ?_
      refine mCall (s2 := (d + 4, 113, 0, [some (.ref 34), some (.int (-2))], [], 0, 0, (mSH, I, L))) rfl ?_
      refine mB 6 (s2 := (d + 4, 113, 9, [some (.ref 34), some (.int (-2))], [.int 0, .ref 39, .int 0, .ref 39], 0, 0, (mSH, I, L))) rfl ?_
      refine mRq (s2 := (d + 4, 113, 10, [some (.ref 34), some (.int (-2))], [.int (I 39 0), .int 0, .ref 39], 0, 0, (mSH, I, L))) rfl (by decide) ?_
      refine mB 2 (s2 := (d + 4, 113, 12, [some (.ref 34), some (.int (-2))], [.int ((I 39 0) + 1), .int 0, .ref 39], 0, 0, (mSH, I, L))) rfl ?_
      refine mRq (s2 := (d + 4, 113, 13, [some (.ref 34), some (.int (-2))], [], 0, 0, (mSH, (mUp I 39 0 ((I 39 0) + 1)), L))) rfl (by decide) ?_
      refine mB 1 (s2 := (d + 4, 113, 14, [some (.ref 34), some (.int (-2))], [.int (-2)], 0, 0, (mSH, (mUp I 39 0 ((I 39 0) + 1)), L))) rfl ?_
      refine mRt (r := (some (.int (-2)))) (h := (mSH, (mUp I 39 0 ((I 39 0) + 1)), L)) rfl (mRet_int rfl) ?_
      show mWP mTb_ mFT ro (d + 5, 121, 26, [some (.ref 34), some (.int v0), some (.int v1), none, none, none, none, none], [.int (-2)], 0, 0, (mSH, (mUp I 39 0 ((I 39 0) + 1)), L)) _
      refine mRt (r := (some (.int (-2)))) (h := (mSH, (mUp I 39 0 ((I 39 0) + 1)), L)) rfl (mRet_int rfl) ?_
      exact hq _ _ _ (mXm.up (by rfl) (by rfl) mXm.rf) ⟨_, _, _, hm⟩ (if_neg (by have a0 := of_decide_eq_false c0; have a1 := of_decide_eq_true c1; simp only [Int32.lt_iff_toInt_lt, Int32.le_iff_toInt_le, ← Int32.toInt_inj, mLi0, mLi1, mLi2, mLi3, mLi4, mLi5, mLi6, mLi7, mLi8, mLi9, mLi10, mLi16, mLi32, mLi48, mLi57, mLi59, mLi65, mLi90, mLi97, mLi99, mLi120, mLi122, mLi127, mLi1584, mLi999999, mLim] at a0 a1 <;> omega)).symm (kDrw_no (by have a0 := of_decide_eq_false c0; have a1 := of_decide_eq_true c1; simp only [Int32.lt_iff_toInt_lt, Int32.le_iff_toInt_le, ← Int32.toInt_inj, mLi0, mLi1, mLi2, mLi3, mLi4, mLi5, mLi6, mLi7, mLi8, mLi9, mLi10, mLi16, mLi32, mLi48, mLi57, mLi59, mLi65, mLi90, mLi97, mLi99, mLi120, mLi122, mLi127, mLi1584, mLi999999, mLim] at a0 a1 <;> omega))
    · refine mB 2 (s2 := (d + 4, 112, 15, [some (.int v0), some (.int 0), some (.int 999999)], [.int 1], 0, 0, (mSH, I, L))) rfl ?_
      refine mRt (r := (some (.int 1))) (h := (mSH, I, L)) rfl rfl ?_
      show mWP mTb_ mFT ro (d + 5, 121, 7, [some (.ref 34), some (.int v0), some (.int v1), none, none, none, none, none], [.int 1], 0, 0, (mSH, I, L)) _
      refine mBF (s3 := (d + 5, 121, 10, [some (.ref 34), some (.int v0), some (.int v1), none, none, none, none, none], [], 0, 0, (mSH, I, L))) rfl (by decide) ?_
      refine mB 3 (s2 := (d + 5, 121, 14, [some (.ref 34), some (.int v0), some (.int v1), none, none, none, none, none], [.int 16, .int 1, .int v1], 0, 0, (mSH, I, L))) rfl ?_
      refine mCall (s2 := (d + 4, 112, 0, [some (.int v1), some (.int 1), some (.int 16)], [], 0, 0, (mSH, I, L))) rfl ?_
      refine mB 2 (s2 := (d + 4, 112, 2, [some (.int v1), some (.int 1), some (.int 16)], [.int 1, .int v1], 0, 0, (mSH, I, L))) rfl ?_
      refine mBr (s2 := (d + 4, 112, 14, [some (.int v1), some (.int 1), some (.int 16)], [], 0, 0, (mSH, I, L))) (s3 := (d + 4, 112, 5, [some (.int v1), some (.int 1), some (.int 16)], [], 0, 0, (mSH, I, L))) rfl (fun c2 => ?_) (fun c2 => ?_)
      · refine mB 1 (s2 := (d + 4, 112, 15, [some (.int v1), some (.int 1), some (.int 16)], [.int 0], 0, 0, (mSH, I, L))) rfl ?_
        refine mRt (r := (some (.int 0))) (h := (mSH, I, L)) rfl rfl ?_
        show mWP mTb_ mFT ro (d + 5, 121, 17, [some (.ref 34), some (.int v0), some (.int v1), none, none, none, none, none], [.int 0], 0, 0, (mSH, I, L)) _
        refine mBT (s2 := (d + 5, 121, 20, [some (.ref 34), some (.int v0), some (.int v1), none, none, none, none, none], [], 0, 0, (mSH, I, L))) rfl (by decide) ?_
        refine mB 2 (s2 := (d + 5, 121, 23, [some (.ref 34), some (.int v0), some (.int v1), none, none, none, none, none], [.int (-2), .ref 34], 0, 0, (mSH, I, L))) rfl ?_
        refine mCall (s2 := (d + 4, 113, 0, [some (.ref 34), some (.int (-2))], [], 0, 0, (mSH, I, L))) rfl ?_
        refine mB 6 (s2 := (d + 4, 113, 9, [some (.ref 34), some (.int (-2))], [.int 0, .ref 39, .int 0, .ref 39], 0, 0, (mSH, I, L))) rfl ?_
        refine mRq (s2 := (d + 4, 113, 10, [some (.ref 34), some (.int (-2))], [.int (I 39 0), .int 0, .ref 39], 0, 0, (mSH, I, L))) rfl (by decide) ?_
        refine mB 2 (s2 := (d + 4, 113, 12, [some (.ref 34), some (.int (-2))], [.int ((I 39 0) + 1), .int 0, .ref 39], 0, 0, (mSH, I, L))) rfl ?_
        refine mRq (s2 := (d + 4, 113, 13, [some (.ref 34), some (.int (-2))], [], 0, 0, (mSH, (mUp I 39 0 ((I 39 0) + 1)), L))) rfl (by decide) ?_
        refine mB 1 (s2 := (d + 4, 113, 14, [some (.ref 34), some (.int (-2))], [.int (-2)], 0, 0, (mSH, (mUp I 39 0 ((I 39 0) + 1)), L))) rfl ?_
        refine mRt (r := (some (.int (-2)))) (h := (mSH, (mUp I 39 0 ((I 39 0) + 1)), L)) rfl (mRet_int rfl) ?_
        show mWP mTb_ mFT ro (d + 5, 121, 26, [some (.ref 34), some (.int v0), some (.int v1), none, none, none, none, none], [.int (-2)], 0, 0, (mSH, (mUp I 39 0 ((I 39 0) + 1)), L)) _
        refine mRt (r := (some (.int (-2)))) (h := (mSH, (mUp I 39 0 ((I 39 0) + 1)), L)) rfl (mRet_int rfl) ?_
        exact hq _ _ _ (mXm.up (by rfl) (by rfl) mXm.rf) ⟨_, _, _, hm⟩ (if_neg (by have a0 := of_decide_eq_false c0; have a1 := of_decide_eq_false c1; have a2 := of_decide_eq_true c2; simp only [Int32.lt_iff_toInt_lt, Int32.le_iff_toInt_le, ← Int32.toInt_inj, mLi0, mLi1, mLi2, mLi3, mLi4, mLi5, mLi6, mLi7, mLi8, mLi9, mLi10, mLi16, mLi32, mLi48, mLi57, mLi59, mLi65, mLi90, mLi97, mLi99, mLi120, mLi122, mLi127, mLi1584, mLi999999, mLim] at a0 a1 a2 <;> omega)).symm (kDrw_no (by have a0 := of_decide_eq_false c0; have a1 := of_decide_eq_false c1; have a2 := of_decide_eq_true c2; simp only [Int32.lt_iff_toInt_lt, Int32.le_iff_toInt_le, ← Int32.toInt_inj, mLi0, mLi1, mLi2, mLi3, mLi4, mLi5, mLi6, mLi7, mLi8, mLi9, mLi10, mLi16, mLi32, mLi48, mLi57, mLi59, mLi65, mLi90, mLi97, mLi99, mLi120, mLi122, mLi127, mLi1584, mLi999999, mLim] at a0 a1 a2 <;> omega))
      · refine mB 2 (s2 := (d + 4, 112, 7, [some (.int v1), some (.int 1), some (.int 16)], [.int 16, .int v1], 0, 0, (mSH, I, L))) rfl ?_
        refine mBr (s2 := (d + 4, 112, 14, [some (.int v1), some (.int 1), some (.int 16)], [], 0, 0, (mSH, I, L))) (s3 := (d + 4, 112, 10, [some (.int v1), some (.int 1), some (.int 16)], [], 0, 0, (mSH, I, L))) rfl (fun c3 => ?_) (fun c3 => ?_)
        · refine mB 1 (s2 := (d + 4, 112, 15, [some (.int v1), some (.int 1), some (.int 16)], [.int 0], 0, 0, (mSH, I, L))) rfl ?_
          refine mRt (r := (some (.int 0))) (h := (mSH, I, L)) rfl rfl ?_
          show mWP mTb_ mFT ro (d + 5, 121, 17, [some (.ref 34), some (.int v0), some (.int v1), none, none, none, none, none], [.int 0], 0, 0, (mSH, I, L)) _
          refine mBT (s2 := (d + 5, 121, 20, [some (.ref 34), some (.int v0), some (.int v1), none, none, none, none, none], [], 0, 0, (mSH, I, L))) rfl (by decide) ?_
          refine mB 2 (s2 := (d + 5, 121, 23, [some (.ref 34), some (.int v0), some (.int v1), none, none, none, none, none], [.int (-2), .ref 34], 0, 0, (mSH, I, L))) rfl ?_
          refine mCall (s2 := (d + 4, 113, 0, [some (.ref 34), some (.int (-2))], [], 0, 0, (mSH, I, L))) rfl ?_
          refine mB 6 (s2 := (d + 4, 113, 9, [some (.ref 34), some (.int (-2))], [.int 0, .ref 39, .int 0, .ref 39], 0, 0, (mSH, I, L))) rfl ?_
          refine mRq (s2 := (d + 4, 113, 10, [some (.ref 34), some (.int (-2))], [.int (I 39 0), .int 0, .ref 39], 0, 0, (mSH, I, L))) rfl (by decide) ?_
          refine mB 2 (s2 := (d + 4, 113, 12, [some (.ref 34), some (.int (-2))], [.int ((I 39 0) + 1), .int 0, .ref 39], 0, 0, (mSH, I, L))) rfl ?_
          refine mRq (s2 := (d + 4, 113, 13, [some (.ref 34), some (.int (-2))], [], 0, 0, (mSH, (mUp I 39 0 ((I 39 0) + 1)), L))) rfl (by decide) ?_
          refine mB 1 (s2 := (d + 4, 113, 14, [some (.ref 34), some (.int (-2))], [.int (-2)], 0, 0, (mSH, (mUp I 39 0 ((I 39 0) + 1)), L))) rfl ?_
          refine mRt (r := (some (.int (-2)))) (h := (mSH, (mUp I 39 0 ((I 39 0) + 1)), L)) rfl (mRet_int rfl) ?_
          show mWP mTb_ mFT ro (d + 5, 121, 26, [some (.ref 34), some (.int v0), some (.int v1), none, none, none, none, none], [.int (-2)], 0, 0, (mSH, (mUp I 39 0 ((I 39 0) + 1)), L)) _
          refine mRt (r := (some (.int (-2)))) (h := (mSH, (mUp I 39 0 ((I 39 0) + 1)), L)) rfl (mRet_int rfl) ?_
          exact hq _ _ _ (mXm.up (by rfl) (by rfl) mXm.rf) ⟨_, _, _, hm⟩ (if_neg (by have a0 := of_decide_eq_false c0; have a1 := of_decide_eq_false c1; have a2 := of_decide_eq_false c2; have a3 := of_decide_eq_true c3; simp only [Int32.lt_iff_toInt_lt, Int32.le_iff_toInt_le, ← Int32.toInt_inj, mLi0, mLi1, mLi2, mLi3, mLi4, mLi5, mLi6, mLi7, mLi8, mLi9, mLi10, mLi16, mLi32, mLi48, mLi57, mLi59, mLi65, mLi90, mLi97, mLi99, mLi120, mLi122, mLi127, mLi1584, mLi999999, mLim] at a0 a1 a2 a3 <;> omega)).symm (kDrw_no (by have a0 := of_decide_eq_false c0; have a1 := of_decide_eq_false c1; have a2 := of_decide_eq_false c2; have a3 := of_decide_eq_true c3; simp only [Int32.lt_iff_toInt_lt, Int32.le_iff_toInt_le, ← Int32.toInt_inj, mLi0, mLi1, mLi2, mLi3, mLi4, mLi5, mLi6, mLi7, mLi8, mLi9, mLi10, mLi16, mLi32, mLi48, mLi57, mLi59, mLi65, mLi90, mLi97, mLi99, mLi120, mLi122, mLi127, mLi1584, mLi999999, mLim] at a0 a1 a2 a3 <;> omega))
        · refine mB 2 (s2 := (d + 4, 112, 15, [some (.int v1), some (.int 1), some (.int 16)], [.int 1], 0, 0, (mSH, I, L))) rfl ?_
          refine mRt (r := (some (.int 1))) (h := (mSH, I, L)) rfl rfl ?_
          show mWP mTb_ mFT ro (d + 5, 121, 17, [some (.ref 34), some (.int v0), some (.int v1), none, none, none, none, none], [.int 1], 0, 0, (mSH, I, L)) _
          refine mBF (s3 := (d + 5, 121, 27, [some (.ref 34), some (.int v0), some (.int v1), none, none, none, none, none], [], 0, 0, (mSH, I, L))) rfl (by decide) ?_
          refine mB 5 (s2 := (d + 5, 121, 33, [some (.ref 34), some (.int v0), some (.int v1), some (.long ((v0 : Int32).toInt64)), none, some (.int 0), none, none], [], 0, 0, (mSH, I, L))) rfl ?_
          exact n_draw1 hm (by have a0 := of_decide_eq_false c0; have a1 := of_decide_eq_false c1; have a2 := of_decide_eq_false c2; have a3 := of_decide_eq_false c3; simp only [Int32.lt_iff_toInt_lt, Int32.le_iff_toInt_le, ← Int32.toInt_inj, mLi0, mLi1, mLi2, mLi3, mLi4, mLi5, mLi6, mLi7, mLi8, mLi9, mLi10, mLi16, mLi32, mLi48, mLi57, mLi59, mLi65, mLi90, mLi97, mLi99, mLi120, mLi122, mLi127, mLi1584, mLi999999, mLim] at a0 a1 a2 a3 <;> omega) hq
theorem kTy0 {n c : Int32} {f : Nat → Int32} (h : ¬ (0 ≤ c.toInt ∧ c.toInt ≤ 127 ∧ n.toInt < 120)) : f = kTyF n c f := by
  unfold kTyF
  rw [if_neg h]
theorem kTy1 {n c : Int32} {f : Nat → Int32} (h : 0 ≤ c.toInt ∧ c.toInt ≤ 127 ∧ n.toInt < 120) : kPut f n.toNatClampNeg c = kTyF n c f := by
  unfold kTyF
  rw [if_pos h]
theorem u_type {ro : Nat → Nat × (Nat → Int32)} {Q : mPo} {d : Nat} {I : Nat → Nat → Int32} {L : Nat → Nat → Int64} {v0 : Int32} (hI : mIC I) (hq : ∀ r I1, mFr [0, 26, 27] I I1 → mIC I1 → r = mTyR (I 26 1) v0 → I1 26 1 = mTyN (I 26 1) v0 → I1 27 = kTyF (I 26 1) v0 (I 27) → Q (some (.int r)) (mSH, I1, L))   : mWP mTb_ mFT ro (d + 7, 98, 0, [some (.ref 0), some (.int v0)], [], 0, 0, (mSH, I, L)) Q := by
  refine mB 1 (s2 := (d + 7, 98, 1, [some (.ref 0), some (.int v0)], [.int v0], 0, 0, (mSH, I, L))) rfl ?_
  refine mBr (s2 := (d + 7, 98, 10, [some (.ref 0), some (.int v0)], [], 0, 0, (mSH, I, L))) (s3 := (d + 7, 98, 4, [some (.ref 0), some (.int v0)], [], 0, 0, (mSH, I, L))) rfl (fun c0 => ?_) (fun c0 => ?_)
  · refine mB 2 (s2 := (d + 7, 98, 13, [some (.ref 0), some (.int v0)], [.int (-2), .ref 0], 0, 0, (mSH, I, L))) rfl ?_
    refine mCall (s2 := (d + 6, 103, 0, [some (.ref 0), some (.int (-2))], [], 0, 0, (mSH, I, L))) rfl ?_
    refine mB 2 (s2 := (d + 6, 103, 3, [some (.ref 0), some (.int (-2))], [.int (-2), .int (-2)], 0, 0, (mSH, I, L))) rfl ?_
    refine mBT (s2 := (d + 6, 103, 6, [some (.ref 0), some (.int (-2))], [], 0, 0, (mSH, I, L))) rfl (by decide) ?_
    refine mB 8 (s2 := (d + 6, 103, 49, [some (.ref 0), some (.int (-2))], [.int (-2)], 0, 0, (mSH, (mUp I 0 9 ((I 0 9) + 1)), L))) rfl ?_
    refine mRt (r := (some (.int (-2)))) (h := (mSH, (mUp I 0 9 ((I 0 9) + 1)), L)) rfl (mRet_int rfl) ?_
    show mWP mTb_ mFT ro (d + 7, 98, 16, [some (.ref 0), some (.int v0)], [.int (-2)], 0, 0, (mSH, (mUp I 0 9 ((I 0 9) + 1)), L)) _
    refine mRt (r := (some (.int (-2)))) (h := (mSH, (mUp I 0 9 ((I 0 9) + 1)), L)) rfl (mRet_int rfl) ?_
    exact hq _ _ (mFr.up (by rfl) mFr.rf) ⟨hI.1, hI.2.1, hI.2.2.1, hI.2.2.2.1, hI.2.2.2.2.1, hI.2.2.2.2.2.1, (mRk.up hI.2.2.2.2.2.2 (by rfl) (by rfl))⟩ (mTy1 (n := I 26 1) (c := v0) (by have a0 := of_decide_eq_true c0; simp only [Int32.lt_iff_toInt_lt, Int32.le_iff_toInt_le, ← Int32.toInt_inj, mLi0, mLi1, mLi2, mLi3, mLi4, mLi5, mLi6, mLi7, mLi8, mLi9, mLi10, mLi16, mLi32, mLi48, mLi57, mLi59, mLi65, mLi90, mLi97, mLi99, mLi120, mLi122, mLi127, mLi1584, mLi999999, mLim] at a0 ⊢; omega)).1 (mTy1 (n := I 26 1) (c := v0) (by have a0 := of_decide_eq_true c0; simp only [Int32.lt_iff_toInt_lt, Int32.le_iff_toInt_le, ← Int32.toInt_inj, mLi0, mLi1, mLi2, mLi3, mLi4, mLi5, mLi6, mLi7, mLi8, mLi9, mLi10, mLi16, mLi32, mLi48, mLi57, mLi59, mLi65, mLi90, mLi97, mLi99, mLi120, mLi122, mLi127, mLi1584, mLi999999, mLim] at a0 ⊢; omega)).2 (kTy0 (by have a0 := of_decide_eq_true c0; simp only [Int32.lt_iff_toInt_lt, Int32.le_iff_toInt_le, ← Int32.toInt_inj, mLi0, mLi1, mLi2, mLi3, mLi4, mLi5, mLi6, mLi7, mLi8, mLi9, mLi10, mLi16, mLi32, mLi48, mLi57, mLi59, mLi65, mLi90, mLi97, mLi99, mLi120, mLi122, mLi127, mLi1584, mLi999999, mLim] at a0 <;> omega))
  · refine mB 2 (s2 := (d + 7, 98, 7, [some (.ref 0), some (.int v0)], [.int 127, .int v0], 0, 0, (mSH, I, L))) rfl ?_
    refine mBr (s2 := (d + 7, 98, 17, [some (.ref 0), some (.int v0)], [], 0, 0, (mSH, I, L))) (s3 := (d + 7, 98, 10, [some (.ref 0), some (.int v0)], [], 0, 0, (mSH, I, L))) rfl (fun c1 => ?_) (fun c1 => ?_)
    · refine mB 2 (s2 := (d + 7, 98, 21, [some (.ref 0), some (.int v0)], [.ref 26], 0, 0, (mSH, I, L))) rfl ?_
      refine mCall (s2 := (d + 6, 40, 0, [some (.ref 26)], [], 0, 0, (mSH, I, L))) rfl ?_
      refine mB 5 (s2 := (d + 6, 40, 9, [some (.ref 26)], [.int 120, .int (I 26 1)], 0, 0, (mSH, I, L))) rfl ?_
      refine mBr (s2 := (d + 6, 40, 16, [some (.ref 26)], [], 0, 0, (mSH, I, L))) (s3 := (d + 6, 40, 12, [some (.ref 26)], [], 0, 0, (mSH, I, L))) rfl (fun c2 => ?_) (fun c2 => ?_)
      · refine mB 1 (s2 := (d + 6, 40, 17, [some (.ref 26)], [.int 0], 0, 0, (mSH, I, L))) rfl ?_
        refine mRt (r := (some (.int 0))) (h := (mSH, I, L)) rfl rfl ?_
        show mWP mTb_ mFT ro (d + 7, 98, 24, [some (.ref 0), some (.int v0)], [.int 0], 0, 0, (mSH, I, L)) _
        refine mBT (s2 := (d + 7, 98, 34, [some (.ref 0), some (.int v0)], [], 0, 0, (mSH, I, L))) rfl (by decide) ?_
        refine mB 3 (s2 := (d + 7, 98, 39, [some (.ref 0), some (.int v0)], [.int v0, .ref 26], 0, 0, (mSH, I, L))) rfl ?_
        refine mCall (s2 := (d + 6, 44, 0, [some (.ref 26), some (.int v0)], [], 0, 0, (mSH, I, L))) rfl ?_
        refine mB 1 (s2 := (d + 6, 44, 1, [some (.ref 26), some (.int v0)], [.ref 26], 0, 0, (mSH, I, L))) rfl ?_
        refine mCall (s2 := (d + 5, 40, 0, [some (.ref 26)], [], 0, 0, (mSH, I, L))) rfl ?_
        refine mB 5 (s2 := (d + 5, 40, 9, [some (.ref 26)], [.int 120, .int (I 26 1)], 0, 0, (mSH, I, L))) rfl ?_
        refine mBT (c := decide ((I 26 1) < 120)) (s2 := (d + 5, 40, 16, [some (.ref 26)], [], 0, 0, (mSH, I, L))) rfl (decide_eq_true (by have a0 := of_decide_eq_false c0; have a1 := of_decide_eq_true c1; have a2 := of_decide_eq_true c2; simp only [Int32.lt_iff_toInt_lt, Int32.le_iff_toInt_le, ← Int32.toInt_inj, mLi0, mLi1, mLi2, mLi3, mLi4, mLi5, mLi6, mLi7, mLi8, mLi9, mLi10, mLi16, mLi32, mLi48, mLi57, mLi59, mLi65, mLi90, mLi97, mLi99, mLi120, mLi122, mLi127, mLi1584, mLi999999, mLim] at a0 a1 a2 ⊢; omega)) ?_
        refine mB 1 (s2 := (d + 5, 40, 17, [some (.ref 26)], [.int 0], 0, 0, (mSH, I, L))) rfl ?_
        refine mRt (r := (some (.int 0))) (h := (mSH, I, L)) rfl rfl ?_
        show mWP mTb_ mFT ro (d + 6, 44, 4, [some (.ref 26), some (.int v0)], [.int 0], 0, 0, (mSH, I, L)) _
        refine mBT (s2 := (d + 6, 44, 7, [some (.ref 26), some (.int v0)], [], 0, 0, (mSH, I, L))) rfl (by decide) ?_
        refine mB 5 (s2 := (d + 6, 44, 16, [some (.ref 26), some (.int v0)], [.int v0, .int (I 26 1), .ref 27], 0, 0, (mSH, I, L))) rfl ?_
        refine mRq (s2 := (d + 6, 44, 17, [some (.ref 26), some (.int v0)], [], 0, 0, (mSH, (mUp I 27 ((I 26 1).toNatClampNeg) v0), L))) rfl (mVp_of (mVpC (m := 120) hI.2.2.2.1 (Int32.lt_iff_toInt_lt.mpr (by have a0 := of_decide_eq_true c2; simp only [Int32.lt_iff_toInt_lt, Int32.le_iff_toInt_le, ← Int32.toInt_inj, mLi0, mLi1, mLi2, mLi3, mLi4, mLi5, mLi6, mLi7, mLi8, mLi9, mLi10, mLi16, mLi32, mLi48, mLi57, mLi59, mLi65, mLi90, mLi97, mLi99, mLi120, mLi122, mLi127, mLi1584, mLi999999, mLim] at a0 ⊢; omega)) rfl)) ?_
        refine mB 6 (s2 := (d + 6, 44, 27, [some (.ref 26), some (.int v0)], [], 0, 0, (mSH, (mUp (mUp I 27 ((I 26 1).toNatClampNeg) v0) 26 1 ((I 26 1) + 1)), L))) rfl ?_
        refine mRt (r := none) (h := (mSH, (mUp (mUp I 27 ((I 26 1).toNatClampNeg) v0) 26 1 ((I 26 1) + 1)), L)) rfl rfl ?_
        show mWP mTb_ mFT ro (d + 7, 98, 42, [some (.ref 0), some (.int v0)], [], 0, 0, (mSH, (mUp (mUp I 27 ((I 26 1).toNatClampNeg) v0) 26 1 ((I 26 1) + 1)), L)) _
        refine mB 2 (s2 := (d + 7, 98, 46, [some (.ref 0), some (.int v0)], [.ref 26], 0, 0, (mSH, (mUp (mUp I 27 ((I 26 1).toNatClampNeg) v0) 26 1 ((I 26 1) + 1)), L))) rfl ?_
        refine mCall (s2 := (d + 6, 39, 0, [some (.ref 26)], [], 0, 0, (mSH, (mUp (mUp I 27 ((I 26 1).toNatClampNeg) v0) 26 1 ((I 26 1) + 1)), L))) rfl ?_
        refine mB 2 (s2 := (d + 6, 39, 4, [some (.ref 26)], [.int ((I 26 1) + 1)], 0, 0, (mSH, (mUp (mUp I 27 ((I 26 1).toNatClampNeg) v0) 26 1 ((I 26 1) + 1)), L))) rfl ?_
        refine mRt (r := (some (.int ((I 26 1) + 1)))) (h := (mSH, (mUp (mUp I 27 ((I 26 1).toNatClampNeg) v0) 26 1 ((I 26 1) + 1)), L)) rfl (mRet_int rfl) ?_
        show mWP mTb_ mFT ro (d + 7, 98, 49, [some (.ref 0), some (.int v0)], [.int ((I 26 1) + 1)], 0, 0, (mSH, (mUp (mUp I 27 ((I 26 1).toNatClampNeg) v0) 26 1 ((I 26 1) + 1)), L)) _
        refine mRt (r := (some (.int ((I 26 1) + 1)))) (h := (mSH, (mUp (mUp I 27 ((I 26 1).toNatClampNeg) v0) 26 1 ((I 26 1) + 1)), L)) rfl (mRet_int rfl) ?_
        exact hq _ _ (mFr.up (by rfl) (mFr.up (by rfl) mFr.rf)) ⟨hI.1, hI.2.1, hI.2.2.1, mCn_add hI.2.2.2.1 (m := 120) (Int32.lt_iff_toInt_lt.mpr (by have a0 := of_decide_eq_true c2; simp only [Int32.lt_iff_toInt_lt, Int32.le_iff_toInt_le, ← Int32.toInt_inj, mLi0, mLi1, mLi2, mLi3, mLi4, mLi5, mLi6, mLi7, mLi8, mLi9, mLi10, mLi16, mLi32, mLi48, mLi57, mLi59, mLi65, mLi90, mLi97, mLi99, mLi120, mLi122, mLi127, mLi1584, mLi999999, mLim] at a0 ⊢; omega)) rfl, hI.2.2.2.2.1, hI.2.2.2.2.2.1, hI.2.2.2.2.2.2⟩ (mTy3 (n := I 26 1) (c := v0) (by have a0 := of_decide_eq_false c0; have a1 := of_decide_eq_true c1; simp only [Int32.lt_iff_toInt_lt, Int32.le_iff_toInt_le, ← Int32.toInt_inj, mLi0, mLi1, mLi2, mLi3, mLi4, mLi5, mLi6, mLi7, mLi8, mLi9, mLi10, mLi16, mLi32, mLi48, mLi57, mLi59, mLi65, mLi90, mLi97, mLi99, mLi120, mLi122, mLi127, mLi1584, mLi999999, mLim] at a0 a1 ⊢; omega) (by have a0 := of_decide_eq_true c2; simp only [Int32.lt_iff_toInt_lt, Int32.le_iff_toInt_le, ← Int32.toInt_inj, mLi0, mLi1, mLi2, mLi3, mLi4, mLi5, mLi6, mLi7, mLi8, mLi9, mLi10, mLi16, mLi32, mLi48, mLi57, mLi59, mLi65, mLi90, mLi97, mLi99, mLi120, mLi122, mLi127, mLi1584, mLi999999, mLim] at a0 ⊢; omega)).1 (mTy3 (n := I 26 1) (c := v0) (by have a0 := of_decide_eq_false c0; have a1 := of_decide_eq_true c1; simp only [Int32.lt_iff_toInt_lt, Int32.le_iff_toInt_le, ← Int32.toInt_inj, mLi0, mLi1, mLi2, mLi3, mLi4, mLi5, mLi6, mLi7, mLi8, mLi9, mLi10, mLi16, mLi32, mLi48, mLi57, mLi59, mLi65, mLi90, mLi97, mLi99, mLi120, mLi122, mLi127, mLi1584, mLi999999, mLim] at a0 a1 ⊢; omega) (by have a0 := of_decide_eq_true c2; simp only [Int32.lt_iff_toInt_lt, Int32.le_iff_toInt_le, ← Int32.toInt_inj, mLi0, mLi1, mLi2, mLi3, mLi4, mLi5, mLi6, mLi7, mLi8, mLi9, mLi10, mLi16, mLi32, mLi48, mLi57, mLi59, mLi65, mLi90, mLi97, mLi99, mLi120, mLi122, mLi127, mLi1584, mLi999999, mLim] at a0 ⊢; omega)).2 ((kPut_e (I := I) (c := 27) (J := (I 26 1).toNatClampNeg) (v := v0)).trans (kTy1 (n := I 26 1) (c := v0) (f := I 27) (by have a0 := of_decide_eq_false c0; have a1 := of_decide_eq_true c1; have a2 := of_decide_eq_true c2; simp only [Int32.lt_iff_toInt_lt, Int32.le_iff_toInt_le, ← Int32.toInt_inj, mLi0, mLi1, mLi2, mLi3, mLi4, mLi5, mLi6, mLi7, mLi8, mLi9, mLi10, mLi16, mLi32, mLi48, mLi57, mLi59, mLi65, mLi90, mLi97, mLi99, mLi120, mLi122, mLi127, mLi1584, mLi999999, mLim] at a0 a1 a2 <;> omega)))
      · refine mB 2 (s2 := (d + 6, 40, 17, [some (.ref 26)], [.int 1], 0, 0, (mSH, I, L))) rfl ?_
        refine mRt (r := (some (.int 1))) (h := (mSH, I, L)) rfl rfl ?_
        show mWP mTb_ mFT ro (d + 7, 98, 24, [some (.ref 0), some (.int v0)], [.int 1], 0, 0, (mSH, I, L)) _
        refine mBF (s3 := (d + 7, 98, 27, [some (.ref 0), some (.int v0)], [], 0, 0, (mSH, I, L))) rfl (by decide) ?_
        refine mB 2 (s2 := (d + 7, 98, 30, [some (.ref 0), some (.int v0)], [.int (-4), .ref 0], 0, 0, (mSH, I, L))) rfl ?_
        refine mCall (s2 := (d + 6, 103, 0, [some (.ref 0), some (.int (-4))], [], 0, 0, (mSH, I, L))) rfl ?_
        refine mB 2 (s2 := (d + 6, 103, 3, [some (.ref 0), some (.int (-4))], [.int (-2), .int (-4)], 0, 0, (mSH, I, L))) rfl ?_
        refine mBF (s3 := (d + 6, 103, 19, [some (.ref 0), some (.int (-4))], [], 0, 0, (mSH, I, L))) rfl (by decide) ?_
        refine mB 2 (s2 := (d + 6, 103, 22, [some (.ref 0), some (.int (-4))], [.int (-3), .int (-4)], 0, 0, (mSH, I, L))) rfl ?_
        refine mBF (s3 := (d + 6, 103, 38, [some (.ref 0), some (.int (-4))], [], 0, 0, (mSH, I, L))) rfl (by decide) ?_
        refine mB 7 (s2 := (d + 6, 103, 49, [some (.ref 0), some (.int (-4))], [.int (-4)], 0, 0, (mSH, (mUp I 0 11 ((I 0 11) + 1)), L))) rfl ?_
        refine mRt (r := (some (.int (-4)))) (h := (mSH, (mUp I 0 11 ((I 0 11) + 1)), L)) rfl (mRet_int rfl) ?_
        show mWP mTb_ mFT ro (d + 7, 98, 33, [some (.ref 0), some (.int v0)], [.int (-4)], 0, 0, (mSH, (mUp I 0 11 ((I 0 11) + 1)), L)) _
        refine mRt (r := (some (.int (-4)))) (h := (mSH, (mUp I 0 11 ((I 0 11) + 1)), L)) rfl (mRet_int rfl) ?_
        exact hq _ _ (mFr.up (by rfl) mFr.rf) ⟨hI.1, hI.2.1, hI.2.2.1, hI.2.2.2.1, hI.2.2.2.2.1, hI.2.2.2.2.2.1, (mRk.up hI.2.2.2.2.2.2 (by rfl) (by rfl))⟩ (mTy2 (n := I 26 1) (c := v0) (by have a0 := of_decide_eq_false c0; have a1 := of_decide_eq_true c1; simp only [Int32.lt_iff_toInt_lt, Int32.le_iff_toInt_le, ← Int32.toInt_inj, mLi0, mLi1, mLi2, mLi3, mLi4, mLi5, mLi6, mLi7, mLi8, mLi9, mLi10, mLi16, mLi32, mLi48, mLi57, mLi59, mLi65, mLi90, mLi97, mLi99, mLi120, mLi122, mLi127, mLi1584, mLi999999, mLim] at a0 a1 ⊢; omega) (by have a0 := of_decide_eq_false c2; simp only [Int32.lt_iff_toInt_lt, Int32.le_iff_toInt_le, ← Int32.toInt_inj, mLi0, mLi1, mLi2, mLi3, mLi4, mLi5, mLi6, mLi7, mLi8, mLi9, mLi10, mLi16, mLi32, mLi48, mLi57, mLi59, mLi65, mLi90, mLi97, mLi99, mLi120, mLi122, mLi127, mLi1584, mLi999999, mLim] at a0 ⊢; omega)).1 (mTy2 (n := I 26 1) (c := v0) (by have a0 := of_decide_eq_false c0; have a1 := of_decide_eq_true c1; simp only [Int32.lt_iff_toInt_lt, Int32.le_iff_toInt_le, ← Int32.toInt_inj, mLi0, mLi1, mLi2, mLi3, mLi4, mLi5, mLi6, mLi7, mLi8, mLi9, mLi10, mLi16, mLi32, mLi48, mLi57, mLi59, mLi65, mLi90, mLi97, mLi99, mLi120, mLi122, mLi127, mLi1584, mLi999999, mLim] at a0 a1 ⊢; omega) (by have a0 := of_decide_eq_false c2; simp only [Int32.lt_iff_toInt_lt, Int32.le_iff_toInt_le, ← Int32.toInt_inj, mLi0, mLi1, mLi2, mLi3, mLi4, mLi5, mLi6, mLi7, mLi8, mLi9, mLi10, mLi16, mLi32, mLi48, mLi57, mLi59, mLi65, mLi90, mLi97, mLi99, mLi120, mLi122, mLi127, mLi1584, mLi999999, mLim] at a0 ⊢; omega)).2 (kTy0 (by have a0 := of_decide_eq_false c0; have a1 := of_decide_eq_true c1; have a2 := of_decide_eq_false c2; simp only [Int32.lt_iff_toInt_lt, Int32.le_iff_toInt_le, ← Int32.toInt_inj, mLi0, mLi1, mLi2, mLi3, mLi4, mLi5, mLi6, mLi7, mLi8, mLi9, mLi10, mLi16, mLi32, mLi48, mLi57, mLi59, mLi65, mLi90, mLi97, mLi99, mLi120, mLi122, mLi127, mLi1584, mLi999999, mLim] at a0 a1 a2 <;> omega))
    · refine mB 2 (s2 := (d + 7, 98, 13, [some (.ref 0), some (.int v0)], [.int (-2), .ref 0], 0, 0, (mSH, I, L))) rfl ?_
      refine mCall (s2 := (d + 6, 103, 0, [some (.ref 0), some (.int (-2))], [], 0, 0, (mSH, I, L))) rfl ?_
      refine mB 2 (s2 := (d + 6, 103, 3, [some (.ref 0), some (.int (-2))], [.int (-2), .int (-2)], 0, 0, (mSH, I, L))) rfl ?_
      refine mBT (s2 := (d + 6, 103, 6, [some (.ref 0), some (.int (-2))], [], 0, 0, (mSH, I, L))) rfl (by decide) ?_
      refine mB 8 (s2 := (d + 6, 103, 49, [some (.ref 0), some (.int (-2))], [.int (-2)], 0, 0, (mSH, (mUp I 0 9 ((I 0 9) + 1)), L))) rfl ?_
      refine mRt (r := (some (.int (-2)))) (h := (mSH, (mUp I 0 9 ((I 0 9) + 1)), L)) rfl (mRet_int rfl) ?_
      show mWP mTb_ mFT ro (d + 7, 98, 16, [some (.ref 0), some (.int v0)], [.int (-2)], 0, 0, (mSH, (mUp I 0 9 ((I 0 9) + 1)), L)) _
      refine mRt (r := (some (.int (-2)))) (h := (mSH, (mUp I 0 9 ((I 0 9) + 1)), L)) rfl (mRet_int rfl) ?_
      exact hq _ _ (mFr.up (by rfl) mFr.rf) ⟨hI.1, hI.2.1, hI.2.2.1, hI.2.2.2.1, hI.2.2.2.2.1, hI.2.2.2.2.2.1, (mRk.up hI.2.2.2.2.2.2 (by rfl) (by rfl))⟩ (mTy1 (n := I 26 1) (c := v0) (by have a0 := of_decide_eq_false c0; have a1 := of_decide_eq_false c1; simp only [Int32.lt_iff_toInt_lt, Int32.le_iff_toInt_le, ← Int32.toInt_inj, mLi0, mLi1, mLi2, mLi3, mLi4, mLi5, mLi6, mLi7, mLi8, mLi9, mLi10, mLi16, mLi32, mLi48, mLi57, mLi59, mLi65, mLi90, mLi97, mLi99, mLi120, mLi122, mLi127, mLi1584, mLi999999, mLim] at a0 a1 ⊢; omega)).1 (mTy1 (n := I 26 1) (c := v0) (by have a0 := of_decide_eq_false c0; have a1 := of_decide_eq_false c1; simp only [Int32.lt_iff_toInt_lt, Int32.le_iff_toInt_le, ← Int32.toInt_inj, mLi0, mLi1, mLi2, mLi3, mLi4, mLi5, mLi6, mLi7, mLi8, mLi9, mLi10, mLi16, mLi32, mLi48, mLi57, mLi59, mLi65, mLi90, mLi97, mLi99, mLi120, mLi122, mLi127, mLi1584, mLi999999, mLim] at a0 a1 ⊢; omega)).2 (kTy0 (by have a0 := of_decide_eq_false c0; have a1 := of_decide_eq_false c1; simp only [Int32.lt_iff_toInt_lt, Int32.le_iff_toInt_le, ← Int32.toInt_inj, mLi0, mLi1, mLi2, mLi3, mLi4, mLi5, mLi6, mLi7, mLi8, mLi9, mLi10, mLi16, mLi32, mLi48, mLi57, mLi59, mLi65, mLi90, mLi97, mLi99, mLi120, mLi122, mLi127, mLi1584, mLi999999, mLim] at a0 a1 <;> omega))
theorem n_type {ro : Nat → Nat × (Nat → Int32)} {Q : mPo} {d : Nat} {I : Nat → Nat → Int32} {L : Nat → Nat → Int64} {s n t : Nat} {v0 : Int32} (hm : mM s n t I) (hq : ∀ r I1 L1, mXm [34, 39, 40] [11] I I1 → mIM I1 → r = mTyR (I 34 11) v0 → I1 34 11 = mTyN (I 34 11) v0 → I1 40 = kTyF (I 34 11) v0 (I 40) → Q (some (.int r)) (mSH, I1, L1))   : mWP mTb_ mFT ro (d + 5, 149, 0, [some (.ref 34), some (.int v0)], [], 0, 0, (mSH, I, L)) Q := by
  refine mB 3 (s2 := (d + 5, 149, 4, [some (.ref 34), some (.int v0)], [.int 127, .int 0, .int v0], 0, 0, (mSH, I, L))) rfl ?_
  refine mCall (s2 := (d + 4, 112, 0, [some (.int v0), some (.int 0), some (.int 127)], [], 0, 0, (mSH, I, L))) rfl ?_
  refine mB 2 (s2 := (d + 4, 112, 2, [some (.int v0), some (.int 0), some (.int 127)], [.int 0, .int v0], 0, 0, (mSH, I, L))) rfl ?_
  refine mBr (s2 := (d + 4, 112, 14, [some (.int v0), some (.int 0), some (.int 127)], [], 0, 0, (mSH, I, L))) (s3 := (d + 4, 112, 5, [some (.int v0), some (.int 0), some (.int 127)], [], 0, 0, (mSH, I, L))) rfl (fun c0 => ?_) (fun c0 => ?_)
  · refine mB 1 (s2 := (d + 4, 112, 15, [some (.int v0), some (.int 0), some (.int 127)], [.int 0], 0, 0, (mSH, I, L))) rfl ?_
    refine mRt (r := (some (.int 0))) (h := (mSH, I, L)) rfl rfl ?_
    show mWP mTb_ mFT ro (d + 5, 149, 7, [some (.ref 34), some (.int v0)], [.int 0], 0, 0, (mSH, I, L)) _
    refine mBT (s2 := (d + 5, 149, 10, [some (.ref 34), some (.int v0)], [], 0, 0, (mSH, I, L))) rfl (by decide) ?_
    refine mB 2 (s2 := (d + 5, 149, 13, [some (.ref 34), some (.int v0)], [.int (-2), .ref 34], 0, 0, (mSH, I, L))) rfl ?_
    refine mCall (s2 := (d + 4, 113, 0, [some (.ref 34), some (.int (-2))], [], 0, 0, (mSH, I, L))) rfl ?_
    refine mB 6 (s2 := (d + 4, 113, 9, [some (.ref 34), some (.int (-2))], [.int 0, .ref 39, .int 0, .ref 39], 0, 0, (mSH, I, L))) rfl ?_
    refine mRq (s2 := (d + 4, 113, 10, [some (.ref 34), some (.int (-2))], [.int (I 39 0), .int 0, .ref 39], 0, 0, (mSH, I, L))) rfl (by decide) ?_
    refine mB 2 (s2 := (d + 4, 113, 12, [some (.ref 34), some (.int (-2))], [.int ((I 39 0) + 1), .int 0, .ref 39], 0, 0, (mSH, I, L))) rfl ?_
    refine mRq (s2 := (d + 4, 113, 13, [some (.ref 34), some (.int (-2))], [], 0, 0, (mSH, (mUp I 39 0 ((I 39 0) + 1)), L))) rfl (by decide) ?_
    refine mB 1 (s2 := (d + 4, 113, 14, [some (.ref 34), some (.int (-2))], [.int (-2)], 0, 0, (mSH, (mUp I 39 0 ((I 39 0) + 1)), L))) rfl ?_
    refine mRt (r := (some (.int (-2)))) (h := (mSH, (mUp I 39 0 ((I 39 0) + 1)), L)) rfl (mRet_int rfl) ?_
    show mWP mTb_ mFT ro (d + 5, 149, 16, [some (.ref 34), some (.int v0)], [.int (-2)], 0, 0, (mSH, (mUp I 39 0 ((I 39 0) + 1)), L)) _
    refine mRt (r := (some (.int (-2)))) (h := (mSH, (mUp I 39 0 ((I 39 0) + 1)), L)) rfl (mRet_int rfl) ?_
    exact hq _ _ _ (mXm.up (by rfl) (by rfl) mXm.rf) ⟨_, _, _, hm⟩ (mTy1 (n := I 34 11) (c := v0) (by have a0 := of_decide_eq_true c0; simp only [Int32.lt_iff_toInt_lt, Int32.le_iff_toInt_le, ← Int32.toInt_inj, mLi0, mLi1, mLi2, mLi3, mLi4, mLi5, mLi6, mLi7, mLi8, mLi9, mLi10, mLi16, mLi32, mLi48, mLi57, mLi59, mLi65, mLi90, mLi97, mLi99, mLi120, mLi122, mLi127, mLi1584, mLi999999, mLim] at a0 ⊢; omega)).1 (mTy1 (n := I 34 11) (c := v0) (by have a0 := of_decide_eq_true c0; simp only [Int32.lt_iff_toInt_lt, Int32.le_iff_toInt_le, ← Int32.toInt_inj, mLi0, mLi1, mLi2, mLi3, mLi4, mLi5, mLi6, mLi7, mLi8, mLi9, mLi10, mLi16, mLi32, mLi48, mLi57, mLi59, mLi65, mLi90, mLi97, mLi99, mLi120, mLi122, mLi127, mLi1584, mLi999999, mLim] at a0 ⊢; omega)).2 (kTy0 (by have a0 := of_decide_eq_true c0; simp only [Int32.lt_iff_toInt_lt, Int32.le_iff_toInt_le, ← Int32.toInt_inj, mLi0, mLi1, mLi2, mLi3, mLi4, mLi5, mLi6, mLi7, mLi8, mLi9, mLi10, mLi16, mLi32, mLi48, mLi57, mLi59, mLi65, mLi90, mLi97, mLi99, mLi120, mLi122, mLi127, mLi1584, mLi999999, mLim] at a0 <;> omega))
  · refine mB 2 (s2 := (d + 4, 112, 7, [some (.int v0), some (.int 0), some (.int 127)], [.int 127, .int v0], 0, 0, (mSH, I, L))) rfl ?_
    refine mBr (s2 := (d + 4, 112, 14, [some (.int v0), some (.int 0), some (.int 127)], [], 0, 0, (mSH, I, L))) (s3 := (d + 4, 112, 10, [some (.int v0), some (.int 0), some (.int 127)], [], 0, 0, (mSH, I, L))) rfl (fun c1 => ?_) (fun c1 => ?_)
    · refine mB 1 (s2 := (d + 4, 112, 15, [some (.int v0), some (.int 0), some (.int 127)], [.int 0], 0, 0, (mSH, I, L))) rfl ?_
      refine mRt (r := (some (.int 0))) (h := (mSH, I, L)) rfl rfl ?_
      show mWP mTb_ mFT ro (d + 5, 149, 7, [some (.ref 34), some (.int v0)], [.int 0], 0, 0, (mSH, I, L)) _
      refine mBT (s2 := (d + 5, 149, 10, [some (.ref 34), some (.int v0)], [], 0, 0, (mSH, I, L))) rfl (by decide) ?_
      refine mB 2 (s2 := (d + 5, 149, 13, [some (.ref 34), some (.int v0)], [.int (-2), .ref 34], 0, 0, (mSH, I, L))) rfl ?_
      refine mCall (s2 := (d + 4, 113, 0, [some (.ref 34), some (.int (-2))], [], 0, 0, (mSH, I, L))) rfl ?_
      refine mB 6 (s2 := (d + 4, 113, 9, [some (.ref 34), some (.int (-2))], [.int 0, .ref 39, .int 0, .ref 39], 0, 0, (mSH, I, L))) rfl ?_
      refine mRq (s2 := (d + 4, 113, 10, [some (.ref 34), some (.int (-2))], [.int (I 39 0), .int 0, .ref 39], 0, 0, (mSH, I, L))) rfl (by decide) ?_
      refine mB 2 (s2 := (d + 4, 113, 12, [some (.ref 34), some (.int (-2))], [.int ((I 39 0) + 1), .int 0, .ref 39], 0, 0, (mSH, I, L))) rfl ?_
      refine mRq (s2 := (d + 4, 113, 13, [some (.ref 34), some (.int (-2))], [], 0, 0, (mSH, (mUp I 39 0 ((I 39 0) + 1)), L))) rfl (by decide) ?_
      refine mB 1 (s2 := (d + 4, 113, 14, [some (.ref 34), some (.int (-2))], [.int (-2)], 0, 0, (mSH, (mUp I 39 0 ((I 39 0) + 1)), L))) rfl ?_
      refine mRt (r := (some (.int (-2)))) (h := (mSH, (mUp I 39 0 ((I 39 0) + 1)), L)) rfl (mRet_int rfl) ?_
      show mWP mTb_ mFT ro (d + 5, 149, 16, [some (.ref 34), some (.int v0)], [.int (-2)], 0, 0, (mSH, (mUp I 39 0 ((I 39 0) + 1)), L)) _
      refine mRt (r := (some (.int (-2)))) (h := (mSH, (mUp I 39 0 ((I 39 0) + 1)), L)) rfl (mRet_int rfl) ?_
      exact hq _ _ _ (mXm.up (by rfl) (by rfl) mXm.rf) ⟨_, _, _, hm⟩ (mTy1 (n := I 34 11) (c := v0) (by have a0 := of_decide_eq_false c0; have a1 := of_decide_eq_true c1; simp only [Int32.lt_iff_toInt_lt, Int32.le_iff_toInt_le, ← Int32.toInt_inj, mLi0, mLi1, mLi2, mLi3, mLi4, mLi5, mLi6, mLi7, mLi8, mLi9, mLi10, mLi16, mLi32, mLi48, mLi57, mLi59, mLi65, mLi90, mLi97, mLi99, mLi120, mLi122, mLi127, mLi1584, mLi999999, mLim] at a0 a1 ⊢; omega)).1 (mTy1 (n := I 34 11) (c := v0) (by have a0 := of_decide_eq_false c0; have a1 := of_decide_eq_true c1; simp only [Int32.lt_iff_toInt_lt, Int32.le_iff_toInt_le, ← Int32.toInt_inj, mLi0, mLi1, mLi2, mLi3, mLi4, mLi5, mLi6, mLi7, mLi8, mLi9, mLi10, mLi16, mLi32, mLi48, mLi57, mLi59, mLi65, mLi90, mLi97, mLi99, mLi120, mLi122, mLi127, mLi1584, mLi999999, mLim] at a0 a1 ⊢; omega)).2 (kTy0 (by have a0 := of_decide_eq_false c0; have a1 := of_decide_eq_true c1; simp only [Int32.lt_iff_toInt_lt, Int32.le_iff_toInt_le, ← Int32.toInt_inj, mLi0, mLi1, mLi2, mLi3, mLi4, mLi5, mLi6, mLi7, mLi8, mLi9, mLi10, mLi16, mLi32, mLi48, mLi57, mLi59, mLi65, mLi90, mLi97, mLi99, mLi120, mLi122, mLi127, mLi1584, mLi999999, mLim] at a0 a1 <;> omega))
    · refine mB 2 (s2 := (d + 4, 112, 15, [some (.int v0), some (.int 0), some (.int 127)], [.int 1], 0, 0, (mSH, I, L))) rfl ?_
      refine mRt (r := (some (.int 1))) (h := (mSH, I, L)) rfl rfl ?_
      show mWP mTb_ mFT ro (d + 5, 149, 7, [some (.ref 34), some (.int v0)], [.int 1], 0, 0, (mSH, I, L)) _
      refine mBF (s3 := (d + 5, 149, 17, [some (.ref 34), some (.int v0)], [], 0, 0, (mSH, I, L))) rfl (by decide) ?_
      refine mB 3 (s2 := (d + 5, 149, 23, [some (.ref 34), some (.int v0)], [.int 120, .int (I 34 11)], 0, 0, (mSH, I, L))) rfl ?_
      refine mBr (s2 := (d + 5, 149, 26, [some (.ref 34), some (.int v0)], [], 0, 0, (mSH, I, L))) (s3 := (d + 5, 149, 33, [some (.ref 34), some (.int v0)], [], 0, 0, (mSH, I, L))) rfl (fun c2 => ?_) (fun c2 => ?_)
      · refine mB 2 (s2 := (d + 5, 149, 29, [some (.ref 34), some (.int v0)], [.int (-4), .ref 34], 0, 0, (mSH, I, L))) rfl ?_
        refine mCall (s2 := (d + 4, 113, 0, [some (.ref 34), some (.int (-4))], [], 0, 0, (mSH, I, L))) rfl ?_
        refine mB 6 (s2 := (d + 4, 113, 9, [some (.ref 34), some (.int (-4))], [.int 2, .ref 39, .int 2, .ref 39], 0, 0, (mSH, I, L))) rfl ?_
        refine mRq (s2 := (d + 4, 113, 10, [some (.ref 34), some (.int (-4))], [.int (I 39 2), .int 2, .ref 39], 0, 0, (mSH, I, L))) rfl (by decide) ?_
        refine mB 2 (s2 := (d + 4, 113, 12, [some (.ref 34), some (.int (-4))], [.int ((I 39 2) + 1), .int 2, .ref 39], 0, 0, (mSH, I, L))) rfl ?_
        refine mRq (s2 := (d + 4, 113, 13, [some (.ref 34), some (.int (-4))], [], 0, 0, (mSH, (mUp I 39 2 ((I 39 2) + 1)), L))) rfl (by decide) ?_
        refine mB 1 (s2 := (d + 4, 113, 14, [some (.ref 34), some (.int (-4))], [.int (-4)], 0, 0, (mSH, (mUp I 39 2 ((I 39 2) + 1)), L))) rfl ?_
        refine mRt (r := (some (.int (-4)))) (h := (mSH, (mUp I 39 2 ((I 39 2) + 1)), L)) rfl (mRet_int rfl) ?_
        show mWP mTb_ mFT ro (d + 5, 149, 32, [some (.ref 34), some (.int v0)], [.int (-4)], 0, 0, (mSH, (mUp I 39 2 ((I 39 2) + 1)), L)) _
        refine mRt (r := (some (.int (-4)))) (h := (mSH, (mUp I 39 2 ((I 39 2) + 1)), L)) rfl (mRet_int rfl) ?_
        exact hq _ _ _ (mXm.up (by rfl) (by rfl) mXm.rf) ⟨_, _, _, hm⟩ (mTy2 (n := I 34 11) (c := v0) (by have a0 := of_decide_eq_false c0; have a1 := of_decide_eq_false c1; simp only [Int32.lt_iff_toInt_lt, Int32.le_iff_toInt_le, ← Int32.toInt_inj, mLi0, mLi1, mLi2, mLi3, mLi4, mLi5, mLi6, mLi7, mLi8, mLi9, mLi10, mLi16, mLi32, mLi48, mLi57, mLi59, mLi65, mLi90, mLi97, mLi99, mLi120, mLi122, mLi127, mLi1584, mLi999999, mLim] at a0 a1 ⊢; omega) (by rw [(of_decide_eq_true c2)]; decide)).1 (mTy2 (n := I 34 11) (c := v0) (by have a0 := of_decide_eq_false c0; have a1 := of_decide_eq_false c1; simp only [Int32.lt_iff_toInt_lt, Int32.le_iff_toInt_le, ← Int32.toInt_inj, mLi0, mLi1, mLi2, mLi3, mLi4, mLi5, mLi6, mLi7, mLi8, mLi9, mLi10, mLi16, mLi32, mLi48, mLi57, mLi59, mLi65, mLi90, mLi97, mLi99, mLi120, mLi122, mLi127, mLi1584, mLi999999, mLim] at a0 a1 ⊢; omega) (by rw [(of_decide_eq_true c2)]; decide)).2 (kTy0 (by have b0 : (I 34 11).toInt = 120 := (by have z := of_decide_eq_true c2; rw [z]; rfl); have a0 := of_decide_eq_false c0; have a1 := of_decide_eq_false c1; simp only [Int32.lt_iff_toInt_lt, Int32.le_iff_toInt_le, ← Int32.toInt_inj, mLi0, mLi1, mLi2, mLi3, mLi4, mLi5, mLi6, mLi7, mLi8, mLi9, mLi10, mLi16, mLi32, mLi48, mLi57, mLi59, mLi65, mLi90, mLi97, mLi99, mLi120, mLi122, mLi127, mLi1584, mLi999999, mLim] at a0 a1 <;> omega))
      · refine mB 5 (s2 := (d + 5, 149, 42, [some (.ref 34), some (.int v0)], [.int v0, .int (I 34 11), .ref 40], 0, 0, (mSH, I, L))) rfl ?_
        refine mRq (s2 := (d + 5, 149, 43, [some (.ref 34), some (.int v0)], [], 0, 0, (mSH, (mUp I 40 ((I 34 11).toNatClampNeg) v0), L))) rfl (mVp_of (by rw [hm.2.2.1.1]; exact vp_in_nI (mLtn (N := 120) hm.2.2.1.1 hm.2.2.1.2 (by omega) (of_decide_eq_false c2)) (by omega))) ?_
        refine mB 8 (s2 := (d + 5, 149, 57, [some (.ref 34), some (.int v0)], [.int ((I 34 11) + 1)], 0, 0, (mSH, (mUp (mUp I 40 ((I 34 11).toNatClampNeg) v0) 34 11 ((I 34 11) + 1)), L))) rfl ?_
        refine mRt (r := (some (.int ((I 34 11) + 1)))) (h := (mSH, (mUp (mUp I 40 ((I 34 11).toNatClampNeg) v0) 34 11 ((I 34 11) + 1)), L)) rfl (mRet_int rfl) ?_
        exact hq _ _ _ (mXm.uf (by rfl) (by rfl) (mXm.up (by rfl) (by rfl) mXm.rf)) ⟨_, _, _, mM.typ hm (mLtn (N := 120) hm.2.2.1.1 hm.2.2.1.2 (by omega) (of_decide_eq_false c2))⟩ (mTy3 (n := I 34 11) (c := v0) (by have a0 := of_decide_eq_false c0; have a1 := of_decide_eq_false c1; simp only [Int32.lt_iff_toInt_lt, Int32.le_iff_toInt_le, ← Int32.toInt_inj, mLi0, mLi1, mLi2, mLi3, mLi4, mLi5, mLi6, mLi7, mLi8, mLi9, mLi10, mLi16, mLi32, mLi48, mLi57, mLi59, mLi65, mLi90, mLi97, mLi99, mLi120, mLi122, mLi127, mLi1584, mLi999999, mLim] at a0 a1 ⊢; omega) (by have z := (mLtn (N := 120) hm.2.2.1.1 hm.2.2.1.2 (by omega) (of_decide_eq_false c2)); have y := mTiS hm.2.2.1.1 hm.2.2.1.2; omega)).1 (mTy3 (n := I 34 11) (c := v0) (by have a0 := of_decide_eq_false c0; have a1 := of_decide_eq_false c1; simp only [Int32.lt_iff_toInt_lt, Int32.le_iff_toInt_le, ← Int32.toInt_inj, mLi0, mLi1, mLi2, mLi3, mLi4, mLi5, mLi6, mLi7, mLi8, mLi9, mLi10, mLi16, mLi32, mLi48, mLi57, mLi59, mLi65, mLi90, mLi97, mLi99, mLi120, mLi122, mLi127, mLi1584, mLi999999, mLim] at a0 a1 ⊢; omega) (by have z := (mLtn (N := 120) hm.2.2.1.1 hm.2.2.1.2 (by omega) (of_decide_eq_false c2)); have y := mTiS hm.2.2.1.1 hm.2.2.1.2; omega)).2 ((kPut_e (I := I) (c := 40) (J := (I 34 11).toNatClampNeg) (v := v0)).trans (kTy1 (n := I 34 11) (c := v0) (f := I 40) ⟨(show 0 ≤ v0.toInt ∧ v0.toInt ≤ 127 from (by have a0 := of_decide_eq_false c0; have a1 := of_decide_eq_false c1; simp only [Int32.lt_iff_toInt_lt, Int32.le_iff_toInt_le, ← Int32.toInt_inj, mLi0, mLi1, mLi2, mLi3, mLi4, mLi5, mLi6, mLi7, mLi8, mLi9, mLi10, mLi16, mLi32, mLi48, mLi57, mLi59, mLi65, mLi90, mLi97, mLi99, mLi120, mLi122, mLi127, mLi1584, mLi999999, mLim] at a0 a1 ⊢; omega)).1, (show 0 ≤ v0.toInt ∧ v0.toInt ≤ 127 from (by have a0 := of_decide_eq_false c0; have a1 := of_decide_eq_false c1; simp only [Int32.lt_iff_toInt_lt, Int32.le_iff_toInt_le, ← Int32.toInt_inj, mLi0, mLi1, mLi2, mLi3, mLi4, mLi5, mLi6, mLi7, mLi8, mLi9, mLi10, mLi16, mLi32, mLi48, mLi57, mLi59, mLi65, mLi90, mLi97, mLi99, mLi120, mLi122, mLi127, mLi1584, mLi999999, mLim] at a0 a1 ⊢; omega)).2, (by have z := (mLtn (N := 120) hm.2.2.1.1 hm.2.2.1.2 (by omega) (of_decide_eq_false c2)); have y := mTiS hm.2.2.1.1 hm.2.2.1.2; omega)⟩))
theorem n_clear {ro : Nat → Nat × (Nat → Int32)} {Q : mPo} {d : Nat} {I : Nat → Nat → Int32} {L : Nat → Nat → Int64} {s n t : Nat} (hm : mM s n t I) (hq : ∀ r I1 L1, mXm [34] [11] I I1 → mIM I1 → r = I 34 11 → I1 34 11 = 0 → Q (some (.int r)) (mSH, I1, L1))   : mWP mTb_ mFT ro (d + 5, 150, 0, [some (.ref 34), none], [], 0, 0, (mSH, I, L)) Q := by
  refine mB 7 (s2 := (d + 5, 150, 11, [some (.ref 34), some (.int (I 34 11))], [.int (I 34 11)], 0, 0, (mSH, (mUp I 34 11 0), L))) rfl ?_
  refine mRt (r := (some (.int (I 34 11)))) (h := (mSH, (mUp I 34 11 0), L)) rfl (mRet_int rfl) ?_
  exact hq _ _ _ (mXm.uf (by rfl) (by rfl) mXm.rf) ⟨_, _, _, mM.clr hm⟩ rfl rfl
theorem n_judge {ro : Nat → Nat × (Nat → Int32)} {Q : mPo} {d : Nat} {I : Nat → Nat → Int32} {L : Nat → Nat → Int64} {s n t : Nat} {v0 v1 : Int32} (hm : mM s n t I) (hq : ∀ r I1 L1, mXm [38, 39] [] I I1 → mIM I1 → r = mJdR (I 38) v0 v1 → (∀ j, I1 38 j = mJdN (I 38) v0 v1 j) → Q (some (.int r)) (mSH, I1, L1))   : mWP mTb_ mFT ro (d + 5, 123, 0, [some (.ref 34), some (.int v0), some (.int v1), none], [], 0, 0, (mSH, I, L)) Q := by
  refine mB 3 (s2 := (d + 5, 123, 3, [some (.ref 34), some (.int v0), some (.int v1), none], [.int 2, .int 0, .int v0], 0, 0, (mSH, I, L))) rfl ?_
  refine mCall (s2 := (d + 4, 112, 0, [some (.int v0), some (.int 0), some (.int 2)], [], 0, 0, (mSH, I, L))) rfl ?_
  refine mB 2 (s2 := (d + 4, 112, 2, [some (.int v0), some (.int 0), some (.int 2)], [.int 0, .int v0], 0, 0, (mSH, I, L))) rfl ?_
  refine mBr (s2 := (d + 4, 112, 14, [some (.int v0), some (.int 0), some (.int 2)], [], 0, 0, (mSH, I, L))) (s3 := (d + 4, 112, 5, [some (.int v0), some (.int 0), some (.int 2)], [], 0, 0, (mSH, I, L))) rfl (fun c0 => ?_) (fun c0 => ?_)
  · refine mB 1 (s2 := (d + 4, 112, 15, [some (.int v0), some (.int 0), some (.int 2)], [.int 0], 0, 0, (mSH, I, L))) rfl ?_
    refine mRt (r := (some (.int 0))) (h := (mSH, I, L)) rfl rfl ?_
    show mWP mTb_ mFT ro (d + 5, 123, 6, [some (.ref 34), some (.int v0), some (.int v1), none], [.int 0], 0, 0, (mSH, I, L)) _
    refine mBT (s2 := (d + 5, 123, 46, [some (.ref 34), some (.int v0), some (.int v1), none], [], 0, 0, (mSH, I, L))) rfl (by decide) ?_
    refine mB 2 (s2 := (d + 5, 123, 49, [some (.ref 34), some (.int v0), some (.int v1), none], [.int (-2), .ref 34], 0, 0, (mSH, I, L))) rfl ?_
    refine mCall (s2 := (d + 4, 113, 0, [some (.ref 34), some (.int (-2))], [], 0, 0, (mSH, I, L))) rfl ?_
    refine mB 6 (s2 := (d + 4, 113, 9, [some (.ref 34), some (.int (-2))], [.int 0, .ref 39, .int 0, .ref 39], 0, 0, (mSH, I, L))) rfl ?_
    refine mRq (s2 := (d + 4, 113, 10, [some (.ref 34), some (.int (-2))], [.int (I 39 0), .int 0, .ref 39], 0, 0, (mSH, I, L))) rfl (by decide) ?_
    refine mB 2 (s2 := (d + 4, 113, 12, [some (.ref 34), some (.int (-2))], [.int ((I 39 0) + 1), .int 0, .ref 39], 0, 0, (mSH, I, L))) rfl ?_
    refine mRq (s2 := (d + 4, 113, 13, [some (.ref 34), some (.int (-2))], [], 0, 0, (mSH, (mUp I 39 0 ((I 39 0) + 1)), L))) rfl (by decide) ?_
    refine mB 1 (s2 := (d + 4, 113, 14, [some (.ref 34), some (.int (-2))], [.int (-2)], 0, 0, (mSH, (mUp I 39 0 ((I 39 0) + 1)), L))) rfl ?_
    refine mRt (r := (some (.int (-2)))) (h := (mSH, (mUp I 39 0 ((I 39 0) + 1)), L)) rfl (mRet_int rfl) ?_
    show mWP mTb_ mFT ro (d + 5, 123, 52, [some (.ref 34), some (.int v0), some (.int v1), none], [.int (-2)], 0, 0, (mSH, (mUp I 39 0 ((I 39 0) + 1)), L)) _
    refine mRt (r := (some (.int (-2)))) (h := (mSH, (mUp I 39 0 ((I 39 0) + 1)), L)) rfl (mRet_int rfl) ?_
    exact hq _ _ _ (mXm.up (by rfl) (by rfl) mXm.rf) ⟨_, _, _, hm⟩ (if_neg (by have a0 := of_decide_eq_true c0; simp only [Int32.lt_iff_toInt_lt, Int32.le_iff_toInt_le, ← Int32.toInt_inj, mLi0, mLi1, mLi2, mLi3, mLi4, mLi5, mLi6, mLi7, mLi8, mLi9, mLi10, mLi16, mLi32, mLi48, mLi57, mLi59, mLi65, mLi90, mLi97, mLi99, mLi120, mLi122, mLi127, mLi1584, mLi999999, mLim] at a0 ⊢; omega)).symm (mJd0 (by have a0 := of_decide_eq_true c0; simp only [Int32.lt_iff_toInt_lt, Int32.le_iff_toInt_le, ← Int32.toInt_inj, mLi0, mLi1, mLi2, mLi3, mLi4, mLi5, mLi6, mLi7, mLi8, mLi9, mLi10, mLi16, mLi32, mLi48, mLi57, mLi59, mLi65, mLi90, mLi97, mLi99, mLi120, mLi122, mLi127, mLi1584, mLi999999, mLim] at a0 ⊢; omega))
  · refine mB 2 (s2 := (d + 4, 112, 7, [some (.int v0), some (.int 0), some (.int 2)], [.int 2, .int v0], 0, 0, (mSH, I, L))) rfl ?_
    refine mBr (s2 := (d + 4, 112, 14, [some (.int v0), some (.int 0), some (.int 2)], [], 0, 0, (mSH, I, L))) (s3 := (d + 4, 112, 10, [some (.int v0), some (.int 0), some (.int 2)], [], 0, 0, (mSH, I, L))) rfl (fun c1 => ?_) (fun c1 => ?_)
    · refine mB 1 (s2 := (d + 4, 112, 15, [some (.int v0), some (.int 0), some (.int 2)], [.int 0], 0, 0, (mSH, I, L))) rfl ?_
      refine mRt (r := (some (.int 0))) (h := (mSH, I, L)) rfl rfl ?_
      show mWP mTb_ mFT ro (d + 5, 123, 6, [some (.ref 34), some (.int v0), some (.int v1), none], [.int 0], 0, 0, (mSH, I, L)) _
      refine mBT (s2 := (d + 5, 123, 46, [some (.ref 34), some (.int v0), some (.int v1), none], [], 0, 0, (mSH, I, L))) rfl (by decide) ?_
      refine mB 2 (s2 := (d + 5, 123, 49, [some (.ref 34), some (.int v0), some (.int v1), none], [.int (-2), .ref 34], 0, 0, (mSH, I, L))) rfl ?_
      refine mCall (s2 := (d + 4, 113, 0, [some (.ref 34), some (.int (-2))], [], 0, 0, (mSH, I, L))) rfl ?_
      refine mB 6 (s2 := (d + 4, 113, 9, [some (.ref 34), some (.int (-2))], [.int 0, .ref 39, .int 0, .ref 39], 0, 0, (mSH, I, L))) rfl ?_
      refine mRq (s2 := (d + 4, 113, 10, [some (.ref 34), some (.int (-2))], [.int (I 39 0), .int 0, .ref 39], 0, 0, (mSH, I, L))) rfl (by decide) ?_
      refine mB 2 (s2 := (d + 4, 113, 12, [some (.ref 34), some (.int (-2))], [.int ((I 39 0) + 1), .int 0, .ref 39], 0, 0, (mSH, I, L))) rfl ?_
      refine mRq (s2 := (d + 4, 113, 13, [some (.ref 34), some (.int (-2))], [], 0, 0, (mSH, (mUp I 39 0 ((I 39 0) + 1)), L))) rfl (by decide) ?_
      refine mB 1 (s2 := (d + 4, 113, 14, [some (.ref 34), some (.int (-2))], [.int (-2)], 0, 0, (mSH, (mUp I 39 0 ((I 39 0) + 1)), L))) rfl ?_
      refine mRt (r := (some (.int (-2)))) (h := (mSH, (mUp I 39 0 ((I 39 0) + 1)), L)) rfl (mRet_int rfl) ?_
      show mWP mTb_ mFT ro (d + 5, 123, 52, [some (.ref 34), some (.int v0), some (.int v1), none], [.int (-2)], 0, 0, (mSH, (mUp I 39 0 ((I 39 0) + 1)), L)) _
      refine mRt (r := (some (.int (-2)))) (h := (mSH, (mUp I 39 0 ((I 39 0) + 1)), L)) rfl (mRet_int rfl) ?_
      exact hq _ _ _ (mXm.up (by rfl) (by rfl) mXm.rf) ⟨_, _, _, hm⟩ (if_neg (by have a0 := of_decide_eq_false c0; have a1 := of_decide_eq_true c1; simp only [Int32.lt_iff_toInt_lt, Int32.le_iff_toInt_le, ← Int32.toInt_inj, mLi0, mLi1, mLi2, mLi3, mLi4, mLi5, mLi6, mLi7, mLi8, mLi9, mLi10, mLi16, mLi32, mLi48, mLi57, mLi59, mLi65, mLi90, mLi97, mLi99, mLi120, mLi122, mLi127, mLi1584, mLi999999, mLim] at a0 a1 ⊢; omega)).symm (mJd0 (by have a0 := of_decide_eq_false c0; have a1 := of_decide_eq_true c1; simp only [Int32.lt_iff_toInt_lt, Int32.le_iff_toInt_le, ← Int32.toInt_inj, mLi0, mLi1, mLi2, mLi3, mLi4, mLi5, mLi6, mLi7, mLi8, mLi9, mLi10, mLi16, mLi32, mLi48, mLi57, mLi59, mLi65, mLi90, mLi97, mLi99, mLi120, mLi122, mLi127, mLi1584, mLi999999, mLim] at a0 a1 ⊢; omega))
    · refine mB 2 (s2 := (d + 4, 112, 15, [some (.int v0), some (.int 0), some (.int 2)], [.int 1], 0, 0, (mSH, I, L))) rfl ?_
      refine mRt (r := (some (.int 1))) (h := (mSH, I, L)) rfl rfl ?_
      show mWP mTb_ mFT ro (d + 5, 123, 6, [some (.ref 34), some (.int v0), some (.int v1), none], [.int 1], 0, 0, (mSH, I, L)) _
      refine mBF (s3 := (d + 5, 123, 9, [some (.ref 34), some (.int v0), some (.int v1), none], [], 0, 0, (mSH, I, L))) rfl (by decide) ?_
      refine mB 3 (s2 := (d + 5, 123, 12, [some (.ref 34), some (.int v0), some (.int v1), none], [.int 1, .int v0, .int v1], 0, 0, (mSH, I, L))) rfl ?_
      refine mBr (s2 := (d + 5, 123, 15, [some (.ref 34), some (.int v0), some (.int v1), none], [.int v1], 0, 0, (mSH, I, L))) (s3 := (d + 5, 123, 19, [some (.ref 34), some (.int v0), some (.int v1), none], [.int v1], 0, 0, (mSH, I, L))) rfl (fun c2 => ?_) (fun c2 => ?_)
      · refine mB 3 (s2 := (d + 5, 123, 21, [some (.ref 34), some (.int v0), some (.int v1), none], [.int v0, .int 1, .int v1], 0, 0, (mSH, I, L))) rfl ?_
        refine mBF (s3 := (d + 5, 123, 28, [some (.ref 34), some (.int v0), some (.int v1), none], [.int 1, .int v1], 0, 0, (mSH, I, L))) rfl (by first | (simp only [of_decide_eq_true c2]; first | decide | rfl) | decide | rfl) ?_
        refine mB 2 (s2 := (d + 5, 123, 30, [some (.ref 34), some (.int v0), some (.int v1), none], [.int 1, .int v0, .int 1, .int v1], 0, 0, (mSH, I, L))) rfl ?_
        refine mBT (s2 := (d + 5, 123, 33, [some (.ref 34), some (.int v0), some (.int v1), none], [.int 1, .int v1], 0, 0, (mSH, I, L))) rfl (by first | (simp only [of_decide_eq_true c2]; first | decide | rfl) | decide | rfl) ?_
        refine mB 2 (s2 := (d + 5, 123, 40, [some (.ref 34), some (.int v0), some (.int v1), none], [.int 9, .int 1, .int v1], 0, 0, (mSH, I, L))) rfl ?_
        refine mCall (s2 := (d + 4, 112, 0, [some (.int v1), some (.int 1), some (.int 9)], [], 0, 0, (mSH, I, L))) rfl ?_
        refine mB 2 (s2 := (d + 4, 112, 2, [some (.int v1), some (.int 1), some (.int 9)], [.int 1, .int v1], 0, 0, (mSH, I, L))) rfl ?_
        refine mBr (s2 := (d + 4, 112, 14, [some (.int v1), some (.int 1), some (.int 9)], [], 0, 0, (mSH, I, L))) (s3 := (d + 4, 112, 5, [some (.int v1), some (.int 1), some (.int 9)], [], 0, 0, (mSH, I, L))) rfl (fun c3 => ?_) (fun c3 => ?_)
        · refine mB 1 (s2 := (d + 4, 112, 15, [some (.int v1), some (.int 1), some (.int 9)], [.int 0], 0, 0, (mSH, I, L))) rfl ?_
          refine mRt (r := (some (.int 0))) (h := (mSH, I, L)) rfl rfl ?_
          show mWP mTb_ mFT ro (d + 5, 123, 43, [some (.ref 34), some (.int v0), some (.int v1), none], [.int 0], 0, 0, (mSH, I, L)) _
          refine mBT (s2 := (d + 5, 123, 46, [some (.ref 34), some (.int v0), some (.int v1), none], [], 0, 0, (mSH, I, L))) rfl (by decide) ?_
          refine mB 2 (s2 := (d + 5, 123, 49, [some (.ref 34), some (.int v0), some (.int v1), none], [.int (-2), .ref 34], 0, 0, (mSH, I, L))) rfl ?_
          refine mCall (s2 := (d + 4, 113, 0, [some (.ref 34), some (.int (-2))], [], 0, 0, (mSH, I, L))) rfl ?_
          refine mB 6 (s2 := (d + 4, 113, 9, [some (.ref 34), some (.int (-2))], [.int 0, .ref 39, .int 0, .ref 39], 0, 0, (mSH, I, L))) rfl ?_
          refine mRq (s2 := (d + 4, 113, 10, [some (.ref 34), some (.int (-2))], [.int (I 39 0), .int 0, .ref 39], 0, 0, (mSH, I, L))) rfl (by decide) ?_
          refine mB 2 (s2 := (d + 4, 113, 12, [some (.ref 34), some (.int (-2))], [.int ((I 39 0) + 1), .int 0, .ref 39], 0, 0, (mSH, I, L))) rfl ?_
          refine mRq (s2 := (d + 4, 113, 13, [some (.ref 34), some (.int (-2))], [], 0, 0, (mSH, (mUp I 39 0 ((I 39 0) + 1)), L))) rfl (by decide) ?_
          refine mB 1 (s2 := (d + 4, 113, 14, [some (.ref 34), some (.int (-2))], [.int (-2)], 0, 0, (mSH, (mUp I 39 0 ((I 39 0) + 1)), L))) rfl ?_
          refine mRt (r := (some (.int (-2)))) (h := (mSH, (mUp I 39 0 ((I 39 0) + 1)), L)) rfl (mRet_int rfl) ?_
          show mWP mTb_ mFT ro (d + 5, 123, 52, [some (.ref 34), some (.int v0), some (.int v1), none], [.int (-2)], 0, 0, (mSH, (mUp I 39 0 ((I 39 0) + 1)), L)) _
          refine mRt (r := (some (.int (-2)))) (h := (mSH, (mUp I 39 0 ((I 39 0) + 1)), L)) rfl (mRet_int rfl) ?_
          exact hq _ _ _ (mXm.up (by rfl) (by rfl) mXm.rf) ⟨_, _, _, hm⟩ (if_neg (by have a0 := of_decide_eq_false c0; have a1 := of_decide_eq_false c1; have a2 := of_decide_eq_true c2; have a3 := of_decide_eq_true c3; simp only [Int32.lt_iff_toInt_lt, Int32.le_iff_toInt_le, ← Int32.toInt_inj, mLi0, mLi1, mLi2, mLi3, mLi4, mLi5, mLi6, mLi7, mLi8, mLi9, mLi10, mLi16, mLi32, mLi48, mLi57, mLi59, mLi65, mLi90, mLi97, mLi99, mLi120, mLi122, mLi127, mLi1584, mLi999999, mLim] at a0 a1 a2 a3 ⊢; omega)).symm (mJd0 (by have a0 := of_decide_eq_false c0; have a1 := of_decide_eq_false c1; have a2 := of_decide_eq_true c2; have a3 := of_decide_eq_true c3; simp only [Int32.lt_iff_toInt_lt, Int32.le_iff_toInt_le, ← Int32.toInt_inj, mLi0, mLi1, mLi2, mLi3, mLi4, mLi5, mLi6, mLi7, mLi8, mLi9, mLi10, mLi16, mLi32, mLi48, mLi57, mLi59, mLi65, mLi90, mLi97, mLi99, mLi120, mLi122, mLi127, mLi1584, mLi999999, mLim] at a0 a1 a2 a3 ⊢; omega))
        · refine mB 2 (s2 := (d + 4, 112, 7, [some (.int v1), some (.int 1), some (.int 9)], [.int 9, .int v1], 0, 0, (mSH, I, L))) rfl ?_
          refine mBr (s2 := (d + 4, 112, 14, [some (.int v1), some (.int 1), some (.int 9)], [], 0, 0, (mSH, I, L))) (s3 := (d + 4, 112, 10, [some (.int v1), some (.int 1), some (.int 9)], [], 0, 0, (mSH, I, L))) rfl (fun c4 => ?_) (fun c4 => ?_)
          · refine mB 1 (s2 := (d + 4, 112, 15, [some (.int v1), some (.int 1), some (.int 9)], [.int 0], 0, 0, (mSH, I, L))) rfl ?_
            refine mRt (r := (some (.int 0))) (h := (mSH, I, L)) rfl rfl ?_
            show mWP mTb_ mFT ro (d + 5, 123, 43, [some (.ref 34), some (.int v0), some (.int v1), none], [.int 0], 0, 0, (mSH, I, L)) _
            refine mBT (s2 := (d + 5, 123, 46, [some (.ref 34), some (.int v0), some (.int v1), none], [], 0, 0, (mSH, I, L))) rfl (by decide) ?_
            refine mB 2 (s2 := (d + 5, 123, 49, [some (.ref 34), some (.int v0), some (.int v1), none], [.int (-2), .ref 34], 0, 0, (mSH, I, L))) rfl ?_
            refine mCall (s2 := (d + 4, 113, 0, [some (.ref 34), some (.int (-2))], [], 0, 0, (mSH, I, L))) rfl ?_
            refine mB 6 (s2 := (d + 4, 113, 9, [some (.ref 34), some (.int (-2))], [.int 0, .ref 39, .int 0, .ref 39], 0, 0, (mSH, I, L))) rfl ?_
            refine mRq (s2 := (d + 4, 113, 10, [some (.ref 34), some (.int (-2))], [.int (I 39 0), .int 0, .ref 39], 0, 0, (mSH, I, L))) rfl (by decide) ?_
            refine mB 2 (s2 := (d + 4, 113, 12, [some (.ref 34), some (.int (-2))], [.int ((I 39 0) + 1), .int 0, .ref 39], 0, 0, (mSH, I, L))) rfl ?_
            refine mRq (s2 := (d + 4, 113, 13, [some (.ref 34), some (.int (-2))], [], 0, 0, (mSH, (mUp I 39 0 ((I 39 0) + 1)), L))) rfl (by decide) ?_
            refine mB 1 (s2 := (d + 4, 113, 14, [some (.ref 34), some (.int (-2))], [.int (-2)], 0, 0, (mSH, (mUp I 39 0 ((I 39 0) + 1)), L))) rfl ?_
            refine mRt (r := (some (.int (-2)))) (h := (mSH, (mUp I 39 0 ((I 39 0) + 1)), L)) rfl (mRet_int rfl) ?_
            show mWP mTb_ mFT ro (d + 5, 123, 52, [some (.ref 34), some (.int v0), some (.int v1), none], [.int (-2)], 0, 0, (mSH, (mUp I 39 0 ((I 39 0) + 1)), L)) _
            refine mRt (r := (some (.int (-2)))) (h := (mSH, (mUp I 39 0 ((I 39 0) + 1)), L)) rfl (mRet_int rfl) ?_
            exact hq _ _ _ (mXm.up (by rfl) (by rfl) mXm.rf) ⟨_, _, _, hm⟩ (if_neg (by have a0 := of_decide_eq_false c0; have a1 := of_decide_eq_false c1; have a2 := of_decide_eq_true c2; have a3 := of_decide_eq_false c3; have a4 := of_decide_eq_true c4; simp only [Int32.lt_iff_toInt_lt, Int32.le_iff_toInt_le, ← Int32.toInt_inj, mLi0, mLi1, mLi2, mLi3, mLi4, mLi5, mLi6, mLi7, mLi8, mLi9, mLi10, mLi16, mLi32, mLi48, mLi57, mLi59, mLi65, mLi90, mLi97, mLi99, mLi120, mLi122, mLi127, mLi1584, mLi999999, mLim] at a0 a1 a2 a3 a4 ⊢; omega)).symm (mJd0 (by have a0 := of_decide_eq_false c0; have a1 := of_decide_eq_false c1; have a2 := of_decide_eq_true c2; have a3 := of_decide_eq_false c3; have a4 := of_decide_eq_true c4; simp only [Int32.lt_iff_toInt_lt, Int32.le_iff_toInt_le, ← Int32.toInt_inj, mLi0, mLi1, mLi2, mLi3, mLi4, mLi5, mLi6, mLi7, mLi8, mLi9, mLi10, mLi16, mLi32, mLi48, mLi57, mLi59, mLi65, mLi90, mLi97, mLi99, mLi120, mLi122, mLi127, mLi1584, mLi999999, mLim] at a0 a1 a2 a3 a4 ⊢; omega))
          · refine mB 2 (s2 := (d + 4, 112, 15, [some (.int v1), some (.int 1), some (.int 9)], [.int 1], 0, 0, (mSH, I, L))) rfl ?_
            refine mRt (r := (some (.int 1))) (h := (mSH, I, L)) rfl rfl ?_
            show mWP mTb_ mFT ro (d + 5, 123, 43, [some (.ref 34), some (.int v0), some (.int v1), none], [.int 1], 0, 0, (mSH, I, L)) _
            refine mBF (s3 := (d + 5, 123, 53, [some (.ref 34), some (.int v0), some (.int v1), none], [], 0, 0, (mSH, I, L))) rfl (by decide) ?_
            refine mB 3 (s2 := (d + 5, 123, 58, [some (.ref 34), some (.int v0), some (.int v1), none], [.int v0, .ref 38], 0, 0, (mSH, I, L))) rfl ?_
            refine mRq (s2 := (d + 5, 123, 59, [some (.ref 34), some (.int v0), some (.int v1), none], [.int (I 38 v0.toNatClampNeg)], 0, 0, (mSH, I, L))) rfl (by first | (simp only [of_decide_eq_true c2]; first | decide | rfl) | decide | rfl) ?_
            refine mB 5 (s2 := (d + 5, 123, 66, [some (.ref 34), some (.int v0), some (.int v1), some (.int (I 38 v0.toNatClampNeg))], [.int v1, .int v0, .ref 38], 0, 0, (mSH, I, L))) rfl ?_
            refine mRq (s2 := (d + 5, 123, 67, [some (.ref 34), some (.int v0), some (.int v1), some (.int (I 38 v0.toNatClampNeg))], [], 0, 0, (mSH, (mUp I 38 v0.toNatClampNeg v1), L))) rfl (by first | (simp only [of_decide_eq_true c2]; first | decide | rfl) | decide | rfl) ?_
            refine mB 1 (s2 := (d + 5, 123, 68, [some (.ref 34), some (.int v0), some (.int v1), some (.int (I 38 v0.toNatClampNeg))], [.int (I 38 v0.toNatClampNeg)], 0, 0, (mSH, (mUp I 38 v0.toNatClampNeg v1), L))) rfl ?_
            refine mRt (r := (some (.int (I 38 v0.toNatClampNeg)))) (h := (mSH, (mUp I 38 v0.toNatClampNeg v1), L)) rfl (mRet_int rfl) ?_
            exact hq _ _ _ (mXm.up (by rfl) (by rfl) mXm.rf) ⟨_, _, _, hm⟩ (if_pos (by have a0 := of_decide_eq_false c0; have a1 := of_decide_eq_false c1; have a2 := of_decide_eq_true c2; have a3 := of_decide_eq_false c3; have a4 := of_decide_eq_false c4; simp only [Int32.lt_iff_toInt_lt, Int32.le_iff_toInt_le, ← Int32.toInt_inj, mLi0, mLi1, mLi2, mLi3, mLi4, mLi5, mLi6, mLi7, mLi8, mLi9, mLi10, mLi16, mLi32, mLi48, mLi57, mLi59, mLi65, mLi90, mLi97, mLi99, mLi120, mLi122, mLi127, mLi1584, mLi999999, mLim] at a0 a1 a2 a3 a4 ⊢; omega)).symm (mJd1 (by have a0 := of_decide_eq_false c0; have a1 := of_decide_eq_false c1; have a2 := of_decide_eq_true c2; have a3 := of_decide_eq_false c3; have a4 := of_decide_eq_false c4; simp only [Int32.lt_iff_toInt_lt, Int32.le_iff_toInt_le, ← Int32.toInt_inj, mLi0, mLi1, mLi2, mLi3, mLi4, mLi5, mLi6, mLi7, mLi8, mLi9, mLi10, mLi16, mLi32, mLi48, mLi57, mLi59, mLi65, mLi90, mLi97, mLi99, mLi120, mLi122, mLi127, mLi1584, mLi999999, mLim] at a0 a1 a2 a3 a4 ⊢; omega))
      · refine mB 2 (s2 := (d + 5, 123, 21, [some (.ref 34), some (.int v0), some (.int v1), none], [.int v0, .int 0, .int v1], 0, 0, (mSH, I, L))) rfl ?_
        refine mBr (s2 := (d + 5, 123, 24, [some (.ref 34), some (.int v0), some (.int v1), none], [.int 0, .int v1], 0, 0, (mSH, I, L))) (s3 := (d + 5, 123, 28, [some (.ref 34), some (.int v0), some (.int v1), none], [.int 0, .int v1], 0, 0, (mSH, I, L))) rfl (fun c3 => ?_) (fun c3 => ?_)
        · refine mB 2 (s2 := (d + 5, 123, 40, [some (.ref 34), some (.int v0), some (.int v1), none], [.int 3, .int 0, .int v1], 0, 0, (mSH, I, L))) rfl ?_
          refine mCall (s2 := (d + 4, 112, 0, [some (.int v1), some (.int 0), some (.int 3)], [], 0, 0, (mSH, I, L))) rfl ?_
          refine mB 2 (s2 := (d + 4, 112, 2, [some (.int v1), some (.int 0), some (.int 3)], [.int 0, .int v1], 0, 0, (mSH, I, L))) rfl ?_
          refine mBr (s2 := (d + 4, 112, 14, [some (.int v1), some (.int 0), some (.int 3)], [], 0, 0, (mSH, I, L))) (s3 := (d + 4, 112, 5, [some (.int v1), some (.int 0), some (.int 3)], [], 0, 0, (mSH, I, L))) rfl (fun c4 => ?_) (fun c4 => ?_)
          · refine mB 1 (s2 := (d + 4, 112, 15, [some (.int v1), some (.int 0), some (.int 3)], [.int 0], 0, 0, (mSH, I, L))) rfl ?_
            refine mRt (r := (some (.int 0))) (h := (mSH, I, L)) rfl rfl ?_
            show mWP mTb_ mFT ro (d + 5, 123, 43, [some (.ref 34), some (.int v0), some (.int v1), none], [.int 0], 0, 0, (mSH, I, L)) _
            refine mBT (s2 := (d + 5, 123, 46, [some (.ref 34), some (.int v0), some (.int v1), none], [], 0, 0, (mSH, I, L))) rfl (by decide) ?_
            refine mB 2 (s2 := (d + 5, 123, 49, [some (.ref 34), some (.int v0), some (.int v1), none], [.int (-2), .ref 34], 0, 0, (mSH, I, L))) rfl ?_
            refine mCall (s2 := (d + 4, 113, 0, [some (.ref 34), some (.int (-2))], [], 0, 0, (mSH, I, L))) rfl ?_
            refine mB 6 (s2 := (d + 4, 113, 9, [some (.ref 34), some (.int (-2))], [.int 0, .ref 39, .int 0, .ref 39], 0, 0, (mSH, I, L))) rfl ?_
            refine mRq (s2 := (d + 4, 113, 10, [some (.ref 34), some (.int (-2))], [.int (I 39 0), .int 0, .ref 39], 0, 0, (mSH, I, L))) rfl (by decide) ?_
            refine mB 2 (s2 := (d + 4, 113, 12, [some (.ref 34), some (.int (-2))], [.int ((I 39 0) + 1), .int 0, .ref 39], 0, 0, (mSH, I, L))) rfl ?_
            refine mRq (s2 := (d + 4, 113, 13, [some (.ref 34), some (.int (-2))], [], 0, 0, (mSH, (mUp I 39 0 ((I 39 0) + 1)), L))) rfl (by decide) ?_
            refine mB 1 (s2 := (d + 4, 113, 14, [some (.ref 34), some (.int (-2))], [.int (-2)], 0, 0, (mSH, (mUp I 39 0 ((I 39 0) + 1)), L))) rfl ?_
            refine mRt (r := (some (.int (-2)))) (h := (mSH, (mUp I 39 0 ((I 39 0) + 1)), L)) rfl (mRet_int rfl) ?_
            show mWP mTb_ mFT ro (d + 5, 123, 52, [some (.ref 34), some (.int v0), some (.int v1), none], [.int (-2)], 0, 0, (mSH, (mUp I 39 0 ((I 39 0) + 1)), L)) _
            refine mRt (r := (some (.int (-2)))) (h := (mSH, (mUp I 39 0 ((I 39 0) + 1)), L)) rfl (mRet_int rfl) ?_
            exact hq _ _ _ (mXm.up (by rfl) (by rfl) mXm.rf) ⟨_, _, _, hm⟩ (if_neg (by have a0 := of_decide_eq_false c0; have a1 := of_decide_eq_false c1; have a2 := of_decide_eq_false c2; have a3 := of_decide_eq_true c3; have a4 := of_decide_eq_true c4; simp only [Int32.lt_iff_toInt_lt, Int32.le_iff_toInt_le, ← Int32.toInt_inj, mLi0, mLi1, mLi2, mLi3, mLi4, mLi5, mLi6, mLi7, mLi8, mLi9, mLi10, mLi16, mLi32, mLi48, mLi57, mLi59, mLi65, mLi90, mLi97, mLi99, mLi120, mLi122, mLi127, mLi1584, mLi999999, mLim] at a0 a1 a2 a3 a4 ⊢; omega)).symm (mJd0 (by have a0 := of_decide_eq_false c0; have a1 := of_decide_eq_false c1; have a2 := of_decide_eq_false c2; have a3 := of_decide_eq_true c3; have a4 := of_decide_eq_true c4; simp only [Int32.lt_iff_toInt_lt, Int32.le_iff_toInt_le, ← Int32.toInt_inj, mLi0, mLi1, mLi2, mLi3, mLi4, mLi5, mLi6, mLi7, mLi8, mLi9, mLi10, mLi16, mLi32, mLi48, mLi57, mLi59, mLi65, mLi90, mLi97, mLi99, mLi120, mLi122, mLi127, mLi1584, mLi999999, mLim] at a0 a1 a2 a3 a4 ⊢; omega))
          · refine mB 2 (s2 := (d + 4, 112, 7, [some (.int v1), some (.int 0), some (.int 3)], [.int 3, .int v1], 0, 0, (mSH, I, L))) rfl ?_
            refine mBr (s2 := (d + 4, 112, 14, [some (.int v1), some (.int 0), some (.int 3)], [], 0, 0, (mSH, I, L))) (s3 := (d + 4, 112, 10, [some (.int v1), some (.int 0), some (.int 3)], [], 0, 0, (mSH, I, L))) rfl (fun c5 => ?_) (fun c5 => ?_)
            · refine mB 1 (s2 := (d + 4, 112, 15, [some (.int v1), some (.int 0), some (.int 3)], [.int 0], 0, 0, (mSH, I, L))) rfl ?_
              refine mRt (r := (some (.int 0))) (h := (mSH, I, L)) rfl rfl ?_
              show mWP mTb_ mFT ro (d + 5, 123, 43, [some (.ref 34), some (.int v0), some (.int v1), none], [.int 0], 0, 0, (mSH, I, L)) _
              refine mBT (s2 := (d + 5, 123, 46, [some (.ref 34), some (.int v0), some (.int v1), none], [], 0, 0, (mSH, I, L))) rfl (by decide) ?_
              refine mB 2 (s2 := (d + 5, 123, 49, [some (.ref 34), some (.int v0), some (.int v1), none], [.int (-2), .ref 34], 0, 0, (mSH, I, L))) rfl ?_
              refine mCall (s2 := (d + 4, 113, 0, [some (.ref 34), some (.int (-2))], [], 0, 0, (mSH, I, L))) rfl ?_
              refine mB 6 (s2 := (d + 4, 113, 9, [some (.ref 34), some (.int (-2))], [.int 0, .ref 39, .int 0, .ref 39], 0, 0, (mSH, I, L))) rfl ?_
              refine mRq (s2 := (d + 4, 113, 10, [some (.ref 34), some (.int (-2))], [.int (I 39 0), .int 0, .ref 39], 0, 0, (mSH, I, L))) rfl (by decide) ?_
              refine mB 2 (s2 := (d + 4, 113, 12, [some (.ref 34), some (.int (-2))], [.int ((I 39 0) + 1), .int 0, .ref 39], 0, 0, (mSH, I, L))) rfl ?_
              refine mRq (s2 := (d + 4, 113, 13, [some (.ref 34), some (.int (-2))], [], 0, 0, (mSH, (mUp I 39 0 ((I 39 0) + 1)), L))) rfl (by decide) ?_
              refine mB 1 (s2 := (d + 4, 113, 14, [some (.ref 34), some (.int (-2))], [.int (-2)], 0, 0, (mSH, (mUp I 39 0 ((I 39 0) + 1)), L))) rfl ?_
              refine mRt (r := (some (.int (-2)))) (h := (mSH, (mUp I 39 0 ((I 39 0) + 1)), L)) rfl (mRet_int rfl) ?_
              show mWP mTb_ mFT ro (d + 5, 123, 52, [some (.ref 34), some (.int v0), some (.int v1), none], [.int (-2)], 0, 0, (mSH, (mUp I 39 0 ((I 39 0) + 1)), L)) _
              refine mRt (r := (some (.int (-2)))) (h := (mSH, (mUp I 39 0 ((I 39 0) + 1)), L)) rfl (mRet_int rfl) ?_
              exact hq _ _ _ (mXm.up (by rfl) (by rfl) mXm.rf) ⟨_, _, _, hm⟩ (if_neg (by have a0 := of_decide_eq_false c0; have a1 := of_decide_eq_false c1; have a2 := of_decide_eq_false c2; have a3 := of_decide_eq_true c3; have a4 := of_decide_eq_false c4; have a5 := of_decide_eq_true c5; simp only [Int32.lt_iff_toInt_lt, Int32.le_iff_toInt_le, ← Int32.toInt_inj, mLi0, mLi1, mLi2, mLi3, mLi4, mLi5, mLi6, mLi7, mLi8, mLi9, mLi10, mLi16, mLi32, mLi48, mLi57, mLi59, mLi65, mLi90, mLi97, mLi99, mLi120, mLi122, mLi127, mLi1584, mLi999999, mLim] at a0 a1 a2 a3 a4 a5 ⊢; omega)).symm (mJd0 (by have a0 := of_decide_eq_false c0; have a1 := of_decide_eq_false c1; have a2 := of_decide_eq_false c2; have a3 := of_decide_eq_true c3; have a4 := of_decide_eq_false c4; have a5 := of_decide_eq_true c5; simp only [Int32.lt_iff_toInt_lt, Int32.le_iff_toInt_le, ← Int32.toInt_inj, mLi0, mLi1, mLi2, mLi3, mLi4, mLi5, mLi6, mLi7, mLi8, mLi9, mLi10, mLi16, mLi32, mLi48, mLi57, mLi59, mLi65, mLi90, mLi97, mLi99, mLi120, mLi122, mLi127, mLi1584, mLi999999, mLim] at a0 a1 a2 a3 a4 a5 ⊢; omega))
            · refine mB 2 (s2 := (d + 4, 112, 15, [some (.int v1), some (.int 0), some (.int 3)], [.int 1], 0, 0, (mSH, I, L))) rfl ?_
              refine mRt (r := (some (.int 1))) (h := (mSH, I, L)) rfl rfl ?_
              show mWP mTb_ mFT ro (d + 5, 123, 43, [some (.ref 34), some (.int v0), some (.int v1), none], [.int 1], 0, 0, (mSH, I, L)) _
              refine mBF (s3 := (d + 5, 123, 53, [some (.ref 34), some (.int v0), some (.int v1), none], [], 0, 0, (mSH, I, L))) rfl (by decide) ?_
              refine mB 3 (s2 := (d + 5, 123, 58, [some (.ref 34), some (.int v0), some (.int v1), none], [.int v0, .ref 38], 0, 0, (mSH, I, L))) rfl ?_
              refine mRq (s2 := (d + 5, 123, 59, [some (.ref 34), some (.int v0), some (.int v1), none], [.int (I 38 v0.toNatClampNeg)], 0, 0, (mSH, I, L))) rfl (by first | (simp only [of_decide_eq_true c3]; first | decide | rfl) | decide | rfl) ?_
              refine mB 5 (s2 := (d + 5, 123, 66, [some (.ref 34), some (.int v0), some (.int v1), some (.int (I 38 v0.toNatClampNeg))], [.int v1, .int v0, .ref 38], 0, 0, (mSH, I, L))) rfl ?_
              refine mRq (s2 := (d + 5, 123, 67, [some (.ref 34), some (.int v0), some (.int v1), some (.int (I 38 v0.toNatClampNeg))], [], 0, 0, (mSH, (mUp I 38 v0.toNatClampNeg v1), L))) rfl (by first | (simp only [of_decide_eq_true c3]; first | decide | rfl) | decide | rfl) ?_
              refine mB 1 (s2 := (d + 5, 123, 68, [some (.ref 34), some (.int v0), some (.int v1), some (.int (I 38 v0.toNatClampNeg))], [.int (I 38 v0.toNatClampNeg)], 0, 0, (mSH, (mUp I 38 v0.toNatClampNeg v1), L))) rfl ?_
              refine mRt (r := (some (.int (I 38 v0.toNatClampNeg)))) (h := (mSH, (mUp I 38 v0.toNatClampNeg v1), L)) rfl (mRet_int rfl) ?_
              exact hq _ _ _ (mXm.up (by rfl) (by rfl) mXm.rf) ⟨_, _, _, hm⟩ (if_pos (by have a0 := of_decide_eq_false c0; have a1 := of_decide_eq_false c1; have a2 := of_decide_eq_false c2; have a3 := of_decide_eq_true c3; have a4 := of_decide_eq_false c4; have a5 := of_decide_eq_false c5; simp only [Int32.lt_iff_toInt_lt, Int32.le_iff_toInt_le, ← Int32.toInt_inj, mLi0, mLi1, mLi2, mLi3, mLi4, mLi5, mLi6, mLi7, mLi8, mLi9, mLi10, mLi16, mLi32, mLi48, mLi57, mLi59, mLi65, mLi90, mLi97, mLi99, mLi120, mLi122, mLi127, mLi1584, mLi999999, mLim] at a0 a1 a2 a3 a4 a5 ⊢; omega)).symm (mJd1 (by have a0 := of_decide_eq_false c0; have a1 := of_decide_eq_false c1; have a2 := of_decide_eq_false c2; have a3 := of_decide_eq_true c3; have a4 := of_decide_eq_false c4; have a5 := of_decide_eq_false c5; simp only [Int32.lt_iff_toInt_lt, Int32.le_iff_toInt_le, ← Int32.toInt_inj, mLi0, mLi1, mLi2, mLi3, mLi4, mLi5, mLi6, mLi7, mLi8, mLi9, mLi10, mLi16, mLi32, mLi48, mLi57, mLi59, mLi65, mLi90, mLi97, mLi99, mLi120, mLi122, mLi127, mLi1584, mLi999999, mLim] at a0 a1 a2 a3 a4 a5 ⊢; omega))
        · refine mB 2 (s2 := (d + 5, 123, 30, [some (.ref 34), some (.int v0), some (.int v1), none], [.int 1, .int v0, .int 0, .int v1], 0, 0, (mSH, I, L))) rfl ?_
          refine mBF (c := decide (v0 = 1)) (s3 := (d + 5, 123, 38, [some (.ref 34), some (.int v0), some (.int v1), none], [.int 0, .int v1], 0, 0, (mSH, I, L))) rfl (decide_eq_false (by have a0 := of_decide_eq_false c0; have a1 := of_decide_eq_false c1; have a2 := of_decide_eq_false c2; have a3 := of_decide_eq_false c3; simp only [Int32.lt_iff_toInt_lt, Int32.le_iff_toInt_le, ← Int32.toInt_inj, mLi0, mLi1, mLi2, mLi3, mLi4, mLi5, mLi6, mLi7, mLi8, mLi9, mLi10, mLi16, mLi32, mLi48, mLi57, mLi59, mLi65, mLi90, mLi97, mLi99, mLi120, mLi122, mLi127, mLi1584, mLi999999, mLim] at a0 a1 a2 a3 ⊢; omega)) ?_
          refine mB 1 (s2 := (d + 5, 123, 40, [some (.ref 34), some (.int v0), some (.int v1), none], [.int 99, .int 0, .int v1], 0, 0, (mSH, I, L))) rfl ?_
          refine mCall (s2 := (d + 4, 112, 0, [some (.int v1), some (.int 0), some (.int 99)], [], 0, 0, (mSH, I, L))) rfl ?_
          refine mB 2 (s2 := (d + 4, 112, 2, [some (.int v1), some (.int 0), some (.int 99)], [.int 0, .int v1], 0, 0, (mSH, I, L))) rfl ?_
          refine mBr (s2 := (d + 4, 112, 14, [some (.int v1), some (.int 0), some (.int 99)], [], 0, 0, (mSH, I, L))) (s3 := (d + 4, 112, 5, [some (.int v1), some (.int 0), some (.int 99)], [], 0, 0, (mSH, I, L))) rfl (fun c4 => ?_) (fun c4 => ?_)
          · refine mB 1 (s2 := (d + 4, 112, 15, [some (.int v1), some (.int 0), some (.int 99)], [.int 0], 0, 0, (mSH, I, L))) rfl ?_
            refine mRt (r := (some (.int 0))) (h := (mSH, I, L)) rfl rfl ?_
            show mWP mTb_ mFT ro (d + 5, 123, 43, [some (.ref 34), some (.int v0), some (.int v1), none], [.int 0], 0, 0, (mSH, I, L)) _
            refine mBT (s2 := (d + 5, 123, 46, [some (.ref 34), some (.int v0), some (.int v1), none], [], 0, 0, (mSH, I, L))) rfl (by decide) ?_
            refine mB 2 (s2 := (d + 5, 123, 49, [some (.ref 34), some (.int v0), some (.int v1), none], [.int (-2), .ref 34], 0, 0, (mSH, I, L))) rfl ?_
            refine mCall (s2 := (d + 4, 113, 0, [some (.ref 34), some (.int (-2))], [], 0, 0, (mSH, I, L))) rfl ?_
            refine mB 6 (s2 := (d + 4, 113, 9, [some (.ref 34), some (.int (-2))], [.int 0, .ref 39, .int 0, .ref 39], 0, 0, (mSH, I, L))) rfl ?_
            refine mRq (s2 := (d + 4, 113, 10, [some (.ref 34), some (.int (-2))], [.int (I 39 0), .int 0, .ref 39], 0, 0, (mSH, I, L))) rfl (by decide) ?_
            refine mB 2 (s2 := (d + 4, 113, 12, [some (.ref 34), some (.int (-2))], [.int ((I 39 0) + 1), .int 0, .ref 39], 0, 0, (mSH, I, L))) rfl ?_
            refine mRq (s2 := (d + 4, 113, 13, [some (.ref 34), some (.int (-2))], [], 0, 0, (mSH, (mUp I 39 0 ((I 39 0) + 1)), L))) rfl (by decide) ?_
            refine mB 1 (s2 := (d + 4, 113, 14, [some (.ref 34), some (.int (-2))], [.int (-2)], 0, 0, (mSH, (mUp I 39 0 ((I 39 0) + 1)), L))) rfl ?_
            refine mRt (r := (some (.int (-2)))) (h := (mSH, (mUp I 39 0 ((I 39 0) + 1)), L)) rfl (mRet_int rfl) ?_
            show mWP mTb_ mFT ro (d + 5, 123, 52, [some (.ref 34), some (.int v0), some (.int v1), none], [.int (-2)], 0, 0, (mSH, (mUp I 39 0 ((I 39 0) + 1)), L)) _
            refine mRt (r := (some (.int (-2)))) (h := (mSH, (mUp I 39 0 ((I 39 0) + 1)), L)) rfl (mRet_int rfl) ?_
            exact hq _ _ _ (mXm.up (by rfl) (by rfl) mXm.rf) ⟨_, _, _, hm⟩ (if_neg (by have a0 := of_decide_eq_false c0; have a1 := of_decide_eq_false c1; have a2 := of_decide_eq_false c2; have a3 := of_decide_eq_false c3; have a4 := of_decide_eq_true c4; simp only [Int32.lt_iff_toInt_lt, Int32.le_iff_toInt_le, ← Int32.toInt_inj, mLi0, mLi1, mLi2, mLi3, mLi4, mLi5, mLi6, mLi7, mLi8, mLi9, mLi10, mLi16, mLi32, mLi48, mLi57, mLi59, mLi65, mLi90, mLi97, mLi99, mLi120, mLi122, mLi127, mLi1584, mLi999999, mLim] at a0 a1 a2 a3 a4 ⊢; omega)).symm (mJd0 (by have a0 := of_decide_eq_false c0; have a1 := of_decide_eq_false c1; have a2 := of_decide_eq_false c2; have a3 := of_decide_eq_false c3; have a4 := of_decide_eq_true c4; simp only [Int32.lt_iff_toInt_lt, Int32.le_iff_toInt_le, ← Int32.toInt_inj, mLi0, mLi1, mLi2, mLi3, mLi4, mLi5, mLi6, mLi7, mLi8, mLi9, mLi10, mLi16, mLi32, mLi48, mLi57, mLi59, mLi65, mLi90, mLi97, mLi99, mLi120, mLi122, mLi127, mLi1584, mLi999999, mLim] at a0 a1 a2 a3 a4 ⊢; omega))
          · refine mB 2 (s2 := (d + 4, 112, 7, [some (.int v1), some (.int 0), some (.int 99)], [.int 99, .int v1], 0, 0, (mSH, I, L))) rfl ?_
            refine mBr (s2 := (d + 4, 112, 14, [some (.int v1), some (.int 0), some (.int 99)], [], 0, 0, (mSH, I, L))) (s3 := (d + 4, 112, 10, [some (.int v1), some (.int 0), some (.int 99)], [], 0, 0, (mSH, I, L))) rfl (fun c5 => ?_) (fun c5 => ?_)
            · refine mB 1 (s2 := (d + 4, 112, 15, [some (.int v1), some (.int 0), some (.int 99)], [.int 0], 0, 0, (mSH, I, L))) rfl ?_
              refine mRt (r := (some (.int 0))) (h := (mSH, I, L)) rfl rfl ?_
              show mWP mTb_ mFT ro (d + 5, 123, 43, [some (.ref 34), some (.int v0), some (.int v1), none], [.int 0], 0, 0, (mSH, I, L)) _
              refine mBT (s2 := (d + 5, 123, 46, [some (.ref 34), some (.int v0), some (.int v1), none], [], 0, 0, (mSH, I, L))) rfl (by decide) ?_
              refine mB 2 (s2 := (d + 5, 123, 49, [some (.ref 34), some (.int v0), some (.int v1), none], [.int (-2), .ref 34], 0, 0, (mSH, I, L))) rfl ?_
              refine mCall (s2 := (d + 4, 113, 0, [some (.ref 34), some (.int (-2))], [], 0, 0, (mSH, I, L))) rfl ?_
              refine mB 6 (s2 := (d + 4, 113, 9, [some (.ref 34), some (.int (-2))], [.int 0, .ref 39, .int 0, .ref 39], 0, 0, (mSH, I, L))) rfl ?_
              refine mRq (s2 := (d + 4, 113, 10, [some (.ref 34), some (.int (-2))], [.int (I 39 0), .int 0, .ref 39], 0, 0, (mSH, I, L))) rfl (by decide) ?_
              refine mB 2 (s2 := (d + 4, 113, 12, [some (.ref 34), some (.int (-2))], [.int ((I 39 0) + 1), .int 0, .ref 39], 0, 0, (mSH, I, L))) rfl ?_
              refine mRq (s2 := (d + 4, 113, 13, [some (.ref 34), some (.int (-2))], [], 0, 0, (mSH, (mUp I 39 0 ((I 39 0) + 1)), L))) rfl (by decide) ?_
              refine mB 1 (s2 := (d + 4, 113, 14, [some (.ref 34), some (.int (-2))], [.int (-2)], 0, 0, (mSH, (mUp I 39 0 ((I 39 0) + 1)), L))) rfl ?_
              refine mRt (r := (some (.int (-2)))) (h := (mSH, (mUp I 39 0 ((I 39 0) + 1)), L)) rfl (mRet_int rfl) ?_
              show mWP mTb_ mFT ro (d + 5, 123, 52, [some (.ref 34), some (.int v0), some (.int v1), none], [.int (-2)], 0, 0, (mSH, (mUp I 39 0 ((I 39 0) + 1)), L)) _
              refine mRt (r := (some (.int (-2)))) (h := (mSH, (mUp I 39 0 ((I 39 0) + 1)), L)) rfl (mRet_int rfl) ?_
              exact hq _ _ _ (mXm.up (by rfl) (by rfl) mXm.rf) ⟨_, _, _, hm⟩ (if_neg (by have a0 := of_decide_eq_false c0; have a1 := of_decide_eq_false c1; have a2 := of_decide_eq_false c2; have a3 := of_decide_eq_false c3; have a4 := of_decide_eq_false c4; have a5 := of_decide_eq_true c5; simp only [Int32.lt_iff_toInt_lt, Int32.le_iff_toInt_le, ← Int32.toInt_inj, mLi0, mLi1, mLi2, mLi3, mLi4, mLi5, mLi6, mLi7, mLi8, mLi9, mLi10, mLi16, mLi32, mLi48, mLi57, mLi59, mLi65, mLi90, mLi97, mLi99, mLi120, mLi122, mLi127, mLi1584, mLi999999, mLim] at a0 a1 a2 a3 a4 a5 ⊢; omega)).symm (mJd0 (by have a0 := of_decide_eq_false c0; have a1 := of_decide_eq_false c1; have a2 := of_decide_eq_false c2; have a3 := of_decide_eq_false c3; have a4 := of_decide_eq_false c4; have a5 := of_decide_eq_true c5; simp only [Int32.lt_iff_toInt_lt, Int32.le_iff_toInt_le, ← Int32.toInt_inj, mLi0, mLi1, mLi2, mLi3, mLi4, mLi5, mLi6, mLi7, mLi8, mLi9, mLi10, mLi16, mLi32, mLi48, mLi57, mLi59, mLi65, mLi90, mLi97, mLi99, mLi120, mLi122, mLi127, mLi1584, mLi999999, mLim] at a0 a1 a2 a3 a4 a5 ⊢; omega))
            · refine mB 2 (s2 := (d + 4, 112, 15, [some (.int v1), some (.int 0), some (.int 99)], [.int 1], 0, 0, (mSH, I, L))) rfl ?_
              refine mRt (r := (some (.int 1))) (h := (mSH, I, L)) rfl rfl ?_
              show mWP mTb_ mFT ro (d + 5, 123, 43, [some (.ref 34), some (.int v0), some (.int v1), none], [.int 1], 0, 0, (mSH, I, L)) _
              refine mBF (s3 := (d + 5, 123, 53, [some (.ref 34), some (.int v0), some (.int v1), none], [], 0, 0, (mSH, I, L))) rfl (by decide) ?_
              refine mB 3 (s2 := (d + 5, 123, 58, [some (.ref 34), some (.int v0), some (.int v1), none], [.int v0, .ref 38], 0, 0, (mSH, I, L))) rfl ?_
              refine mRq (s2 := (d + 5, 123, 59, [some (.ref 34), some (.int v0), some (.int v1), none], [.int (I 38 v0.toNatClampNeg)], 0, 0, (mSH, I, L))) rfl (mVp_of (vp_in_iff.mpr (by have a0 := of_decide_eq_false c0; have a1 := of_decide_eq_false c1; have a2 := of_decide_eq_false c2; have a3 := of_decide_eq_false c3; have a4 := of_decide_eq_false c4; have a5 := of_decide_eq_false c5; simp only [Int32.lt_iff_toInt_lt, Int32.le_iff_toInt_le, ← Int32.toInt_inj, mLi0, mLi1, mLi2, mLi3, mLi4, mLi5, mLi6, mLi7, mLi8, mLi9, mLi10, mLi16, mLi32, mLi48, mLi57, mLi59, mLi65, mLi90, mLi97, mLi99, mLi120, mLi122, mLi127, mLi1584, mLi999999, mLim] at a0 a1 a2 a3 a4 a5 ⊢; omega))) ?_
              refine mB 5 (s2 := (d + 5, 123, 66, [some (.ref 34), some (.int v0), some (.int v1), some (.int (I 38 v0.toNatClampNeg))], [.int v1, .int v0, .ref 38], 0, 0, (mSH, I, L))) rfl ?_
              refine mRq (s2 := (d + 5, 123, 67, [some (.ref 34), some (.int v0), some (.int v1), some (.int (I 38 v0.toNatClampNeg))], [], 0, 0, (mSH, (mUp I 38 v0.toNatClampNeg v1), L))) rfl (mVp_of (vp_in_iff.mpr (by have a0 := of_decide_eq_false c0; have a1 := of_decide_eq_false c1; have a2 := of_decide_eq_false c2; have a3 := of_decide_eq_false c3; have a4 := of_decide_eq_false c4; have a5 := of_decide_eq_false c5; simp only [Int32.lt_iff_toInt_lt, Int32.le_iff_toInt_le, ← Int32.toInt_inj, mLi0, mLi1, mLi2, mLi3, mLi4, mLi5, mLi6, mLi7, mLi8, mLi9, mLi10, mLi16, mLi32, mLi48, mLi57, mLi59, mLi65, mLi90, mLi97, mLi99, mLi120, mLi122, mLi127, mLi1584, mLi999999, mLim] at a0 a1 a2 a3 a4 a5 ⊢; omega))) ?_
              refine mB 1 (s2 := (d + 5, 123, 68, [some (.ref 34), some (.int v0), some (.int v1), some (.int (I 38 v0.toNatClampNeg))], [.int (I 38 v0.toNatClampNeg)], 0, 0, (mSH, (mUp I 38 v0.toNatClampNeg v1), L))) rfl ?_
              refine mRt (r := (some (.int (I 38 v0.toNatClampNeg)))) (h := (mSH, (mUp I 38 v0.toNatClampNeg v1), L)) rfl (mRet_int rfl) ?_
              exact hq _ _ _ (mXm.up (by rfl) (by rfl) mXm.rf) ⟨_, _, _, hm⟩ (if_pos (by have a0 := of_decide_eq_false c0; have a1 := of_decide_eq_false c1; have a2 := of_decide_eq_false c2; have a3 := of_decide_eq_false c3; have a4 := of_decide_eq_false c4; have a5 := of_decide_eq_false c5; simp only [Int32.lt_iff_toInt_lt, Int32.le_iff_toInt_le, ← Int32.toInt_inj, mLi0, mLi1, mLi2, mLi3, mLi4, mLi5, mLi6, mLi7, mLi8, mLi9, mLi10, mLi16, mLi32, mLi48, mLi57, mLi59, mLi65, mLi90, mLi97, mLi99, mLi120, mLi122, mLi127, mLi1584, mLi999999, mLim] at a0 a1 a2 a3 a4 a5 ⊢; omega)).symm (mJd1 (by have a0 := of_decide_eq_false c0; have a1 := of_decide_eq_false c1; have a2 := of_decide_eq_false c2; have a3 := of_decide_eq_false c3; have a4 := of_decide_eq_false c4; have a5 := of_decide_eq_false c5; simp only [Int32.lt_iff_toInt_lt, Int32.le_iff_toInt_le, ← Int32.toInt_inj, mLi0, mLi1, mLi2, mLi3, mLi4, mLi5, mLi6, mLi7, mLi8, mLi9, mLi10, mLi16, mLi32, mLi48, mLi57, mLi59, mLi65, mLi90, mLi97, mLi99, mLi120, mLi122, mLi127, mLi1584, mLi999999, mLim] at a0 a1 a2 a3 a4 a5 ⊢; omega))
