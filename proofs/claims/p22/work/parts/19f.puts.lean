/-! The model: what changes it, and what it tells. Written by a program (wip/mk_c.py). -/
section MU
variable {I : Nat → Nat → Int32} {s n t : Nat} {v : Int32}
theorem mX.up {J : Nat → Nat → Int32} {c j : Nat} (hc : mMem mML c = true) (h : ∀ c, mMem mML c = false → J c = I c) : ∀ z, mMem mML z = false → mUp J c j v z = I z := fun z hz => by
  rw [mUp_row (mMem_ne hz hc)]
  exact h z hz
theorem mX.rf : ∀ z, mMem mML z = false → I z = I z := fun _ _ => rfl
theorem mM.span (hm : mM s n t I) (hv : mYR v) (h : s < 16) : mM (s + 1) n t (mUp (mUp I 35 (I 34 1).toNatClampNeg v) 34 1 (I 34 1 + 1)) := by
  obtain ⟨h1, h2, h3, h4, h5, h6⟩ := hm
  refine ⟨⟨?_, h⟩, h2, h3, ?_, h5, h6⟩
  · show I 34 1 + 1 = _
    rw [h1.1, nI_1]
  · rw [h1.1, nI_clamp (by omega), mUp_row (by omega)]
    intro j hj
    rcases Nat.lt_or_ge j s with z | z
    · rw [mUp_oth (by omega)]
      exact h4 j z
    · have e : j = s := by omega
      rw [e, mUp_same]
      exact hv
theorem mM.layer (hm : mM s n t I) (hv : mYR v) (h : n < 8) : mM s (n + 1) t (mUp (mUp I 36 (I 34 3).toNatClampNeg v) 34 3 (I 34 3 + 1)) := by
  obtain ⟨h1, h2, h3, h4, h5, h6⟩ := hm
  refine ⟨h1, ⟨?_, h⟩, h3, h4, ?_, h6⟩
  · show I 34 3 + 1 = _
    rw [h2.1, nI_1]
  · rw [h2.1, nI_clamp (by omega), mUp_row (by omega)]
    intro j hj
    rcases Nat.lt_or_ge j n with z | z
    · rw [mUp_oth (by omega)]
      exact h5 j z
    · have e : j = n := by omega
      rw [e, mUp_same]
      exact ⟨hv.1, Int.le_trans hv.2 (by omega)⟩
theorem mM.set0 (hm : mM s n t I) (hv : mYR v) {k : Nat} : mM s n t (mUp I 35 k v) := by
  obtain ⟨h1, h2, h3, h4, h5, h6⟩ := hm
  refine ⟨h1, h2, h3, fun j hj => ?_, h5, h6⟩
  by_cases e : j = k
  · rw [e, mUp_same]; exact hv
  · rw [mUp_oth e]; exact h4 j hj
theorem mM.set1 (hm : mM s n t I) (hv : mYR v) {k : Nat} : mM s n t (mUp I 36 k v) := by
  obtain ⟨h1, h2, h3, h4, h5, h6⟩ := hm
  refine ⟨h1, h2, h3, h4, fun j hj => ?_, h6⟩
  by_cases e : j = k
  · rw [e, mUp_same]; exact ⟨hv.1, Int.le_trans hv.2 (by omega)⟩
  · rw [mUp_oth e]; exact h5 j hj
theorem mM.emp0 (hm : mM s n t I) : mM 0 n t (mUp I 34 1 0) := ⟨⟨rfl, by omega⟩, hm.2.1, hm.2.2.1, fun j hj => absurd hj (Nat.not_lt_zero j), hm.2.2.2.2.1, hm.2.2.2.2.2⟩
theorem mM.emp1 (hm : mM s n t I) : mM s 0 t (mUp I 34 3 0) := ⟨hm.1, ⟨rfl, by omega⟩, hm.2.2.1, hm.2.2.2.1, fun j hj => absurd hj (Nat.not_lt_zero j), hm.2.2.2.2.2⟩
theorem mM.typ (hm : mM s n t I) (h : t < 120) {k : Nat} : mM s n (t + 1) (mUp (mUp I 40 k v) 34 11 (I 34 11 + 1)) := by
  refine ⟨hm.1, hm.2.1, ⟨?_, h⟩, hm.2.2.2⟩
  show I 34 11 + 1 = _
  rw [hm.2.2.1.1, nI_1]
theorem mM.clr (hm : mM s n t I) : mM s n 0 (mUp I 34 11 0) := ⟨hm.1, hm.2.1, ⟨rfl, by omega⟩, hm.2.2.2⟩
theorem mLtn {x : Int32} {k N : Nat} (e : x = nI k) (hk : k ≤ N) (hN : N < 2 ^ 31) (h : ¬ x = nI N) : k < N := by
  rcases Nat.lt_or_ge k N with z | z
  · exact z
  · exact absurd (by rw [e, show k = N by omega]) h
theorem mNv {x y : Int32} {n N : Nat} (hy : y = nI n) (hn : n ≤ N) (hN : N ≤ 16) (h0 : ¬ x < 0) (h1 : ¬ y - 1 < x) : vp_in x N := by
  obtain ⟨j, hj, e⟩ := mNat hy (by omega) h0 h1
  rw [e]
  exact vp_in_nI (by omega) (by omega)
end MU
theorem m_part {ro : Nat → Nat × (Nat → Int32)} {Q : mPo} {d : Nat} {I : Nat → Nat → Int32} {L : Nat → Nat → Int64} {s n t : Nat} {v0 : Int32} (hm : mM s n t I) (hq : ∀ r I1 L1, mTx I I1 → mIM I1 → Q (some (.int r)) (mSH, I1, L1))   : mWP mTb_ mFT ro (d + 5, 148, 0, [some (.ref 34), some (.int v0)], [], 0, 0, (mSH, I, L)) Q := by
  refine mB 3 (s2 := (d + 5, 148, 3, [some (.ref 34), some (.int v0)], [.int 1, .int 0, .int v0], 0, 0, (mSH, I, L))) rfl ?_
  refine mCall (s2 := (d + 4, 112, 0, [some (.int v0), some (.int 0), some (.int 1)], [], 0, 0, (mSH, I, L))) rfl ?_
  refine mB 2 (s2 := (d + 4, 112, 2, [some (.int v0), some (.int 0), some (.int 1)], [.int 0, .int v0], 0, 0, (mSH, I, L))) rfl ?_
  refine mBr (s2 := (d + 4, 112, 14, [some (.int v0), some (.int 0), some (.int 1)], [], 0, 0, (mSH, I, L))) (s3 := (d + 4, 112, 5, [some (.int v0), some (.int 0), some (.int 1)], [], 0, 0, (mSH, I, L))) rfl (fun c0 => ?_) (fun c0 => ?_)
  · refine mB 1 (s2 := (d + 4, 112, 15, [some (.int v0), some (.int 0), some (.int 1)], [.int 0], 0, 0, (mSH, I, L))) rfl ?_
    refine mRt (r := (some (.int 0))) (h := (mSH, I, L)) rfl rfl ?_
    show mWP mTb_ mFT ro (d + 5, 148, 6, [some (.ref 34), some (.int v0)], [.int 0], 0, 0, (mSH, I, L)) _
    refine mBT (s2 := (d + 5, 148, 28, [some (.ref 34), some (.int v0)], [], 0, 0, (mSH, I, L))) rfl (by decide) ?_
    refine mB 2 (s2 := (d + 5, 148, 31, [some (.ref 34), some (.int v0)], [.int (-2), .ref 34], 0, 0, (mSH, I, L))) rfl ?_
    refine mCall (s2 := (d + 4, 113, 0, [some (.ref 34), some (.int (-2))], [], 0, 0, (mSH, I, L))) rfl ?_
    refine mB 6 (s2 := (d + 4, 113, 9, [some (.ref 34), some (.int (-2))], [.int 0, .ref 39, .int 0, .ref 39], 0, 0, (mSH, I, L))) rfl ?_
    refine mRq (s2 := (d + 4, 113, 10, [some (.ref 34), some (.int (-2))], [.int (I 39 0), .int 0, .ref 39], 0, 0, (mSH, I, L))) rfl (by decide) ?_
    refine mB 2 (s2 := (d + 4, 113, 12, [some (.ref 34), some (.int (-2))], [.int ((I 39 0) + 1), .int 0, .ref 39], 0, 0, (mSH, I, L))) rfl ?_
    refine mRq (s2 := (d + 4, 113, 13, [some (.ref 34), some (.int (-2))], [], 0, 0, (mSH, (mUp I 39 0 ((I 39 0) + 1)), L))) rfl (by decide) ?_
    refine mB 1 (s2 := (d + 4, 113, 14, [some (.ref 34), some (.int (-2))], [.int (-2)], 0, 0, (mSH, (mUp I 39 0 ((I 39 0) + 1)), L))) rfl ?_
    refine mRt (r := (some (.int (-2)))) (h := (mSH, (mUp I 39 0 ((I 39 0) + 1)), L)) rfl (mRet_int rfl) ?_
    show mWP mTb_ mFT ro (d + 5, 148, 34, [some (.ref 34), some (.int v0)], [.int (-2)], 0, 0, (mSH, (mUp I 39 0 ((I 39 0) + 1)), L)) _
    refine mRt (r := (some (.int (-2)))) (h := (mSH, (mUp I 39 0 ((I 39 0) + 1)), L)) rfl (mRet_int rfl) ?_
    exact hq _ _ _ ((mGr.up (by rfl) mGr.rf)).x ⟨s, n, t, ((mGr.up (by rfl) mGr.rf)).m hm⟩
  · refine mB 2 (s2 := (d + 4, 112, 7, [some (.int v0), some (.int 0), some (.int 1)], [.int 1, .int v0], 0, 0, (mSH, I, L))) rfl ?_
    refine mBr (s2 := (d + 4, 112, 14, [some (.int v0), some (.int 0), some (.int 1)], [], 0, 0, (mSH, I, L))) (s3 := (d + 4, 112, 10, [some (.int v0), some (.int 0), some (.int 1)], [], 0, 0, (mSH, I, L))) rfl (fun c1 => ?_) (fun c1 => ?_)
    · refine mB 1 (s2 := (d + 4, 112, 15, [some (.int v0), some (.int 0), some (.int 1)], [.int 0], 0, 0, (mSH, I, L))) rfl ?_
      refine mRt (r := (some (.int 0))) (h := (mSH, I, L)) rfl rfl ?_
      show mWP mTb_ mFT ro (d + 5, 148, 6, [some (.ref 34), some (.int v0)], [.int 0], 0, 0, (mSH, I, L)) _
      refine mBT (s2 := (d + 5, 148, 28, [some (.ref 34), some (.int v0)], [], 0, 0, (mSH, I, L))) rfl (by decide) ?_
      refine mB 2 (s2 := (d + 5, 148, 31, [some (.ref 34), some (.int v0)], [.int (-2), .ref 34], 0, 0, (mSH, I, L))) rfl ?_
      refine mCall (s2 := (d + 4, 113, 0, [some (.ref 34), some (.int (-2))], [], 0, 0, (mSH, I, L))) rfl ?_
      refine mB 6 (s2 := (d + 4, 113, 9, [some (.ref 34), some (.int (-2))], [.int 0, .ref 39, .int 0, .ref 39], 0, 0, (mSH, I, L))) rfl ?_
      refine mRq (s2 := (d + 4, 113, 10, [some (.ref 34), some (.int (-2))], [.int (I 39 0), .int 0, .ref 39], 0, 0, (mSH, I, L))) rfl (by decide) ?_
      refine mB 2 (s2 := (d + 4, 113, 12, [some (.ref 34), some (.int (-2))], [.int ((I 39 0) + 1), .int 0, .ref 39], 0, 0, (mSH, I, L))) rfl ?_
      refine mRq (s2 := (d + 4, 113, 13, [some (.ref 34), some (.int (-2))], [], 0, 0, (mSH, (mUp I 39 0 ((I 39 0) + 1)), L))) rfl (by decide) ?_
      refine mB 1 (s2 := (d + 4, 113, 14, [some (.ref 34), some (.int (-2))], [.int (-2)], 0, 0, (mSH, (mUp I 39 0 ((I 39 0) + 1)), L))) rfl ?_
      refine mRt (r := (some (.int (-2)))) (h := (mSH, (mUp I 39 0 ((I 39 0) + 1)), L)) rfl (mRet_int rfl) ?_
      show mWP mTb_ mFT ro (d + 5, 148, 34, [some (.ref 34), some (.int v0)], [.int (-2)], 0, 0, (mSH, (mUp I 39 0 ((I 39 0) + 1)), L)) _
      refine mRt (r := (some (.int (-2)))) (h := (mSH, (mUp I 39 0 ((I 39 0) + 1)), L)) rfl (mRet_int rfl) ?_
      exact hq _ _ _ ((mGr.up (by rfl) mGr.rf)).x ⟨s, n, t, ((mGr.up (by rfl) mGr.rf)).m hm⟩
    · refine mB 2 (s2 := (d + 4, 112, 15, [some (.int v0), some (.int 0), some (.int 1)], [.int 1], 0, 0, (mSH, I, L))) rfl ?_
      refine mRt (r := (some (.int 1))) (h := (mSH, I, L)) rfl rfl ?_
      show mWP mTb_ mFT ro (d + 5, 148, 6, [some (.ref 34), some (.int v0)], [.int 1], 0, 0, (mSH, I, L)) _
      refine mBF (s3 := (d + 5, 148, 9, [some (.ref 34), some (.int v0)], [], 0, 0, (mSH, I, L))) rfl (by decide) ?_
      refine mB 1 (s2 := (d + 5, 148, 10, [some (.ref 34), some (.int v0)], [.int v0], 0, 0, (mSH, I, L))) rfl ?_
      refine mBr (s2 := (d + 5, 148, 13, [some (.ref 34), some (.int v0)], [], 0, 0, (mSH, I, L))) (s3 := (d + 5, 148, 20, [some (.ref 34), some (.int v0)], [], 0, 0, (mSH, I, L))) rfl (fun c2 => ?_) (fun c2 => ?_)
      · refine mB 5 (s2 := (d + 5, 148, 34, [some (.ref 34), some (.int v0)], [.int ((L 34 7 : Int64).toInt32)], 0, 0, (mSH, I, L))) rfl ?_
        refine mRt (r := (some (.int ((L 34 7 : Int64).toInt32)))) (h := (mSH, I, L)) rfl (mRet_int rfl) ?_
        exact hq _ _ _ (mGr.rf).x ⟨s, n, t, (mGr.rf).m hm⟩
      · refine mB 4 (s2 := (d + 5, 148, 34, [some (.ref 34), some (.int v0)], [.int ((L 34 8 : Int64).toInt32)], 0, 0, (mSH, I, L))) rfl ?_
        refine mRt (r := (some (.int ((L 34 8 : Int64).toInt32)))) (h := (mSH, I, L)) rfl (mRet_int rfl) ?_
        exact hq _ _ _ (mGr.rf).x ⟨s, n, t, (mGr.rf).m hm⟩
theorem m_told {ro : Nat → Nat × (Nat → Int32)} {Q : mPo} {d : Nat} {I : Nat → Nat → Int32} {L : Nat → Nat → Int64} {s n t : Nat} {v0 : Int32} (hm : mM s n t I) (hq : ∀ r I1 L1, mTx I I1 → mIM I1 → Q (some (.int r)) (mSH, I1, L1))   : mWP mTb_ mFT ro (d + 5, 158, 0, [some (.ref 34), some (.int v0)], [], 0, 0, (mSH, I, L)) Q := by
  refine mB 3 (s2 := (d + 5, 158, 4, [some (.ref 34), some (.int v0)], [.int 9, .int 0, .int v0], 0, 0, (mSH, I, L))) rfl ?_
  refine mCall (s2 := (d + 4, 112, 0, [some (.int v0), some (.int 0), some (.int 9)], [], 0, 0, (mSH, I, L))) rfl ?_
  refine mB 2 (s2 := (d + 4, 112, 2, [some (.int v0), some (.int 0), some (.int 9)], [.int 0, .int v0], 0, 0, (mSH, I, L))) rfl ?_
  refine mBr (s2 := (d + 4, 112, 14, [some (.int v0), some (.int 0), some (.int 9)], [], 0, 0, (mSH, I, L))) (s3 := (d + 4, 112, 5, [some (.int v0), some (.int 0), some (.int 9)], [], 0, 0, (mSH, I, L))) rfl (fun c0 => ?_) (fun c0 => ?_)
  · refine mB 1 (s2 := (d + 4, 112, 15, [some (.int v0), some (.int 0), some (.int 9)], [.int 0], 0, 0, (mSH, I, L))) rfl ?_
    refine mRt (r := (some (.int 0))) (h := (mSH, I, L)) rfl rfl ?_
    show mWP mTb_ mFT ro (d + 5, 158, 7, [some (.ref 34), some (.int v0)], [.int 0], 0, 0, (mSH, I, L)) _
    refine mBT (s2 := (d + 5, 158, 18, [some (.ref 34), some (.int v0)], [], 0, 0, (mSH, I, L))) rfl (by decide) ?_
    refine mB 2 (s2 := (d + 5, 158, 21, [some (.ref 34), some (.int v0)], [.int (-2), .ref 34], 0, 0, (mSH, I, L))) rfl ?_
    refine mCall (s2 := (d + 4, 113, 0, [some (.ref 34), some (.int (-2))], [], 0, 0, (mSH, I, L))) rfl ?_
    refine mB 6 (s2 := (d + 4, 113, 9, [some (.ref 34), some (.int (-2))], [.int 0, .ref 39, .int 0, .ref 39], 0, 0, (mSH, I, L))) rfl ?_
    refine mRq (s2 := (d + 4, 113, 10, [some (.ref 34), some (.int (-2))], [.int (I 39 0), .int 0, .ref 39], 0, 0, (mSH, I, L))) rfl (by decide) ?_
    refine mB 2 (s2 := (d + 4, 113, 12, [some (.ref 34), some (.int (-2))], [.int ((I 39 0) + 1), .int 0, .ref 39], 0, 0, (mSH, I, L))) rfl ?_
    refine mRq (s2 := (d + 4, 113, 13, [some (.ref 34), some (.int (-2))], [], 0, 0, (mSH, (mUp I 39 0 ((I 39 0) + 1)), L))) rfl (by decide) ?_
    refine mB 1 (s2 := (d + 4, 113, 14, [some (.ref 34), some (.int (-2))], [.int (-2)], 0, 0, (mSH, (mUp I 39 0 ((I 39 0) + 1)), L))) rfl ?_
    refine mRt (r := (some (.int (-2)))) (h := (mSH, (mUp I 39 0 ((I 39 0) + 1)), L)) rfl (mRet_int rfl) ?_
    show mWP mTb_ mFT ro (d + 5, 158, 24, [some (.ref 34), some (.int v0)], [.int (-2)], 0, 0, (mSH, (mUp I 39 0 ((I 39 0) + 1)), L)) _
    refine mRt (r := (some (.int (-2)))) (h := (mSH, (mUp I 39 0 ((I 39 0) + 1)), L)) rfl (mRet_int rfl) ?_
    exact hq _ _ _ ((mGr.up (by rfl) mGr.rf)).x ⟨s, n, t, ((mGr.up (by rfl) mGr.rf)).m hm⟩
  · refine mB 2 (s2 := (d + 4, 112, 7, [some (.int v0), some (.int 0), some (.int 9)], [.int 9, .int v0], 0, 0, (mSH, I, L))) rfl ?_
    refine mBr (s2 := (d + 4, 112, 14, [some (.int v0), some (.int 0), some (.int 9)], [], 0, 0, (mSH, I, L))) (s3 := (d + 4, 112, 10, [some (.int v0), some (.int 0), some (.int 9)], [], 0, 0, (mSH, I, L))) rfl (fun c1 => ?_) (fun c1 => ?_)
    · refine mB 1 (s2 := (d + 4, 112, 15, [some (.int v0), some (.int 0), some (.int 9)], [.int 0], 0, 0, (mSH, I, L))) rfl ?_
      refine mRt (r := (some (.int 0))) (h := (mSH, I, L)) rfl rfl ?_
      show mWP mTb_ mFT ro (d + 5, 158, 7, [some (.ref 34), some (.int v0)], [.int 0], 0, 0, (mSH, I, L)) _
      refine mBT (s2 := (d + 5, 158, 18, [some (.ref 34), some (.int v0)], [], 0, 0, (mSH, I, L))) rfl (by decide) ?_
      refine mB 2 (s2 := (d + 5, 158, 21, [some (.ref 34), some (.int v0)], [.int (-2), .ref 34], 0, 0, (mSH, I, L))) rfl ?_
      refine mCall (s2 := (d + 4, 113, 0, [some (.ref 34), some (.int (-2))], [], 0, 0, (mSH, I, L))) rfl ?_
      refine mB 6 (s2 := (d + 4, 113, 9, [some (.ref 34), some (.int (-2))], [.int 0, .ref 39, .int 0, .ref 39], 0, 0, (mSH, I, L))) rfl ?_
      refine mRq (s2 := (d + 4, 113, 10, [some (.ref 34), some (.int (-2))], [.int (I 39 0), .int 0, .ref 39], 0, 0, (mSH, I, L))) rfl (by decide) ?_
      refine mB 2 (s2 := (d + 4, 113, 12, [some (.ref 34), some (.int (-2))], [.int ((I 39 0) + 1), .int 0, .ref 39], 0, 0, (mSH, I, L))) rfl ?_
      refine mRq (s2 := (d + 4, 113, 13, [some (.ref 34), some (.int (-2))], [], 0, 0, (mSH, (mUp I 39 0 ((I 39 0) + 1)), L))) rfl (by decide) ?_
      refine mB 1 (s2 := (d + 4, 113, 14, [some (.ref 34), some (.int (-2))], [.int (-2)], 0, 0, (mSH, (mUp I 39 0 ((I 39 0) + 1)), L))) rfl ?_
      refine mRt (r := (some (.int (-2)))) (h := (mSH, (mUp I 39 0 ((I 39 0) + 1)), L)) rfl (mRet_int rfl) ?_
      show mWP mTb_ mFT ro (d + 5, 158, 24, [some (.ref 34), some (.int v0)], [.int (-2)], 0, 0, (mSH, (mUp I 39 0 ((I 39 0) + 1)), L)) _
      refine mRt (r := (some (.int (-2)))) (h := (mSH, (mUp I 39 0 ((I 39 0) + 1)), L)) rfl (mRet_int rfl) ?_
      exact hq _ _ _ ((mGr.up (by rfl) mGr.rf)).x ⟨s, n, t, ((mGr.up (by rfl) mGr.rf)).m hm⟩
    · refine mB 2 (s2 := (d + 4, 112, 15, [some (.int v0), some (.int 0), some (.int 9)], [.int 1], 0, 0, (mSH, I, L))) rfl ?_
      refine mRt (r := (some (.int 1))) (h := (mSH, I, L)) rfl rfl ?_
      show mWP mTb_ mFT ro (d + 5, 158, 7, [some (.ref 34), some (.int v0)], [.int 1], 0, 0, (mSH, I, L)) _
      refine mBF (s3 := (d + 5, 158, 10, [some (.ref 34), some (.int v0)], [], 0, 0, (mSH, I, L))) rfl (by decide) ?_
      refine mB 2 (s2 := (d + 5, 158, 12, [some (.ref 34), some (.int v0)], [.int v0, .ref 34], 0, 0, (mSH, I, L))) rfl ?_
      by_cases c2 : v0 = 0
      · refine mCall (s2 := (d + 4, 157, 0, [some (.ref 34), some (.int v0)], [], 0, 0, (mSH, I, L))) rfl ?_
        refine mB 1 (s2 := (d + 4, 157, 1, [some (.ref 34), some (.int v0)], [.int v0], 0, 0, (mSH, I, L))) rfl ?_
        refine mSw1 (t := (d + 4, 157, 44, [some (.ref 34), some (.int v0)], [], 0, 0, (mSH, I, L))) rfl (by simp only [c2]; rfl) ?_
        refine mB 3 (s2 := (d + 4, 157, 49, [some (.ref 34), some (.int v0)], [.int v0, .ref 39], 0, 0, (mSH, I, L))) rfl ?_
        refine mRq (s2 := (d + 4, 157, 50, [some (.ref 34), some (.int v0)], [.int (I 39 v0.toNatClampNeg)], 0, 0, (mSH, I, L))) rfl (by first | (simp only [c2]; first | decide | rfl) | decide | rfl) ?_
        refine mRt (r := (some (.int (I 39 v0.toNatClampNeg)))) (h := (mSH, I, L)) rfl (mRet_int rfl) ?_
        show mWP mTb_ mFT ro (d + 5, 158, 15, [some (.ref 34), some (.int v0)], [.int (I 39 v0.toNatClampNeg)], 0, 0, (mSH, I, L)) _
        refine mB 1 (s2 := (d + 5, 158, 24, [some (.ref 34), some (.int v0)], [.int (I 39 v0.toNatClampNeg)], 0, 0, (mSH, I, L))) rfl ?_
        refine mRt (r := (some (.int (I 39 v0.toNatClampNeg)))) (h := (mSH, I, L)) rfl (mRet_int rfl) ?_
        exact hq _ _ _ (mGr.rf).x ⟨s, n, t, (mGr.rf).m hm⟩
      · by_cases c3 : v0 = 1
        · refine mCall (s2 := (d + 4, 157, 0, [some (.ref 34), some (.int v0)], [], 0, 0, (mSH, I, L))) rfl ?_
          refine mB 1 (s2 := (d + 4, 157, 1, [some (.ref 34), some (.int v0)], [.int v0], 0, 0, (mSH, I, L))) rfl ?_
          refine mSw1 (t := (d + 4, 157, 44, [some (.ref 34), some (.int v0)], [], 0, 0, (mSH, I, L))) rfl (by simp only [c3]; rfl) ?_
          refine mB 3 (s2 := (d + 4, 157, 49, [some (.ref 34), some (.int v0)], [.int v0, .ref 39], 0, 0, (mSH, I, L))) rfl ?_
          refine mRq (s2 := (d + 4, 157, 50, [some (.ref 34), some (.int v0)], [.int (I 39 v0.toNatClampNeg)], 0, 0, (mSH, I, L))) rfl (by first | (simp only [c3]; first | decide | rfl) | decide | rfl) ?_
          refine mRt (r := (some (.int (I 39 v0.toNatClampNeg)))) (h := (mSH, I, L)) rfl (mRet_int rfl) ?_
          show mWP mTb_ mFT ro (d + 5, 158, 15, [some (.ref 34), some (.int v0)], [.int (I 39 v0.toNatClampNeg)], 0, 0, (mSH, I, L)) _
          refine mB 1 (s2 := (d + 5, 158, 24, [some (.ref 34), some (.int v0)], [.int (I 39 v0.toNatClampNeg)], 0, 0, (mSH, I, L))) rfl ?_
          refine mRt (r := (some (.int (I 39 v0.toNatClampNeg)))) (h := (mSH, I, L)) rfl (mRet_int rfl) ?_
          exact hq _ _ _ (mGr.rf).x ⟨s, n, t, (mGr.rf).m hm⟩
        · by_cases c4 : v0 = 2
          · refine mCall (s2 := (d + 4, 157, 0, [some (.ref 34), some (.int v0)], [], 0, 0, (mSH, I, L))) rfl ?_
            refine mB 1 (s2 := (d + 4, 157, 1, [some (.ref 34), some (.int v0)], [.int v0], 0, 0, (mSH, I, L))) rfl ?_
            refine mSw1 (t := (d + 4, 157, 44, [some (.ref 34), some (.int v0)], [], 0, 0, (mSH, I, L))) rfl (by simp only [c4]; rfl) ?_
            refine mB 3 (s2 := (d + 4, 157, 49, [some (.ref 34), some (.int v0)], [.int v0, .ref 39], 0, 0, (mSH, I, L))) rfl ?_
            refine mRq (s2 := (d + 4, 157, 50, [some (.ref 34), some (.int v0)], [.int (I 39 v0.toNatClampNeg)], 0, 0, (mSH, I, L))) rfl (by first | (simp only [c4]; first | decide | rfl) | decide | rfl) ?_
            refine mRt (r := (some (.int (I 39 v0.toNatClampNeg)))) (h := (mSH, I, L)) rfl (mRet_int rfl) ?_
            show mWP mTb_ mFT ro (d + 5, 158, 15, [some (.ref 34), some (.int v0)], [.int (I 39 v0.toNatClampNeg)], 0, 0, (mSH, I, L)) _
            refine mB 1 (s2 := (d + 5, 158, 24, [some (.ref 34), some (.int v0)], [.int (I 39 v0.toNatClampNeg)], 0, 0, (mSH, I, L))) rfl ?_
            refine mRt (r := (some (.int (I 39 v0.toNatClampNeg)))) (h := (mSH, I, L)) rfl (mRet_int rfl) ?_
            exact hq _ _ _ (mGr.rf).x ⟨s, n, t, (mGr.rf).m hm⟩
          · by_cases c5 : v0 = 3
            · refine mCall (s2 := (d + 4, 157, 0, [some (.ref 34), some (.int v0)], [], 0, 0, (mSH, I, L))) rfl ?_
              refine mB 1 (s2 := (d + 4, 157, 1, [some (.ref 34), some (.int v0)], [.int v0], 0, 0, (mSH, I, L))) rfl ?_
              refine mSw1 (t := (d + 4, 157, 51, [some (.ref 34), some (.int v0)], [], 0, 0, (mSH, I, L))) rfl (by simp only [c5]; rfl) ?_
              refine mB 2 (s2 := (d + 4, 157, 55, [some (.ref 34), some (.int v0)], [.int (I 34 11)], 0, 0, (mSH, I, L))) rfl ?_
              refine mRt (r := (some (.int (I 34 11)))) (h := (mSH, I, L)) rfl (mRet_int rfl) ?_
              show mWP mTb_ mFT ro (d + 5, 158, 15, [some (.ref 34), some (.int v0)], [.int (I 34 11)], 0, 0, (mSH, I, L)) _
              refine mB 1 (s2 := (d + 5, 158, 24, [some (.ref 34), some (.int v0)], [.int (I 34 11)], 0, 0, (mSH, I, L))) rfl ?_
              refine mRt (r := (some (.int (I 34 11)))) (h := (mSH, I, L)) rfl (mRet_int rfl) ?_
              exact hq _ _ _ (mGr.rf).x ⟨s, n, t, (mGr.rf).m hm⟩
            · by_cases c6 : v0 = 4
              · refine mCall (s2 := (d + 4, 157, 0, [some (.ref 34), some (.int v0)], [], 0, 0, (mSH, I, L))) rfl ?_
                refine mB 1 (s2 := (d + 4, 157, 1, [some (.ref 34), some (.int v0)], [.int v0], 0, 0, (mSH, I, L))) rfl ?_
                refine mSw1 (t := (d + 4, 157, 56, [some (.ref 34), some (.int v0)], [], 0, 0, (mSH, I, L))) rfl (by simp only [c6]; rfl) ?_
                refine mB 2 (s2 := (d + 4, 157, 60, [some (.ref 34), some (.int v0)], [.int (I 34 1)], 0, 0, (mSH, I, L))) rfl ?_
                refine mRt (r := (some (.int (I 34 1)))) (h := (mSH, I, L)) rfl (mRet_int rfl) ?_
                show mWP mTb_ mFT ro (d + 5, 158, 15, [some (.ref 34), some (.int v0)], [.int (I 34 1)], 0, 0, (mSH, I, L)) _
                refine mB 1 (s2 := (d + 5, 158, 24, [some (.ref 34), some (.int v0)], [.int (I 34 1)], 0, 0, (mSH, I, L))) rfl ?_
                refine mRt (r := (some (.int (I 34 1)))) (h := (mSH, I, L)) rfl (mRet_int rfl) ?_
                exact hq _ _ _ (mGr.rf).x ⟨s, n, t, (mGr.rf).m hm⟩
              · by_cases c7 : v0 = 5
                · refine mCall (s2 := (d + 4, 157, 0, [some (.ref 34), some (.int v0)], [], 0, 0, (mSH, I, L))) rfl ?_
                  refine mB 1 (s2 := (d + 4, 157, 1, [some (.ref 34), some (.int v0)], [.int v0], 0, 0, (mSH, I, L))) rfl ?_
                  refine mSw1 (t := (d + 4, 157, 61, [some (.ref 34), some (.int v0)], [], 0, 0, (mSH, I, L))) rfl (by simp only [c7]; rfl) ?_
                  refine mB 2 (s2 := (d + 4, 157, 65, [some (.ref 34), some (.int v0)], [.int (I 34 3)], 0, 0, (mSH, I, L))) rfl ?_
                  refine mRt (r := (some (.int (I 34 3)))) (h := (mSH, I, L)) rfl (mRet_int rfl) ?_
                  show mWP mTb_ mFT ro (d + 5, 158, 15, [some (.ref 34), some (.int v0)], [.int (I 34 3)], 0, 0, (mSH, I, L)) _
                  refine mB 1 (s2 := (d + 5, 158, 24, [some (.ref 34), some (.int v0)], [.int (I 34 3)], 0, 0, (mSH, I, L))) rfl ?_
                  refine mRt (r := (some (.int (I 34 3)))) (h := (mSH, I, L)) rfl (mRet_int rfl) ?_
                  exact hq _ _ _ (mGr.rf).x ⟨s, n, t, (mGr.rf).m hm⟩
                · by_cases c8 : v0 = 6
                  · refine mCall (s2 := (d + 4, 157, 0, [some (.ref 34), some (.int v0)], [], 0, 0, (mSH, I, L))) rfl ?_
                    refine mB 1 (s2 := (d + 4, 157, 1, [some (.ref 34), some (.int v0)], [.int v0], 0, 0, (mSH, I, L))) rfl ?_
                    refine mSw1 (t := (d + 4, 157, 66, [some (.ref 34), some (.int v0)], [], 0, 0, (mSH, I, L))) rfl (by simp only [c8]; rfl) ?_
                    refine mB 2 (s2 := (d + 4, 157, 70, [some (.ref 34), some (.int v0)], [.int (I 34 4)], 0, 0, (mSH, I, L))) rfl ?_
                    refine mRt (r := (some (.int (I 34 4)))) (h := (mSH, I, L)) rfl (mRet_int rfl) ?_
                    show mWP mTb_ mFT ro (d + 5, 158, 15, [some (.ref 34), some (.int v0)], [.int (I 34 4)], 0, 0, (mSH, I, L)) _
                    refine mB 1 (s2 := (d + 5, 158, 24, [some (.ref 34), some (.int v0)], [.int (I 34 4)], 0, 0, (mSH, I, L))) rfl ?_
                    refine mRt (r := (some (.int (I 34 4)))) (h := (mSH, I, L)) rfl (mRet_int rfl) ?_
                    exact hq _ _ _ (mGr.rf).x ⟨s, n, t, (mGr.rf).m hm⟩
                  · by_cases c9 : v0 = 7
                    · refine mCall (s2 := (d + 4, 157, 0, [some (.ref 34), some (.int v0)], [], 0, 0, (mSH, I, L))) rfl ?_
                      refine mB 1 (s2 := (d + 4, 157, 1, [some (.ref 34), some (.int v0)], [.int v0], 0, 0, (mSH, I, L))) rfl ?_
                      refine mSw1 (t := (d + 4, 157, 71, [some (.ref 34), some (.int v0)], [], 0, 0, (mSH, I, L))) rfl (by simp only [c9]; rfl) ?_
                      refine mB 5 (s2 := (d + 4, 157, 79, [some (.ref 34), some (.int v0)], [.int (v0 - 7), .ref 38], 0, 0, (mSH, I, L))) rfl ?_
                      refine mRq (s2 := (d + 4, 157, 80, [some (.ref 34), some (.int v0)], [.int (I 38 ((v0 - 7).toNatClampNeg))], 0, 0, (mSH, I, L))) rfl (by first | (simp only [c9]; first | decide | rfl) | decide | rfl) ?_
                      refine mRt (r := (some (.int (I 38 ((v0 - 7).toNatClampNeg))))) (h := (mSH, I, L)) rfl (mRet_int rfl) ?_
                      show mWP mTb_ mFT ro (d + 5, 158, 15, [some (.ref 34), some (.int v0)], [.int (I 38 ((v0 - 7).toNatClampNeg))], 0, 0, (mSH, I, L)) _
                      refine mB 1 (s2 := (d + 5, 158, 24, [some (.ref 34), some (.int v0)], [.int (I 38 ((v0 - 7).toNatClampNeg))], 0, 0, (mSH, I, L))) rfl ?_
                      refine mRt (r := (some (.int (I 38 ((v0 - 7).toNatClampNeg))))) (h := (mSH, I, L)) rfl (mRet_int rfl) ?_
                      exact hq _ _ _ (mGr.rf).x ⟨s, n, t, (mGr.rf).m hm⟩
                    · by_cases c10 : v0 = 8
                      · refine mCall (s2 := (d + 4, 157, 0, [some (.ref 34), some (.int v0)], [], 0, 0, (mSH, I, L))) rfl ?_
                        refine mB 1 (s2 := (d + 4, 157, 1, [some (.ref 34), some (.int v0)], [.int v0], 0, 0, (mSH, I, L))) rfl ?_
                        refine mSw1 (t := (d + 4, 157, 71, [some (.ref 34), some (.int v0)], [], 0, 0, (mSH, I, L))) rfl (by simp only [c10]; rfl) ?_
                        refine mB 5 (s2 := (d + 4, 157, 79, [some (.ref 34), some (.int v0)], [.int (v0 - 7), .ref 38], 0, 0, (mSH, I, L))) rfl ?_
                        refine mRq (s2 := (d + 4, 157, 80, [some (.ref 34), some (.int v0)], [.int (I 38 ((v0 - 7).toNatClampNeg))], 0, 0, (mSH, I, L))) rfl (by first | (simp only [c10]; first | decide | rfl) | decide | rfl) ?_
                        refine mRt (r := (some (.int (I 38 ((v0 - 7).toNatClampNeg))))) (h := (mSH, I, L)) rfl (mRet_int rfl) ?_
                        show mWP mTb_ mFT ro (d + 5, 158, 15, [some (.ref 34), some (.int v0)], [.int (I 38 ((v0 - 7).toNatClampNeg))], 0, 0, (mSH, I, L)) _
                        refine mB 1 (s2 := (d + 5, 158, 24, [some (.ref 34), some (.int v0)], [.int (I 38 ((v0 - 7).toNatClampNeg))], 0, 0, (mSH, I, L))) rfl ?_
                        refine mRt (r := (some (.int (I 38 ((v0 - 7).toNatClampNeg))))) (h := (mSH, I, L)) rfl (mRet_int rfl) ?_
                        exact hq _ _ _ (mGr.rf).x ⟨s, n, t, (mGr.rf).m hm⟩
                      · by_cases c11 : v0 = 9
                        · refine mCall (s2 := (d + 4, 157, 0, [some (.ref 34), some (.int v0)], [], 0, 0, (mSH, I, L))) rfl ?_
                          refine mB 1 (s2 := (d + 4, 157, 1, [some (.ref 34), some (.int v0)], [.int v0], 0, 0, (mSH, I, L))) rfl ?_
                          refine mSw1 (t := (d + 4, 157, 71, [some (.ref 34), some (.int v0)], [], 0, 0, (mSH, I, L))) rfl (by simp only [c11]; rfl) ?_
                          refine mB 5 (s2 := (d + 4, 157, 79, [some (.ref 34), some (.int v0)], [.int (v0 - 7), .ref 38], 0, 0, (mSH, I, L))) rfl ?_
                          refine mRq (s2 := (d + 4, 157, 80, [some (.ref 34), some (.int v0)], [.int (I 38 ((v0 - 7).toNatClampNeg))], 0, 0, (mSH, I, L))) rfl (by first | (simp only [c11]; first | decide | rfl) | decide | rfl) ?_
                          refine mRt (r := (some (.int (I 38 ((v0 - 7).toNatClampNeg))))) (h := (mSH, I, L)) rfl (mRet_int rfl) ?_
                          show mWP mTb_ mFT ro (d + 5, 158, 15, [some (.ref 34), some (.int v0)], [.int (I 38 ((v0 - 7).toNatClampNeg))], 0, 0, (mSH, I, L)) _
                          refine mB 1 (s2 := (d + 5, 158, 24, [some (.ref 34), some (.int v0)], [.int (I 38 ((v0 - 7).toNatClampNeg))], 0, 0, (mSH, I, L))) rfl ?_
                          refine mRt (r := (some (.int (I 38 ((v0 - 7).toNatClampNeg))))) (h := (mSH, I, L)) rfl (mRet_int rfl) ?_
                          exact hq _ _ _ (mGr.rf).x ⟨s, n, t, (mGr.rf).m hm⟩
                        · refine mCall (s2 := (d + 4, 157, 0, [some (.ref 34), some (.int v0)], [], 0, 0, (mSH, I, L))) rfl ?_
                          refine mB 1 (s2 := (d + 4, 157, 1, [some (.ref 34), some (.int v0)], [.int v0], 0, 0, (mSH, I, L))) rfl ?_
                          refine mSwA (l := [(decide (v0.toInt < 0 ∨ 6 < v0.toInt), (d + 4, 157, 71, [some (.ref 34), some (.int v0)], [], 0, 0, (mSH, I, L))), (decide (v0.toInt = 0), (d + 4, 157, 44, [some (.ref 34), some (.int v0)], [], 0, 0, (mSH, I, L))), (decide (v0.toInt = 1), (d + 4, 157, 44, [some (.ref 34), some (.int v0)], [], 0, 0, (mSH, I, L))), (decide (v0.toInt = 2), (d + 4, 157, 44, [some (.ref 34), some (.int v0)], [], 0, 0, (mSH, I, L))), (decide (v0.toInt = 3), (d + 4, 157, 51, [some (.ref 34), some (.int v0)], [], 0, 0, (mSH, I, L))), (decide (v0.toInt = 4), (d + 4, 157, 56, [some (.ref 34), some (.int v0)], [], 0, 0, (mSH, I, L))), (decide (v0.toInt = 5), (d + 4, 157, 61, [some (.ref 34), some (.int v0)], [], 0, 0, (mSH, I, L))), (decide (v0.toInt = 6), (d + 4, 157, 66, [some (.ref 34), some (.int v0)], [], 0, 0, (mSH, I, L)))]) rfl ⟨fun c12 => ?_, fun c12 => ?_, fun c12 => ?_, fun c12 => ?_, fun c12 => ?_, fun c12 => ?_, fun c12 => ?_, fun c12 => ?_, trivial⟩
                          · refine mB 5 (s2 := (d + 4, 157, 79, [some (.ref 34), some (.int v0)], [.int (v0 - 7), .ref 38], 0, 0, (mSH, I, L))) rfl ?_
                            refine mRq (s2 := (d + 4, 157, 80, [some (.ref 34), some (.int v0)], [.int (I 38 ((v0 - 7).toNatClampNeg))], 0, 0, (mSH, I, L))) rfl (mVp_of (False.elim (by have a0 := of_decide_eq_false c0; have a1 := of_decide_eq_false c1; have a2 := c2; have a3 := c3; have a4 := c4; have a5 := c5; have a6 := c6; have a7 := c7; have a8 := c8; have a9 := c9; have a10 := c10; have a11 := c11; simp only [Int32.lt_iff_toInt_lt, Int32.le_iff_toInt_le, ← Int32.toInt_inj, mLi0, mLi1, mLi2, mLi3, mLi4, mLi5, mLi6, mLi7, mLi8, mLi9, mLi10, mLi16, mLi32, mLi48, mLi57, mLi59, mLi65, mLi90, mLi97, mLi99, mLi120, mLi122, mLi127, mLi1584, mLi999999, mLim] at a0 a1 a2 a3 a4 a5 a6 a7 a8 a9 a10 a11; omega))) ?_
                            refine mRt (r := (some (.int (I 38 ((v0 - 7).toNatClampNeg))))) (h := (mSH, I, L)) rfl (mRet_int rfl) ?_
                            show mWP mTb_ mFT ro (d + 5, 158, 15, [some (.ref 34), some (.int v0)], [.int (I 38 ((v0 - 7).toNatClampNeg))], 0, 0, (mSH, I, L)) _
                            refine mB 1 (s2 := (d + 5, 158, 24, [some (.ref 34), some (.int v0)], [.int (I 38 ((v0 - 7).toNatClampNeg))], 0, 0, (mSH, I, L))) rfl ?_
                            refine mRt (r := (some (.int (I 38 ((v0 - 7).toNatClampNeg))))) (h := (mSH, I, L)) rfl (mRet_int rfl) ?_
                            exact hq _ _ _ (mGr.rf).x ⟨s, n, t, (mGr.rf).m hm⟩
                          · refine mB 3 (s2 := (d + 4, 157, 49, [some (.ref 34), some (.int v0)], [.int v0, .ref 39], 0, 0, (mSH, I, L))) rfl ?_
                            refine mRq (s2 := (d + 4, 157, 50, [some (.ref 34), some (.int v0)], [.int (I 39 v0.toNatClampNeg)], 0, 0, (mSH, I, L))) rfl (by first | (simp only [mTI (y := 0) (of_decide_eq_true c12) rfl]; first | decide | rfl) | decide | rfl) ?_
                            refine mRt (r := (some (.int (I 39 v0.toNatClampNeg)))) (h := (mSH, I, L)) rfl (mRet_int rfl) ?_
                            show mWP mTb_ mFT ro (d + 5, 158, 15, [some (.ref 34), some (.int v0)], [.int (I 39 v0.toNatClampNeg)], 0, 0, (mSH, I, L)) _
                            refine mB 1 (s2 := (d + 5, 158, 24, [some (.ref 34), some (.int v0)], [.int (I 39 v0.toNatClampNeg)], 0, 0, (mSH, I, L))) rfl ?_
                            refine mRt (r := (some (.int (I 39 v0.toNatClampNeg)))) (h := (mSH, I, L)) rfl (mRet_int rfl) ?_
                            exact hq _ _ _ (mGr.rf).x ⟨s, n, t, (mGr.rf).m hm⟩
                          · refine mB 3 (s2 := (d + 4, 157, 49, [some (.ref 34), some (.int v0)], [.int v0, .ref 39], 0, 0, (mSH, I, L))) rfl ?_
                            refine mRq (s2 := (d + 4, 157, 50, [some (.ref 34), some (.int v0)], [.int (I 39 v0.toNatClampNeg)], 0, 0, (mSH, I, L))) rfl (by first | (simp only [mTI (y := 1) (of_decide_eq_true c12) rfl]; first | decide | rfl) | decide | rfl) ?_
                            refine mRt (r := (some (.int (I 39 v0.toNatClampNeg)))) (h := (mSH, I, L)) rfl (mRet_int rfl) ?_
                            show mWP mTb_ mFT ro (d + 5, 158, 15, [some (.ref 34), some (.int v0)], [.int (I 39 v0.toNatClampNeg)], 0, 0, (mSH, I, L)) _
                            refine mB 1 (s2 := (d + 5, 158, 24, [some (.ref 34), some (.int v0)], [.int (I 39 v0.toNatClampNeg)], 0, 0, (mSH, I, L))) rfl ?_
                            refine mRt (r := (some (.int (I 39 v0.toNatClampNeg)))) (h := (mSH, I, L)) rfl (mRet_int rfl) ?_
                            exact hq _ _ _ (mGr.rf).x ⟨s, n, t, (mGr.rf).m hm⟩
                          · refine mB 3 (s2 := (d + 4, 157, 49, [some (.ref 34), some (.int v0)], [.int v0, .ref 39], 0, 0, (mSH, I, L))) rfl ?_
                            refine mRq (s2 := (d + 4, 157, 50, [some (.ref 34), some (.int v0)], [.int (I 39 v0.toNatClampNeg)], 0, 0, (mSH, I, L))) rfl (by first | (simp only [mTI (y := 2) (of_decide_eq_true c12) rfl]; first | decide | rfl) | decide | rfl) ?_
                            refine mRt (r := (some (.int (I 39 v0.toNatClampNeg)))) (h := (mSH, I, L)) rfl (mRet_int rfl) ?_
                            show mWP mTb_ mFT ro (d + 5, 158, 15, [some (.ref 34), some (.int v0)], [.int (I 39 v0.toNatClampNeg)], 0, 0, (mSH, I, L)) _
                            refine mB 1 (s2 := (d + 5, 158, 24, [some (.ref 34), some (.int v0)], [.int (I 39 v0.toNatClampNeg)], 0, 0, (mSH, I, L))) rfl ?_
                            refine mRt (r := (some (.int (I 39 v0.toNatClampNeg)))) (h := (mSH, I, L)) rfl (mRet_int rfl) ?_
                            exact hq _ _ _ (mGr.rf).x ⟨s, n, t, (mGr.rf).m hm⟩
                          · refine mB 2 (s2 := (d + 4, 157, 55, [some (.ref 34), some (.int v0)], [.int (I 34 11)], 0, 0, (mSH, I, L))) rfl ?_
                            refine mRt (r := (some (.int (I 34 11)))) (h := (mSH, I, L)) rfl (mRet_int rfl) ?_
                            show mWP mTb_ mFT ro (d + 5, 158, 15, [some (.ref 34), some (.int v0)], [.int (I 34 11)], 0, 0, (mSH, I, L)) _
                            refine mB 1 (s2 := (d + 5, 158, 24, [some (.ref 34), some (.int v0)], [.int (I 34 11)], 0, 0, (mSH, I, L))) rfl ?_
                            refine mRt (r := (some (.int (I 34 11)))) (h := (mSH, I, L)) rfl (mRet_int rfl) ?_
                            exact hq _ _ _ (mGr.rf).x ⟨s, n, t, (mGr.rf).m hm⟩
                          · refine mB 2 (s2 := (d + 4, 157, 60, [some (.ref 34), some (.int v0)], [.int (I 34 1)], 0, 0, (mSH, I, L))) rfl ?_
                            refine mRt (r := (some (.int (I 34 1)))) (h := (mSH, I, L)) rfl (mRet_int rfl) ?_
                            show mWP mTb_ mFT ro (d + 5, 158, 15, [some (.ref 34), some (.int v0)], [.int (I 34 1)], 0, 0, (mSH, I, L)) _
                            refine mB 1 (s2 := (d + 5, 158, 24, [some (.ref 34), some (.int v0)], [.int (I 34 1)], 0, 0, (mSH, I, L))) rfl ?_
                            refine mRt (r := (some (.int (I 34 1)))) (h := (mSH, I, L)) rfl (mRet_int rfl) ?_
                            exact hq _ _ _ (mGr.rf).x ⟨s, n, t, (mGr.rf).m hm⟩
                          · refine mB 2 (s2 := (d + 4, 157, 65, [some (.ref 34), some (.int v0)], [.int (I 34 3)], 0, 0, (mSH, I, L))) rfl ?_
                            refine mRt (r := (some (.int (I 34 3)))) (h := (mSH, I, L)) rfl (mRet_int rfl) ?_
                            show mWP mTb_ mFT ro (d + 5, 158, 15, [some (.ref 34), some (.int v0)], [.int (I 34 3)], 0, 0, (mSH, I, L)) _
                            refine mB 1 (s2 := (d + 5, 158, 24, [some (.ref 34), some (.int v0)], [.int (I 34 3)], 0, 0, (mSH, I, L))) rfl ?_
                            refine mRt (r := (some (.int (I 34 3)))) (h := (mSH, I, L)) rfl (mRet_int rfl) ?_
                            exact hq _ _ _ (mGr.rf).x ⟨s, n, t, (mGr.rf).m hm⟩
                          · refine mB 2 (s2 := (d + 4, 157, 70, [some (.ref 34), some (.int v0)], [.int (I 34 4)], 0, 0, (mSH, I, L))) rfl ?_
                            refine mRt (r := (some (.int (I 34 4)))) (h := (mSH, I, L)) rfl (mRet_int rfl) ?_
                            show mWP mTb_ mFT ro (d + 5, 158, 15, [some (.ref 34), some (.int v0)], [.int (I 34 4)], 0, 0, (mSH, I, L)) _
                            refine mB 1 (s2 := (d + 5, 158, 24, [some (.ref 34), some (.int v0)], [.int (I 34 4)], 0, 0, (mSH, I, L))) rfl ?_
                            refine mRt (r := (some (.int (I 34 4)))) (h := (mSH, I, L)) rfl (mRet_int rfl) ?_
                            exact hq _ _ _ (mGr.rf).x ⟨s, n, t, (mGr.rf).m hm⟩
theorem s_dg1 {ro : Nat → Nat × (Nat → Int32)} {Q : mPo} {d : Nat} {I : Nat → Nat → Int32} {L : Nat → Nat → Int64} {x : Int64} {k : Nat}  (h1 : ((I 34 1) ≤ (nI k)) → mWP mTb_ mFT ro (d + 5, 159, 63, [some (.ref 34), some (.long x), none, some (.int 0)], [], 0, 0, (mSH, I, L)) Q) (h2 : ¬ ((I 34 1) ≤ (nI k)) → vp_in (nI k) 16) (h3 : ¬ ((I 34 1) ≤ (nI k)) → mWP mTb_ mFT ro (d + 5, 159, 33, [some (.ref 34), some (.long ((31 * x) + ((I 35 ((nI k).toNatClampNeg) : Int32).toInt64))), none, some (.int ((nI k) + 1))], [], 0, 0, (mSH, I, L)) Q) : mWP mTb_ mFT ro (d + 5, 159, 33, [some (.ref 34), some (.long x), none, some (.int (nI k))], [], 0, 0, (mSH, I, L)) Q := by
  refine mB 3 (s2 := (d + 5, 159, 38, [some (.ref 34), some (.long x), none, some (.int (nI k))], [.int (I 34 1), .int (nI k)], 0, 0, (mSH, I, L))) rfl ?_
  refine mBr (s2 := (d + 5, 159, 61, [some (.ref 34), some (.long x), none, some (.int (nI k))], [], 0, 0, (mSH, I, L))) (s3 := (d + 5, 159, 41, [some (.ref 34), some (.long x), none, some (.int (nI k))], [], 0, 0, (mSH, I, L))) rfl (fun c0 => ?_) (fun c0 => ?_)
  · refine mB 2 (s2 := (d + 5, 159, 63, [some (.ref 34), some (.long x), none, some (.int 0)], [], 0, 0, (mSH, I, L))) rfl ?_
    exact h1 (of_decide_eq_true c0)
  · refine mB 6 (s2 := (d + 5, 159, 51, [some (.ref 34), some (.long x), none, some (.int (nI k))], [.int (nI k), .ref 35, .long (31 * x)], 0, 0, (mSH, I, L))) rfl ?_
    refine mRq (s2 := (d + 5, 159, 52, [some (.ref 34), some (.long x), none, some (.int (nI k))], [.int (I 35 ((nI k).toNatClampNeg)), .long (31 * x)], 0, 0, (mSH, I, L))) rfl (mVp_of (h2 (of_decide_eq_false c0))) ?_
    refine mB 5 (s2 := (d + 5, 159, 33, [some (.ref 34), some (.long ((31 * x) + ((I 35 ((nI k).toNatClampNeg) : Int32).toInt64))), none, some (.int ((nI k) + 1))], [], 0, 0, (mSH, I, L))) rfl ?_
    exact h3 (of_decide_eq_false c0)
theorem s_dg2 {ro : Nat → Nat × (Nat → Int32)} {Q : mPo} {d : Nat} {I : Nat → Nat → Int32} {L : Nat → Nat → Int64} {x : Int64} {k : Nat}  (h1 : ((I 34 3) ≤ (nI k)) → mWP mTb_ mFT ro (d + 5, 159, 93, [some (.ref 34), some (.long x), none, some (.int 0)], [], 0, 0, (mSH, I, L)) Q) (h2 : ¬ ((I 34 3) ≤ (nI k)) → vp_in (nI k) 8) (h3 : ¬ ((I 34 3) ≤ (nI k)) → mWP mTb_ mFT ro (d + 5, 159, 63, [some (.ref 34), some (.long ((31 * x) + ((I 36 ((nI k).toNatClampNeg) : Int32).toInt64))), none, some (.int ((nI k) + 1))], [], 0, 0, (mSH, I, L)) Q) : mWP mTb_ mFT ro (d + 5, 159, 63, [some (.ref 34), some (.long x), none, some (.int (nI k))], [], 0, 0, (mSH, I, L)) Q := by
  refine mB 3 (s2 := (d + 5, 159, 68, [some (.ref 34), some (.long x), none, some (.int (nI k))], [.int (I 34 3), .int (nI k)], 0, 0, (mSH, I, L))) rfl ?_
  refine mBr (s2 := (d + 5, 159, 91, [some (.ref 34), some (.long x), none, some (.int (nI k))], [], 0, 0, (mSH, I, L))) (s3 := (d + 5, 159, 71, [some (.ref 34), some (.long x), none, some (.int (nI k))], [], 0, 0, (mSH, I, L))) rfl (fun c0 => ?_) (fun c0 => ?_)
  · refine mB 2 (s2 := (d + 5, 159, 93, [some (.ref 34), some (.long x), none, some (.int 0)], [], 0, 0, (mSH, I, L))) rfl ?_
    exact h1 (of_decide_eq_true c0)
  · refine mB 6 (s2 := (d + 5, 159, 81, [some (.ref 34), some (.long x), none, some (.int (nI k))], [.int (nI k), .ref 36, .long (31 * x)], 0, 0, (mSH, I, L))) rfl ?_
    refine mRq (s2 := (d + 5, 159, 82, [some (.ref 34), some (.long x), none, some (.int (nI k))], [.int (I 36 ((nI k).toNatClampNeg)), .long (31 * x)], 0, 0, (mSH, I, L))) rfl (mVp_of (h2 (of_decide_eq_false c0))) ?_
    refine mB 5 (s2 := (d + 5, 159, 63, [some (.ref 34), some (.long ((31 * x) + ((I 36 ((nI k).toNatClampNeg) : Int32).toInt64))), none, some (.int ((nI k) + 1))], [], 0, 0, (mSH, I, L))) rfl ?_
    exact h3 (of_decide_eq_false c0)
theorem m_dg3 {ro : Nat → Nat × (Nat → Int32)} {Q : mPo} {d : Nat} {I : Nat → Nat → Int32} {L : Nat → Nat → Int64} {s n t : Nat} {x : Int64} (hm : mM s n t I) (hq : ∀ r I1 L1, mTx I I1 → mIM I1 → Q (some (.long r)) (mSH, I1, L1))   : mWP mTb_ mFT ro (d + 5, 159, 93, [some (.ref 34), some (.long x), none, some (.int 0)], [], 0, 0, (mSH, I, L)) Q := by
  refine mB 2 (s2 := (d + 5, 159, 95, [some (.ref 34), some (.long x), none, some (.int 0)], [.int 4, .int 0], 0, 0, (mSH, I, L))) rfl ?_
  refine mBF (s3 := (d + 5, 159, 98, [some (.ref 34), some (.long x), none, some (.int 0)], [], 0, 0, (mSH, I, L))) rfl (by decide) ?_
  refine mB 6 (s2 := (d + 5, 159, 108, [some (.ref 34), some (.long x), none, some (.int 0)], [.int 0, .ref 37, .long (31 * x)], 0, 0, (mSH, I, L))) rfl ?_
  refine mRq (s2 := (d + 5, 159, 109, [some (.ref 34), some (.long x), none, some (.int 0)], [.int (I 37 0), .long (31 * x)], 0, 0, (mSH, I, L))) rfl (by decide) ?_
  refine mB 7 (s2 := (d + 5, 159, 95, [some (.ref 34), some (.long ((31 * x) + ((I 37 0 : Int32).toInt64))), none, some (.int 1)], [.int 4, .int 1], 0, 0, (mSH, I, L))) rfl ?_
  refine mBF (s3 := (d + 5, 159, 98, [some (.ref 34), some (.long ((31 * x) + ((I 37 0 : Int32).toInt64))), none, some (.int 1)], [], 0, 0, (mSH, I, L))) rfl (by decide) ?_
  refine mB 6 (s2 := (d + 5, 159, 108, [some (.ref 34), some (.long ((31 * x) + ((I 37 0 : Int32).toInt64))), none, some (.int 1)], [.int 1, .ref 37, .long (31 * ((31 * x) + ((I 37 0 : Int32).toInt64)))], 0, 0, (mSH, I, L))) rfl ?_
  refine mRq (s2 := (d + 5, 159, 109, [some (.ref 34), some (.long ((31 * x) + ((I 37 0 : Int32).toInt64))), none, some (.int 1)], [.int (I 37 1), .long (31 * ((31 * x) + ((I 37 0 : Int32).toInt64)))], 0, 0, (mSH, I, L))) rfl (by decide) ?_
  refine mB 7 (s2 := (d + 5, 159, 95, [some (.ref 34), some (.long ((31 * ((31 * x) + ((I 37 0 : Int32).toInt64))) + ((I 37 1 : Int32).toInt64))), none, some (.int 2)], [.int 4, .int 2], 0, 0, (mSH, I, L))) rfl ?_
  refine mBF (s3 := (d + 5, 159, 98, [some (.ref 34), some (.long ((31 * ((31 * x) + ((I 37 0 : Int32).toInt64))) + ((I 37 1 : Int32).toInt64))), none, some (.int 2)], [], 0, 0, (mSH, I, L))) rfl (by decide) ?_
  refine mB 6 (s2 := (d + 5, 159, 108, [some (.ref 34), some (.long ((31 * ((31 * x) + ((I 37 0 : Int32).toInt64))) + ((I 37 1 : Int32).toInt64))), none, some (.int 2)], [.int 2, .ref 37, .long (31 * ((31 * ((31 * x) + ((I 37 0 : Int32).toInt64))) + ((I 37 1 : Int32).toInt64)))], 0, 0, (mSH, I, L))) rfl ?_
  refine mRq (s2 := (d + 5, 159, 109, [some (.ref 34), some (.long ((31 * ((31 * x) + ((I 37 0 : Int32).toInt64))) + ((I 37 1 : Int32).toInt64))), none, some (.int 2)], [.int (I 37 2), .long (31 * ((31 * ((31 * x) + ((I 37 0 : Int32).toInt64))) + ((I 37 1 : Int32).toInt64)))], 0, 0, (mSH, I, L))) rfl (by decide) ?_
  refine mB 7 (s2 := (d + 5, 159, 95, [some (.ref 34), some (.long ((31 * ((31 * ((31 * x) + ((I 37 0 : Int32).toInt64))) + ((I 37 1 : Int32).toInt64))) + ((I 37 2 : Int32).toInt64))), none, some (.int 3)], [.int 4, .int 3], 0, 0, (mSH, I, L))) rfl ?_
  refine mBF (s3 := (d + 5, 159, 98, [some (.ref 34), some (.long ((31 * ((31 * ((31 * x) + ((I 37 0 : Int32).toInt64))) + ((I 37 1 : Int32).toInt64))) + ((I 37 2 : Int32).toInt64))), none, some (.int 3)], [], 0, 0, (mSH, I, L))) rfl (by decide) ?_
  refine mB 6 (s2 := (d + 5, 159, 108, [some (.ref 34), some (.long ((31 * ((31 * ((31 * x) + ((I 37 0 : Int32).toInt64))) + ((I 37 1 : Int32).toInt64))) + ((I 37 2 : Int32).toInt64))), none, some (.int 3)], [.int 3, .ref 37, .long (31 * ((31 * ((31 * ((31 * x) + ((I 37 0 : Int32).toInt64))) + ((I 37 1 : Int32).toInt64))) + ((I 37 2 : Int32).toInt64)))], 0, 0, (mSH, I, L))) rfl ?_
  refine mRq (s2 := (d + 5, 159, 109, [some (.ref 34), some (.long ((31 * ((31 * ((31 * x) + ((I 37 0 : Int32).toInt64))) + ((I 37 1 : Int32).toInt64))) + ((I 37 2 : Int32).toInt64))), none, some (.int 3)], [.int (I 37 3), .long (31 * ((31 * ((31 * ((31 * x) + ((I 37 0 : Int32).toInt64))) + ((I 37 1 : Int32).toInt64))) + ((I 37 2 : Int32).toInt64)))], 0, 0, (mSH, I, L))) rfl (by decide) ?_
  refine mB 7 (s2 := (d + 5, 159, 95, [some (.ref 34), some (.long ((31 * ((31 * ((31 * ((31 * x) + ((I 37 0 : Int32).toInt64))) + ((I 37 1 : Int32).toInt64))) + ((I 37 2 : Int32).toInt64))) + ((I 37 3 : Int32).toInt64))), none, some (.int 4)], [.int 4, .int 4], 0, 0, (mSH, I, L))) rfl ?_
  refine mBT (s2 := (d + 5, 159, 118, [some (.ref 34), some (.long ((31 * ((31 * ((31 * ((31 * x) + ((I 37 0 : Int32).toInt64))) + ((I 37 1 : Int32).toInt64))) + ((I 37 2 : Int32).toInt64))) + ((I 37 3 : Int32).toInt64))), none, some (.int 4)], [], 0, 0, (mSH, I, L))) rfl (by decide) ?_
  refine mB 15 (s2 := (d + 5, 159, 141, [some (.ref 34), some (.long ((31 * ((31 * ((31 * ((31 * ((31 * ((31 * x) + ((I 37 0 : Int32).toInt64))) + ((I 37 1 : Int32).toInt64))) + ((I 37 2 : Int32).toInt64))) + ((I 37 3 : Int32).toInt64))) + (L 34 7))) + (L 34 8))), none, some (.int 4)], [.ref 34], 0, 0, (mSH, I, L))) rfl ?_
  refine mCall (s2 := (d + 4, 132, 0, [some (.ref 34)], [], 0, 0, (mSH, I, L))) rfl ?_
  refine w_isf hm ?_ ?_
  · intro K1 gK1
    show mWP mTb_ mFT ro (d + 5, 159, 144, [some (.ref 34), some (.long ((31 * ((31 * ((31 * ((31 * ((31 * ((31 * x) + ((I 37 0 : Int32).toInt64))) + ((I 37 1 : Int32).toInt64))) + ((I 37 2 : Int32).toInt64))) + ((I 37 3 : Int32).toInt64))) + (L 34 7))) + (L 34 8))), none, some (.int 4)], [.int 0], 0, 0, (mSH, K1, L)) _
    refine mB 7 (s2 := (d + 5, 159, 155, [some (.ref 34), some (.long ((31 * ((31 * ((31 * ((31 * ((31 * ((31 * x) + ((I 37 0 : Int32).toInt64))) + ((I 37 1 : Int32).toInt64))) + ((I 37 2 : Int32).toInt64))) + ((I 37 3 : Int32).toInt64))) + (L 34 7))) + (L 34 8))), none, some (.int 4)], [.int 0, .ref 46, .long (31 * ((31 * ((31 * ((31 * ((31 * ((31 * ((31 * x) + ((I 37 0 : Int32).toInt64))) + ((I 37 1 : Int32).toInt64))) + ((I 37 2 : Int32).toInt64))) + ((I 37 3 : Int32).toInt64))) + (L 34 7))) + (L 34 8)))], 0, 0, (mSH, K1, L))) rfl ?_
    refine mRq (s2 := (d + 5, 159, 156, [some (.ref 34), some (.long ((31 * ((31 * ((31 * ((31 * ((31 * ((31 * x) + ((I 37 0 : Int32).toInt64))) + ((I 37 1 : Int32).toInt64))) + ((I 37 2 : Int32).toInt64))) + ((I 37 3 : Int32).toInt64))) + (L 34 7))) + (L 34 8))), none, some (.int 4)], [.int (K1 46 0), .long (31 * ((31 * ((31 * ((31 * ((31 * ((31 * ((31 * x) + ((I 37 0 : Int32).toInt64))) + ((I 37 1 : Int32).toInt64))) + ((I 37 2 : Int32).toInt64))) + ((I 37 3 : Int32).toInt64))) + (L 34 7))) + (L 34 8)))], 0, 0, (mSH, K1, L))) rfl (by decide) ?_
    refine mB 2 (s2 := (d + 5, 159, 158, [some (.ref 34), some (.long ((31 * ((31 * ((31 * ((31 * ((31 * ((31 * x) + ((I 37 0 : Int32).toInt64))) + ((I 37 1 : Int32).toInt64))) + ((I 37 2 : Int32).toInt64))) + ((I 37 3 : Int32).toInt64))) + (L 34 7))) + (L 34 8))), none, some (.int 4)], [.long ((31 * ((31 * ((31 * ((31 * ((31 * ((31 * ((31 * x) + ((I 37 0 : Int32).toInt64))) + ((I 37 1 : Int32).toInt64))) + ((I 37 2 : Int32).toInt64))) + ((I 37 3 : Int32).toInt64))) + (L 34 7))) + (L 34 8))) + ((K1 46 0 : Int32).toInt64))], 0, 0, (mSH, K1, L))) rfl ?_
    refine mRt (r := (some (.long ((31 * ((31 * ((31 * ((31 * ((31 * ((31 * ((31 * x) + ((I 37 0 : Int32).toInt64))) + ((I 37 1 : Int32).toInt64))) + ((I 37 2 : Int32).toInt64))) + ((I 37 3 : Int32).toInt64))) + (L 34 7))) + (L 34 8))) + ((K1 46 0 : Int32).toInt64))))) (h := (mSH, K1, L)) rfl rfl ?_
    exact hq _ _ _ (gK1).x ⟨s, n, t, (gK1).m hm⟩
  · intro K1 gK1 vK1 pK1
    show mWP mTb_ mFT ro (d + 5, 159, 144, [some (.ref 34), some (.long ((31 * ((31 * ((31 * ((31 * ((31 * ((31 * x) + ((I 37 0 : Int32).toInt64))) + ((I 37 1 : Int32).toInt64))) + ((I 37 2 : Int32).toInt64))) + ((I 37 3 : Int32).toInt64))) + (L 34 7))) + (L 34 8))), none, some (.int 4)], [.int 1], 0, 0, (mSH, K1, L)) _
    refine mB 7 (s2 := (d + 5, 159, 155, [some (.ref 34), some (.long ((31 * ((31 * ((31 * ((31 * ((31 * ((31 * x) + ((I 37 0 : Int32).toInt64))) + ((I 37 1 : Int32).toInt64))) + ((I 37 2 : Int32).toInt64))) + ((I 37 3 : Int32).toInt64))) + (L 34 7))) + (L 34 8))), none, some (.int 4)], [.int 0, .ref 46, .long (31 * ((31 * ((31 * ((31 * ((31 * ((31 * ((31 * x) + ((I 37 0 : Int32).toInt64))) + ((I 37 1 : Int32).toInt64))) + ((I 37 2 : Int32).toInt64))) + ((I 37 3 : Int32).toInt64))) + (L 34 7))) + (L 34 8)))], 0, 0, (mSH, K1, L))) rfl ?_
    refine mRq (s2 := (d + 5, 159, 156, [some (.ref 34), some (.long ((31 * ((31 * ((31 * ((31 * ((31 * ((31 * x) + ((I 37 0 : Int32).toInt64))) + ((I 37 1 : Int32).toInt64))) + ((I 37 2 : Int32).toInt64))) + ((I 37 3 : Int32).toInt64))) + (L 34 7))) + (L 34 8))), none, some (.int 4)], [.int (K1 46 0), .long (31 * ((31 * ((31 * ((31 * ((31 * ((31 * ((31 * x) + ((I 37 0 : Int32).toInt64))) + ((I 37 1 : Int32).toInt64))) + ((I 37 2 : Int32).toInt64))) + ((I 37 3 : Int32).toInt64))) + (L 34 7))) + (L 34 8)))], 0, 0, (mSH, K1, L))) rfl (by decide) ?_
    refine mB 2 (s2 := (d + 5, 159, 158, [some (.ref 34), some (.long ((31 * ((31 * ((31 * ((31 * ((31 * ((31 * x) + ((I 37 0 : Int32).toInt64))) + ((I 37 1 : Int32).toInt64))) + ((I 37 2 : Int32).toInt64))) + ((I 37 3 : Int32).toInt64))) + (L 34 7))) + (L 34 8))), none, some (.int 4)], [.long ((31 * ((31 * ((31 * ((31 * ((31 * ((31 * ((31 * x) + ((I 37 0 : Int32).toInt64))) + ((I 37 1 : Int32).toInt64))) + ((I 37 2 : Int32).toInt64))) + ((I 37 3 : Int32).toInt64))) + (L 34 7))) + (L 34 8))) + ((K1 46 0 : Int32).toInt64))], 0, 0, (mSH, K1, L))) rfl ?_
    refine mRt (r := (some (.long ((31 * ((31 * ((31 * ((31 * ((31 * ((31 * ((31 * x) + ((I 37 0 : Int32).toInt64))) + ((I 37 1 : Int32).toInt64))) + ((I 37 2 : Int32).toInt64))) + ((I 37 3 : Int32).toInt64))) + (L 34 7))) + (L 34 8))) + ((K1 46 0 : Int32).toInt64))))) (h := (mSH, K1, L)) rfl rfl ?_
    exact hq _ _ _ (gK1).x ⟨s, n, t, (gK1).m hm⟩
theorem l_dg2 {ro : Nat → Nat × (Nat → Int32)} {Q : mPo} {d : Nat} {I : Nat → Nat → Int32} {L : Nat → Nat → Int64} {s n t : Nat} (hm : mM s n t I) (hq : ∀ r I1 L1, mTx I I1 → mIM I1 → Q (some (.long r)) (mSH, I1, L1)) : ∀ (e k : Nat), k + e = n → ∀ x : Int64, mWP mTb_ mFT ro (d + 5, 159, 63, [some (.ref 34), some (.long x), none, some (.int (nI k))], [], 0, 0, (mSH, I, L)) Q := by
  intro e
  have hb := hm.2.1.2
  induction e with
  | zero =>
    intro k he x
    have z : I 34 3 ≤ nI k := by rw [hm.2.1.1]; exact nI_le (by omega) (by omega)
    exact s_dg2 (fun _ => m_dg3 hm hq) (fun c => absurd z c) (fun c => absurd z c)
  | succ e ih =>
    intro k he x
    have z : ¬ I 34 3 ≤ nI k := by rw [hm.2.1.1]; exact nI_ge (by omega) (by omega)
    refine s_dg2 (fun c => absurd c z) (fun _ => vp_in_nI (by omega) (by omega)) (fun _ => ?_)
    rw [nI_1]
    exact ih (k + 1) (by omega) _
theorem l_dg1 {ro : Nat → Nat × (Nat → Int32)} {Q : mPo} {d : Nat} {I : Nat → Nat → Int32} {L : Nat → Nat → Int64} {s n t : Nat} (hm : mM s n t I) (hq : ∀ r I1 L1, mTx I I1 → mIM I1 → Q (some (.long r)) (mSH, I1, L1)) : ∀ (e k : Nat), k + e = s → ∀ x : Int64, mWP mTb_ mFT ro (d + 5, 159, 33, [some (.ref 34), some (.long x), none, some (.int (nI k))], [], 0, 0, (mSH, I, L)) Q := by
  intro e
  have hb := hm.1.2
  induction e with
  | zero =>
    intro k he x
    have z : I 34 1 ≤ nI k := by rw [hm.1.1]; exact nI_le (by omega) (by omega)
    exact s_dg1 (fun _ => l_dg2 hm hq n 0 (by omega) _) (fun c => absurd z c) (fun c => absurd z c)
  | succ e ih =>
    intro k he x
    have z : ¬ I 34 1 ≤ nI k := by rw [hm.1.1]; exact nI_ge (by omega) (by omega)
    refine s_dg1 (fun c => absurd c z) (fun _ => vp_in_nI (by omega) (by omega)) (fun _ => ?_)
    rw [nI_1]
    exact ih (k + 1) (by omega) _
theorem m_digest {ro : Nat → Nat × (Nat → Int32)} {Q : mPo} {d : Nat} {I : Nat → Nat → Int32} {L : Nat → Nat → Int64} {s n t : Nat} (hm : mM s n t I) (hq : ∀ r I1 L1, mTx I I1 → mIM I1 → Q (some (.long r)) (mSH, I1, L1))   : mWP mTb_ mFT ro (d + 5, 159, 0, [some (.ref 34), none, none, none], [], 0, 0, (mSH, I, L)) Q := by
  refine mB 6 (s2 := (d + 5, 159, 9, [some (.ref 34), some (.long 2003), none, some (.int 0)], [.int 10, .int 0], 0, 0, (mSH, I, L))) rfl ?_
  refine mBF (s3 := (d + 5, 159, 12, [some (.ref 34), some (.long 2003), none, some (.int 0)], [], 0, 0, (mSH, I, L))) rfl (by decide) ?_
  refine mB 5 (s2 := (d + 5, 159, 19, [some (.ref 34), some (.long 2003), none, some (.int 0)], [.int 0, .ref 34, .long 62093], 0, 0, (mSH, I, L))) rfl ?_
  refine mCall (s2 := (d + 4, 157, 0, [some (.ref 34), some (.int 0)], [], 0, 0, (mSH, I, L))) rfl ?_
  refine mB 1 (s2 := (d + 4, 157, 1, [some (.ref 34), some (.int 0)], [.int 0], 0, 0, (mSH, I, L))) rfl ?_
  refine mSw1 (t := (d + 4, 157, 44, [some (.ref 34), some (.int 0)], [], 0, 0, (mSH, I, L))) rfl rfl ?_
  refine mB 3 (s2 := (d + 4, 157, 49, [some (.ref 34), some (.int 0)], [.int 0, .ref 39], 0, 0, (mSH, I, L))) rfl ?_
  refine mRq (s2 := (d + 4, 157, 50, [some (.ref 34), some (.int 0)], [.int (I 39 0)], 0, 0, (mSH, I, L))) rfl (by decide) ?_
  refine mRt (r := (some (.int (I 39 0)))) (h := (mSH, I, L)) rfl (mRet_int rfl) ?_
  show mWP mTb_ mFT ro (d + 5, 159, 22, [some (.ref 34), some (.long 2003), none, some (.int 0)], [.int (I 39 0), .long 62093], 0, 0, (mSH, I, L)) _
  refine mB 7 (s2 := (d + 5, 159, 9, [some (.ref 34), some (.long (62093 + ((I 39 0 : Int32).toInt64))), none, some (.int 1)], [.int 10, .int 1], 0, 0, (mSH, I, L))) rfl ?_
  refine mBF (s3 := (d + 5, 159, 12, [some (.ref 34), some (.long (62093 + ((I 39 0 : Int32).toInt64))), none, some (.int 1)], [], 0, 0, (mSH, I, L))) rfl (by decide) ?_
  refine mB 5 (s2 := (d + 5, 159, 19, [some (.ref 34), some (.long (62093 + ((I 39 0 : Int32).toInt64))), none, some (.int 1)], [.int 1, .ref 34, .long (31 * (62093 + ((I 39 0 : Int32).toInt64)))], 0, 0, (mSH, I, L))) rfl ?_
  refine mCall (s2 := (d + 4, 157, 0, [some (.ref 34), some (.int 1)], [], 0, 0, (mSH, I, L))) rfl ?_
  refine mB 1 (s2 := (d + 4, 157, 1, [some (.ref 34), some (.int 1)], [.int 1], 0, 0, (mSH, I, L))) rfl ?_
  refine mSw1 (t := (d + 4, 157, 44, [some (.ref 34), some (.int 1)], [], 0, 0, (mSH, I, L))) rfl rfl ?_
  refine mB 3 (s2 := (d + 4, 157, 49, [some (.ref 34), some (.int 1)], [.int 1, .ref 39], 0, 0, (mSH, I, L))) rfl ?_
  refine mRq (s2 := (d + 4, 157, 50, [some (.ref 34), some (.int 1)], [.int (I 39 1)], 0, 0, (mSH, I, L))) rfl (by decide) ?_
  refine mRt (r := (some (.int (I 39 1)))) (h := (mSH, I, L)) rfl (mRet_int rfl) ?_
  show mWP mTb_ mFT ro (d + 5, 159, 22, [some (.ref 34), some (.long (62093 + ((I 39 0 : Int32).toInt64))), none, some (.int 1)], [.int (I 39 1), .long (31 * (62093 + ((I 39 0 : Int32).toInt64)))], 0, 0, (mSH, I, L)) _
  refine mB 7 (s2 := (d + 5, 159, 9, [some (.ref 34), some (.long ((31 * (62093 + ((I 39 0 : Int32).toInt64))) + ((I 39 1 : Int32).toInt64))), none, some (.int 2)], [.int 10, .int 2], 0, 0, (mSH, I, L))) rfl ?_
  refine mBF (s3 := (d + 5, 159, 12, [some (.ref 34), some (.long ((31 * (62093 + ((I 39 0 : Int32).toInt64))) + ((I 39 1 : Int32).toInt64))), none, some (.int 2)], [], 0, 0, (mSH, I, L))) rfl (by decide) ?_
  refine mB 5 (s2 := (d + 5, 159, 19, [some (.ref 34), some (.long ((31 * (62093 + ((I 39 0 : Int32).toInt64))) + ((I 39 1 : Int32).toInt64))), none, some (.int 2)], [.int 2, .ref 34, .long (31 * ((31 * (62093 + ((I 39 0 : Int32).toInt64))) + ((I 39 1 : Int32).toInt64)))], 0, 0, (mSH, I, L))) rfl ?_
  refine mCall (s2 := (d + 4, 157, 0, [some (.ref 34), some (.int 2)], [], 0, 0, (mSH, I, L))) rfl ?_
  refine mB 1 (s2 := (d + 4, 157, 1, [some (.ref 34), some (.int 2)], [.int 2], 0, 0, (mSH, I, L))) rfl ?_
  refine mSw1 (t := (d + 4, 157, 44, [some (.ref 34), some (.int 2)], [], 0, 0, (mSH, I, L))) rfl rfl ?_
  refine mB 3 (s2 := (d + 4, 157, 49, [some (.ref 34), some (.int 2)], [.int 2, .ref 39], 0, 0, (mSH, I, L))) rfl ?_
  refine mRq (s2 := (d + 4, 157, 50, [some (.ref 34), some (.int 2)], [.int (I 39 2)], 0, 0, (mSH, I, L))) rfl (by decide) ?_
  refine mRt (r := (some (.int (I 39 2)))) (h := (mSH, I, L)) rfl (mRet_int rfl) ?_
  show mWP mTb_ mFT ro (d + 5, 159, 22, [some (.ref 34), some (.long ((31 * (62093 + ((I 39 0 : Int32).toInt64))) + ((I 39 1 : Int32).toInt64))), none, some (.int 2)], [.int (I 39 2), .long (31 * ((31 * (62093 + ((I 39 0 : Int32).toInt64))) + ((I 39 1 : Int32).toInt64)))], 0, 0, (mSH, I, L)) _
  refine mB 7 (s2 := (d + 5, 159, 9, [some (.ref 34), some (.long ((31 * ((31 * (62093 + ((I 39 0 : Int32).toInt64))) + ((I 39 1 : Int32).toInt64))) + ((I 39 2 : Int32).toInt64))), none, some (.int 3)], [.int 10, .int 3], 0, 0, (mSH, I, L))) rfl ?_
  refine mBF (s3 := (d + 5, 159, 12, [some (.ref 34), some (.long ((31 * ((31 * (62093 + ((I 39 0 : Int32).toInt64))) + ((I 39 1 : Int32).toInt64))) + ((I 39 2 : Int32).toInt64))), none, some (.int 3)], [], 0, 0, (mSH, I, L))) rfl (by decide) ?_
  refine mB 5 (s2 := (d + 5, 159, 19, [some (.ref 34), some (.long ((31 * ((31 * (62093 + ((I 39 0 : Int32).toInt64))) + ((I 39 1 : Int32).toInt64))) + ((I 39 2 : Int32).toInt64))), none, some (.int 3)], [.int 3, .ref 34, .long (31 * ((31 * ((31 * (62093 + ((I 39 0 : Int32).toInt64))) + ((I 39 1 : Int32).toInt64))) + ((I 39 2 : Int32).toInt64)))], 0, 0, (mSH, I, L))) rfl ?_
  refine mCall (s2 := (d + 4, 157, 0, [some (.ref 34), some (.int 3)], [], 0, 0, (mSH, I, L))) rfl ?_
  refine mB 1 (s2 := (d + 4, 157, 1, [some (.ref 34), some (.int 3)], [.int 3], 0, 0, (mSH, I, L))) rfl ?_
  refine mSw1 (t := (d + 4, 157, 51, [some (.ref 34), some (.int 3)], [], 0, 0, (mSH, I, L))) rfl rfl ?_
  refine mB 2 (s2 := (d + 4, 157, 55, [some (.ref 34), some (.int 3)], [.int (I 34 11)], 0, 0, (mSH, I, L))) rfl ?_
  refine mRt (r := (some (.int (I 34 11)))) (h := (mSH, I, L)) rfl (mRet_int rfl) ?_
  show mWP mTb_ mFT ro (d + 5, 159, 22, [some (.ref 34), some (.long ((31 * ((31 * (62093 + ((I 39 0 : Int32).toInt64))) + ((I 39 1 : Int32).toInt64))) + ((I 39 2 : Int32).toInt64))), none, some (.int 3)], [.int (I 34 11), .long (31 * ((31 * ((31 * (62093 + ((I 39 0 : Int32).toInt64))) + ((I 39 1 : Int32).toInt64))) + ((I 39 2 : Int32).toInt64)))], 0, 0, (mSH, I, L)) _
  refine mB 7 (s2 := (d + 5, 159, 9, [some (.ref 34), some (.long ((31 * ((31 * ((31 * (62093 + ((I 39 0 : Int32).toInt64))) + ((I 39 1 : Int32).toInt64))) + ((I 39 2 : Int32).toInt64))) + ((I 34 11 : Int32).toInt64))), none, some (.int 4)], [.int 10, .int 4], 0, 0, (mSH, I, L))) rfl ?_
  refine mBF (s3 := (d + 5, 159, 12, [some (.ref 34), some (.long ((31 * ((31 * ((31 * (62093 + ((I 39 0 : Int32).toInt64))) + ((I 39 1 : Int32).toInt64))) + ((I 39 2 : Int32).toInt64))) + ((I 34 11 : Int32).toInt64))), none, some (.int 4)], [], 0, 0, (mSH, I, L))) rfl (by decide) ?_
  refine mB 5 (s2 := (d + 5, 159, 19, [some (.ref 34), some (.long ((31 * ((31 * ((31 * (62093 + ((I 39 0 : Int32).toInt64))) + ((I 39 1 : Int32).toInt64))) + ((I 39 2 : Int32).toInt64))) + ((I 34 11 : Int32).toInt64))), none, some (.int 4)], [.int 4, .ref 34, .long (31 * ((31 * ((31 * ((31 * (62093 + ((I 39 0 : Int32).toInt64))) + ((I 39 1 : Int32).toInt64))) + ((I 39 2 : Int32).toInt64))) + ((I 34 11 : Int32).toInt64)))], 0, 0, (mSH, I, L))) rfl ?_
  refine mCall (s2 := (d + 4, 157, 0, [some (.ref 34), some (.int 4)], [], 0, 0, (mSH, I, L))) rfl ?_
  refine mB 1 (s2 := (d + 4, 157, 1, [some (.ref 34), some (.int 4)], [.int 4], 0, 0, (mSH, I, L))) rfl ?_
  refine mSw1 (t := (d + 4, 157, 56, [some (.ref 34), some (.int 4)], [], 0, 0, (mSH, I, L))) rfl rfl ?_
  refine mB 2 (s2 := (d + 4, 157, 60, [some (.ref 34), some (.int 4)], [.int (I 34 1)], 0, 0, (mSH, I, L))) rfl ?_
  refine mRt (r := (some (.int (I 34 1)))) (h := (mSH, I, L)) rfl (mRet_int rfl) ?_
  show mWP mTb_ mFT ro (d + 5, 159, 22, [some (.ref 34), some (.long ((31 * ((31 * ((31 * (62093 + ((I 39 0 : Int32).toInt64))) + ((I 39 1 : Int32).toInt64))) + ((I 39 2 : Int32).toInt64))) + ((I 34 11 : Int32).toInt64))), none, some (.int 4)], [.int (I 34 1), .long (31 * ((31 * ((31 * ((31 * (62093 + ((I 39 0 : Int32).toInt64))) + ((I 39 1 : Int32).toInt64))) + ((I 39 2 : Int32).toInt64))) + ((I 34 11 : Int32).toInt64)))], 0, 0, (mSH, I, L)) _
  refine mB 7 (s2 := (d + 5, 159, 9, [some (.ref 34), some (.long ((31 * ((31 * ((31 * ((31 * (62093 + ((I 39 0 : Int32).toInt64))) + ((I 39 1 : Int32).toInt64))) + ((I 39 2 : Int32).toInt64))) + ((I 34 11 : Int32).toInt64))) + ((I 34 1 : Int32).toInt64))), none, some (.int 5)], [.int 10, .int 5], 0, 0, (mSH, I, L))) rfl ?_
  refine mBF (s3 := (d + 5, 159, 12, [some (.ref 34), some (.long ((31 * ((31 * ((31 * ((31 * (62093 + ((I 39 0 : Int32).toInt64))) + ((I 39 1 : Int32).toInt64))) + ((I 39 2 : Int32).toInt64))) + ((I 34 11 : Int32).toInt64))) + ((I 34 1 : Int32).toInt64))), none, some (.int 5)], [], 0, 0, (mSH, I, L))) rfl (by decide) ?_
  refine mB 5 (s2 := (d + 5, 159, 19, [some (.ref 34), some (.long ((31 * ((31 * ((31 * ((31 * (62093 + ((I 39 0 : Int32).toInt64))) + ((I 39 1 : Int32).toInt64))) + ((I 39 2 : Int32).toInt64))) + ((I 34 11 : Int32).toInt64))) + ((I 34 1 : Int32).toInt64))), none, some (.int 5)], [.int 5, .ref 34, .long (31 * ((31 * ((31 * ((31 * ((31 * (62093 + ((I 39 0 : Int32).toInt64))) + ((I 39 1 : Int32).toInt64))) + ((I 39 2 : Int32).toInt64))) + ((I 34 11 : Int32).toInt64))) + ((I 34 1 : Int32).toInt64)))], 0, 0, (mSH, I, L))) rfl ?_
  refine mCall (s2 := (d + 4, 157, 0, [some (.ref 34), some (.int 5)], [], 0, 0, (mSH, I, L))) rfl ?_
  refine mB 1 (s2 := (d + 4, 157, 1, [some (.ref 34), some (.int 5)], [.int 5], 0, 0, (mSH, I, L))) rfl ?_
  refine mSw1 (t := (d + 4, 157, 61, [some (.ref 34), some (.int 5)], [], 0, 0, (mSH, I, L))) rfl rfl ?_
  refine mB 2 (s2 := (d + 4, 157, 65, [some (.ref 34), some (.int 5)], [.int (I 34 3)], 0, 0, (mSH, I, L))) rfl ?_
  refine mRt (r := (some (.int (I 34 3)))) (h := (mSH, I, L)) rfl (mRet_int rfl) ?_
  show mWP mTb_ mFT ro (d + 5, 159, 22, [some (.ref 34), some (.long ((31 * ((31 * ((31 * ((31 * (62093 + ((I 39 0 : Int32).toInt64))) + ((I 39 1 : Int32).toInt64))) + ((I 39 2 : Int32).toInt64))) + ((I 34 11 : Int32).toInt64))) + ((I 34 1 : Int32).toInt64))), none, some (.int 5)], [.int (I 34 3), .long (31 * ((31 * ((31 * ((31 * ((31 * (62093 + ((I 39 0 : Int32).toInt64))) + ((I 39 1 : Int32).toInt64))) + ((I 39 2 : Int32).toInt64))) + ((I 34 11 : Int32).toInt64))) + ((I 34 1 : Int32).toInt64)))], 0, 0, (mSH, I, L)) _
  refine mB 7 (s2 := (d + 5, 159, 9, [some (.ref 34), some (.long ((31 * ((31 * ((31 * ((31 * ((31 * (62093 + ((I 39 0 : Int32).toInt64))) + ((I 39 1 : Int32).toInt64))) + ((I 39 2 : Int32).toInt64))) + ((I 34 11 : Int32).toInt64))) + ((I 34 1 : Int32).toInt64))) + ((I 34 3 : Int32).toInt64))), none, some (.int 6)], [.int 10, .int 6], 0, 0, (mSH, I, L))) rfl ?_
  refine mBF (s3 := (d + 5, 159, 12, [some (.ref 34), some (.long ((31 * ((31 * ((31 * ((31 * ((31 * (62093 + ((I 39 0 : Int32).toInt64))) + ((I 39 1 : Int32).toInt64))) + ((I 39 2 : Int32).toInt64))) + ((I 34 11 : Int32).toInt64))) + ((I 34 1 : Int32).toInt64))) + ((I 34 3 : Int32).toInt64))), none, some (.int 6)], [], 0, 0, (mSH, I, L))) rfl (by decide) ?_
  refine mB 5 (s2 := (d + 5, 159, 19, [some (.ref 34), some (.long ((31 * ((31 * ((31 * ((31 * ((31 * (62093 + ((I 39 0 : Int32).toInt64))) + ((I 39 1 : Int32).toInt64))) + ((I 39 2 : Int32).toInt64))) + ((I 34 11 : Int32).toInt64))) + ((I 34 1 : Int32).toInt64))) + ((I 34 3 : Int32).toInt64))), none, some (.int 6)], [.int 6, .ref 34, .long (31 * ((31 * ((31 * ((31 * ((31 * ((31 * (62093 + ((I 39 0 : Int32).toInt64))) + ((I 39 1 : Int32).toInt64))) + ((I 39 2 : Int32).toInt64))) + ((I 34 11 : Int32).toInt64))) + ((I 34 1 : Int32).toInt64))) + ((I 34 3 : Int32).toInt64)))], 0, 0, (mSH, I, L))) rfl ?_
  refine mCall (s2 := (d + 4, 157, 0, [some (.ref 34), some (.int 6)], [], 0, 0, (mSH, I, L))) rfl ?_
  refine mB 1 (s2 := (d + 4, 157, 1, [some (.ref 34), some (.int 6)], [.int 6], 0, 0, (mSH, I, L))) rfl ?_
  refine mSw1 (t := (d + 4, 157, 66, [some (.ref 34), some (.int 6)], [], 0, 0, (mSH, I, L))) rfl rfl ?_
  refine mB 2 (s2 := (d + 4, 157, 70, [some (.ref 34), some (.int 6)], [.int (I 34 4)], 0, 0, (mSH, I, L))) rfl ?_
  refine mRt (r := (some (.int (I 34 4)))) (h := (mSH, I, L)) rfl (mRet_int rfl) ?_
  show mWP mTb_ mFT ro (d + 5, 159, 22, [some (.ref 34), some (.long ((31 * ((31 * ((31 * ((31 * ((31 * (62093 + ((I 39 0 : Int32).toInt64))) + ((I 39 1 : Int32).toInt64))) + ((I 39 2 : Int32).toInt64))) + ((I 34 11 : Int32).toInt64))) + ((I 34 1 : Int32).toInt64))) + ((I 34 3 : Int32).toInt64))), none, some (.int 6)], [.int (I 34 4), .long (31 * ((31 * ((31 * ((31 * ((31 * ((31 * (62093 + ((I 39 0 : Int32).toInt64))) + ((I 39 1 : Int32).toInt64))) + ((I 39 2 : Int32).toInt64))) + ((I 34 11 : Int32).toInt64))) + ((I 34 1 : Int32).toInt64))) + ((I 34 3 : Int32).toInt64)))], 0, 0, (mSH, I, L)) _
  refine mB 7 (s2 := (d + 5, 159, 9, [some (.ref 34), some (.long ((31 * ((31 * ((31 * ((31 * ((31 * ((31 * (62093 + ((I 39 0 : Int32).toInt64))) + ((I 39 1 : Int32).toInt64))) + ((I 39 2 : Int32).toInt64))) + ((I 34 11 : Int32).toInt64))) + ((I 34 1 : Int32).toInt64))) + ((I 34 3 : Int32).toInt64))) + ((I 34 4 : Int32).toInt64))), none, some (.int 7)], [.int 10, .int 7], 0, 0, (mSH, I, L))) rfl ?_
  refine mBF (s3 := (d + 5, 159, 12, [some (.ref 34), some (.long ((31 * ((31 * ((31 * ((31 * ((31 * ((31 * (62093 + ((I 39 0 : Int32).toInt64))) + ((I 39 1 : Int32).toInt64))) + ((I 39 2 : Int32).toInt64))) + ((I 34 11 : Int32).toInt64))) + ((I 34 1 : Int32).toInt64))) + ((I 34 3 : Int32).toInt64))) + ((I 34 4 : Int32).toInt64))), none, some (.int 7)], [], 0, 0, (mSH, I, L))) rfl (by decide) ?_
  refine mB 5 (s2 := (d + 5, 159, 19, [some (.ref 34), some (.long ((31 * ((31 * ((31 * ((31 * ((31 * ((31 * (62093 + ((I 39 0 : Int32).toInt64))) + ((I 39 1 : Int32).toInt64))) + ((I 39 2 : Int32).toInt64))) + ((I 34 11 : Int32).toInt64))) + ((I 34 1 : Int32).toInt64))) + ((I 34 3 : Int32).toInt64))) + ((I 34 4 : Int32).toInt64))), none, some (.int 7)], [.int 7, .ref 34, .long (31 * ((31 * ((31 * ((31 * ((31 * ((31 * ((31 * (62093 + ((I 39 0 : Int32).toInt64))) + ((I 39 1 : Int32).toInt64))) + ((I 39 2 : Int32).toInt64))) + ((I 34 11 : Int32).toInt64))) + ((I 34 1 : Int32).toInt64))) + ((I 34 3 : Int32).toInt64))) + ((I 34 4 : Int32).toInt64)))], 0, 0, (mSH, I, L))) rfl ?_
  refine mCall (s2 := (d + 4, 157, 0, [some (.ref 34), some (.int 7)], [], 0, 0, (mSH, I, L))) rfl ?_
  refine mB 1 (s2 := (d + 4, 157, 1, [some (.ref 34), some (.int 7)], [.int 7], 0, 0, (mSH, I, L))) rfl ?_
  refine mSw1 (t := (d + 4, 157, 71, [some (.ref 34), some (.int 7)], [], 0, 0, (mSH, I, L))) rfl rfl ?_
  refine mB 5 (s2 := (d + 4, 157, 79, [some (.ref 34), some (.int 7)], [.int 0, .ref 38], 0, 0, (mSH, I, L))) rfl ?_
  refine mRq (s2 := (d + 4, 157, 80, [some (.ref 34), some (.int 7)], [.int (I 38 0)], 0, 0, (mSH, I, L))) rfl (by decide) ?_
  refine mRt (r := (some (.int (I 38 0)))) (h := (mSH, I, L)) rfl (mRet_int rfl) ?_
  show mWP mTb_ mFT ro (d + 5, 159, 22, [some (.ref 34), some (.long ((31 * ((31 * ((31 * ((31 * ((31 * ((31 * (62093 + ((I 39 0 : Int32).toInt64))) + ((I 39 1 : Int32).toInt64))) + ((I 39 2 : Int32).toInt64))) + ((I 34 11 : Int32).toInt64))) + ((I 34 1 : Int32).toInt64))) + ((I 34 3 : Int32).toInt64))) + ((I 34 4 : Int32).toInt64))), none, some (.int 7)], [.int (I 38 0), .long (31 * ((31 * ((31 * ((31 * ((31 * ((31 * ((31 * (62093 + ((I 39 0 : Int32).toInt64))) + ((I 39 1 : Int32).toInt64))) + ((I 39 2 : Int32).toInt64))) + ((I 34 11 : Int32).toInt64))) + ((I 34 1 : Int32).toInt64))) + ((I 34 3 : Int32).toInt64))) + ((I 34 4 : Int32).toInt64)))], 0, 0, (mSH, I, L)) _
  refine mB 7 (s2 := (d + 5, 159, 9, [some (.ref 34), some (.long ((31 * ((31 * ((31 * ((31 * ((31 * ((31 * ((31 * (62093 + ((I 39 0 : Int32).toInt64))) + ((I 39 1 : Int32).toInt64))) + ((I 39 2 : Int32).toInt64))) + ((I 34 11 : Int32).toInt64))) + ((I 34 1 : Int32).toInt64))) + ((I 34 3 : Int32).toInt64))) + ((I 34 4 : Int32).toInt64))) + ((I 38 0 : Int32).toInt64))), none, some (.int 8)], [.int 10, .int 8], 0, 0, (mSH, I, L))) rfl ?_
  refine mBF (s3 := (d + 5, 159, 12, [some (.ref 34), some (.long ((31 * ((31 * ((31 * ((31 * ((31 * ((31 * ((31 * (62093 + ((I 39 0 : Int32).toInt64))) + ((I 39 1 : Int32).toInt64))) + ((I 39 2 : Int32).toInt64))) + ((I 34 11 : Int32).toInt64))) + ((I 34 1 : Int32).toInt64))) + ((I 34 3 : Int32).toInt64))) + ((I 34 4 : Int32).toInt64))) + ((I 38 0 : Int32).toInt64))), none, some (.int 8)], [], 0, 0, (mSH, I, L))) rfl (by decide) ?_
  refine mB 5 (s2 := (d + 5, 159, 19, [some (.ref 34), some (.long ((31 * ((31 * ((31 * ((31 * ((31 * ((31 * ((31 * (62093 + ((I 39 0 : Int32).toInt64))) + ((I 39 1 : Int32).toInt64))) + ((I 39 2 : Int32).toInt64))) + ((I 34 11 : Int32).toInt64))) + ((I 34 1 : Int32).toInt64))) + ((I 34 3 : Int32).toInt64))) + ((I 34 4 : Int32).toInt64))) + ((I 38 0 : Int32).toInt64))), none, some (.int 8)], [.int 8, .ref 34, .long (31 * ((31 * ((31 * ((31 * ((31 * ((31 * ((31 * ((31 * (62093 + ((I 39 0 : Int32).toInt64))) + ((I 39 1 : Int32).toInt64))) + ((I 39 2 : Int32).toInt64))) + ((I 34 11 : Int32).toInt64))) + ((I 34 1 : Int32).toInt64))) + ((I 34 3 : Int32).toInt64))) + ((I 34 4 : Int32).toInt64))) + ((I 38 0 : Int32).toInt64)))], 0, 0, (mSH, I, L))) rfl ?_
  refine mCall (s2 := (d + 4, 157, 0, [some (.ref 34), some (.int 8)], [], 0, 0, (mSH, I, L))) rfl ?_
  refine mB 1 (s2 := (d + 4, 157, 1, [some (.ref 34), some (.int 8)], [.int 8], 0, 0, (mSH, I, L))) rfl ?_
  refine mSw1 (t := (d + 4, 157, 71, [some (.ref 34), some (.int 8)], [], 0, 0, (mSH, I, L))) rfl rfl ?_
  refine mB 5 (s2 := (d + 4, 157, 79, [some (.ref 34), some (.int 8)], [.int 1, .ref 38], 0, 0, (mSH, I, L))) rfl ?_
  refine mRq (s2 := (d + 4, 157, 80, [some (.ref 34), some (.int 8)], [.int (I 38 1)], 0, 0, (mSH, I, L))) rfl (by decide) ?_
  refine mRt (r := (some (.int (I 38 1)))) (h := (mSH, I, L)) rfl (mRet_int rfl) ?_
  show mWP mTb_ mFT ro (d + 5, 159, 22, [some (.ref 34), some (.long ((31 * ((31 * ((31 * ((31 * ((31 * ((31 * ((31 * (62093 + ((I 39 0 : Int32).toInt64))) + ((I 39 1 : Int32).toInt64))) + ((I 39 2 : Int32).toInt64))) + ((I 34 11 : Int32).toInt64))) + ((I 34 1 : Int32).toInt64))) + ((I 34 3 : Int32).toInt64))) + ((I 34 4 : Int32).toInt64))) + ((I 38 0 : Int32).toInt64))), none, some (.int 8)], [.int (I 38 1), .long (31 * ((31 * ((31 * ((31 * ((31 * ((31 * ((31 * ((31 * (62093 + ((I 39 0 : Int32).toInt64))) + ((I 39 1 : Int32).toInt64))) + ((I 39 2 : Int32).toInt64))) + ((I 34 11 : Int32).toInt64))) + ((I 34 1 : Int32).toInt64))) + ((I 34 3 : Int32).toInt64))) + ((I 34 4 : Int32).toInt64))) + ((I 38 0 : Int32).toInt64)))], 0, 0, (mSH, I, L)) _
  refine mB 7 (s2 := (d + 5, 159, 9, [some (.ref 34), some (.long ((31 * ((31 * ((31 * ((31 * ((31 * ((31 * ((31 * ((31 * (62093 + ((I 39 0 : Int32).toInt64))) + ((I 39 1 : Int32).toInt64))) + ((I 39 2 : Int32).toInt64))) + ((I 34 11 : Int32).toInt64))) + ((I 34 1 : Int32).toInt64))) + ((I 34 3 : Int32).toInt64))) + ((I 34 4 : Int32).toInt64))) + ((I 38 0 : Int32).toInt64))) + ((I 38 1 : Int32).toInt64))), none, some (.int 9)], [.int 10, .int 9], 0, 0, (mSH, I, L))) rfl ?_
  refine mBF (s3 := (d + 5, 159, 12, [some (.ref 34), some (.long ((31 * ((31 * ((31 * ((31 * ((31 * ((31 * ((31 * ((31 * (62093 + ((I 39 0 : Int32).toInt64))) + ((I 39 1 : Int32).toInt64))) + ((I 39 2 : Int32).toInt64))) + ((I 34 11 : Int32).toInt64))) + ((I 34 1 : Int32).toInt64))) + ((I 34 3 : Int32).toInt64))) + ((I 34 4 : Int32).toInt64))) + ((I 38 0 : Int32).toInt64))) + ((I 38 1 : Int32).toInt64))), none, some (.int 9)], [], 0, 0, (mSH, I, L))) rfl (by decide) ?_
  refine mB 5 (s2 := (d + 5, 159, 19, [some (.ref 34), some (.long ((31 * ((31 * ((31 * ((31 * ((31 * ((31 * ((31 * ((31 * (62093 + ((I 39 0 : Int32).toInt64))) + ((I 39 1 : Int32).toInt64))) + ((I 39 2 : Int32).toInt64))) + ((I 34 11 : Int32).toInt64))) + ((I 34 1 : Int32).toInt64))) + ((I 34 3 : Int32).toInt64))) + ((I 34 4 : Int32).toInt64))) + ((I 38 0 : Int32).toInt64))) + ((I 38 1 : Int32).toInt64))), none, some (.int 9)], [.int 9, .ref 34, .long (31 * ((31 * ((31 * ((31 * ((31 * ((31 * ((31 * ((31 * ((31 * (62093 + ((I 39 0 : Int32).toInt64))) + ((I 39 1 : Int32).toInt64))) + ((I 39 2 : Int32).toInt64))) + ((I 34 11 : Int32).toInt64))) + ((I 34 1 : Int32).toInt64))) + ((I 34 3 : Int32).toInt64))) + ((I 34 4 : Int32).toInt64))) + ((I 38 0 : Int32).toInt64))) + ((I 38 1 : Int32).toInt64)))], 0, 0, (mSH, I, L))) rfl ?_
  refine mCall (s2 := (d + 4, 157, 0, [some (.ref 34), some (.int 9)], [], 0, 0, (mSH, I, L))) rfl ?_
  refine mB 1 (s2 := (d + 4, 157, 1, [some (.ref 34), some (.int 9)], [.int 9], 0, 0, (mSH, I, L))) rfl ?_
  refine mSw1 (t := (d + 4, 157, 71, [some (.ref 34), some (.int 9)], [], 0, 0, (mSH, I, L))) rfl rfl ?_
  refine mB 5 (s2 := (d + 4, 157, 79, [some (.ref 34), some (.int 9)], [.int 2, .ref 38], 0, 0, (mSH, I, L))) rfl ?_
  refine mRq (s2 := (d + 4, 157, 80, [some (.ref 34), some (.int 9)], [.int (I 38 2)], 0, 0, (mSH, I, L))) rfl (by decide) ?_
  refine mRt (r := (some (.int (I 38 2)))) (h := (mSH, I, L)) rfl (mRet_int rfl) ?_
  show mWP mTb_ mFT ro (d + 5, 159, 22, [some (.ref 34), some (.long ((31 * ((31 * ((31 * ((31 * ((31 * ((31 * ((31 * ((31 * (62093 + ((I 39 0 : Int32).toInt64))) + ((I 39 1 : Int32).toInt64))) + ((I 39 2 : Int32).toInt64))) + ((I 34 11 : Int32).toInt64))) + ((I 34 1 : Int32).toInt64))) + ((I 34 3 : Int32).toInt64))) + ((I 34 4 : Int32).toInt64))) + ((I 38 0 : Int32).toInt64))) + ((I 38 1 : Int32).toInt64))), none, some (.int 9)], [.int (I 38 2), .long (31 * ((31 * ((31 * ((31 * ((31 * ((31 * ((31 * ((31 * ((31 * (62093 + ((I 39 0 : Int32).toInt64))) + ((I 39 1 : Int32).toInt64))) + ((I 39 2 : Int32).toInt64))) + ((I 34 11 : Int32).toInt64))) + ((I 34 1 : Int32).toInt64))) + ((I 34 3 : Int32).toInt64))) + ((I 34 4 : Int32).toInt64))) + ((I 38 0 : Int32).toInt64))) + ((I 38 1 : Int32).toInt64)))], 0, 0, (mSH, I, L)) _
  refine mB 7 (s2 := (d + 5, 159, 9, [some (.ref 34), some (.long ((31 * ((31 * ((31 * ((31 * ((31 * ((31 * ((31 * ((31 * ((31 * (62093 + ((I 39 0 : Int32).toInt64))) + ((I 39 1 : Int32).toInt64))) + ((I 39 2 : Int32).toInt64))) + ((I 34 11 : Int32).toInt64))) + ((I 34 1 : Int32).toInt64))) + ((I 34 3 : Int32).toInt64))) + ((I 34 4 : Int32).toInt64))) + ((I 38 0 : Int32).toInt64))) + ((I 38 1 : Int32).toInt64))) + ((I 38 2 : Int32).toInt64))), none, some (.int 10)], [.int 10, .int 10], 0, 0, (mSH, I, L))) rfl ?_
  refine mBT (s2 := (d + 5, 159, 31, [some (.ref 34), some (.long ((31 * ((31 * ((31 * ((31 * ((31 * ((31 * ((31 * ((31 * ((31 * (62093 + ((I 39 0 : Int32).toInt64))) + ((I 39 1 : Int32).toInt64))) + ((I 39 2 : Int32).toInt64))) + ((I 34 11 : Int32).toInt64))) + ((I 34 1 : Int32).toInt64))) + ((I 34 3 : Int32).toInt64))) + ((I 34 4 : Int32).toInt64))) + ((I 38 0 : Int32).toInt64))) + ((I 38 1 : Int32).toInt64))) + ((I 38 2 : Int32).toInt64))), none, some (.int 10)], [], 0, 0, (mSH, I, L))) rfl (by decide) ?_
  refine mB 2 (s2 := (d + 5, 159, 33, [some (.ref 34), some (.long ((31 * ((31 * ((31 * ((31 * ((31 * ((31 * ((31 * ((31 * ((31 * (62093 + ((I 39 0 : Int32).toInt64))) + ((I 39 1 : Int32).toInt64))) + ((I 39 2 : Int32).toInt64))) + ((I 34 11 : Int32).toInt64))) + ((I 34 1 : Int32).toInt64))) + ((I 34 3 : Int32).toInt64))) + ((I 34 4 : Int32).toInt64))) + ((I 38 0 : Int32).toInt64))) + ((I 38 1 : Int32).toInt64))) + ((I 38 2 : Int32).toInt64))), none, some (.int 0)], [], 0, 0, (mSH, I, L))) rfl ?_
  exact l_dg1 hm hq s 0 (by omega) _
