/-! The model: what it finds. Written by a program (wip/mk_c.py). -/
theorem s_fi0 {ro : Nat → Nat × (Nat → Int32)} {Q : mPo} {d : Nat} {I : Nat → Nat → Int32} {L : Nat → Nat → Int64} {kd fr : Int32}  (h1 : mWP mTb_ mFT ro (d + 3, 131, 6, [some (.ref 34), some (.int kd), some (.int fr), some (.int 0)], [], 0, 0, (mSH, (mUp (mUp (mUp (mUp (mUp I 34 20 0) 34 21 0) 34 22 0) 46 0 (-1)) 46 10 (-1)), L)) Q) : mWP mTb_ mFT ro (d + 3, 131, 0, [some (.ref 34), some (.int kd), some (.int fr), none], [], 0, 0, (mSH, I, L)) Q := by
  refine mB 1 (s2 := (d + 3, 131, 1, [some (.ref 34), some (.int kd), some (.int fr), none], [.ref 34], 0, 0, (mSH, I, L))) rfl ?_
  refine mCall (s2 := (d + 2, 130, 0, [some (.ref 34)], [], 0, 0, (mSH, I, L))) rfl ?_
  refine mB 13 (s2 := (d + 2, 130, 21, [some (.ref 34)], [.int (-1), .int 0, .ref 46], 0, 0, (mSH, (mUp (mUp (mUp I 34 20 0) 34 21 0) 34 22 0), L))) rfl ?_
  refine mRq (s2 := (d + 2, 130, 22, [some (.ref 34)], [], 0, 0, (mSH, (mUp (mUp (mUp (mUp I 34 20 0) 34 21 0) 34 22 0) 46 0 (-1)), L))) rfl (by decide) ?_
  refine mB 4 (s2 := (d + 2, 130, 29, [some (.ref 34)], [.int (-1), .int 10, .ref 46], 0, 0, (mSH, (mUp (mUp (mUp (mUp I 34 20 0) 34 21 0) 34 22 0) 46 0 (-1)), L))) rfl ?_
  refine mRq (s2 := (d + 2, 130, 30, [some (.ref 34)], [], 0, 0, (mSH, (mUp (mUp (mUp (mUp (mUp I 34 20 0) 34 21 0) 34 22 0) 46 0 (-1)) 46 10 (-1)), L))) rfl (by decide) ?_
  refine mRt (r := none) (h := (mSH, (mUp (mUp (mUp (mUp (mUp I 34 20 0) 34 21 0) 34 22 0) 46 0 (-1)) 46 10 (-1)), L)) rfl rfl ?_
  show mWP mTb_ mFT ro (d + 3, 131, 4, [some (.ref 34), some (.int kd), some (.int fr), none], [], 0, 0, (mSH, (mUp (mUp (mUp (mUp (mUp I 34 20 0) 34 21 0) 34 22 0) 46 0 (-1)) 46 10 (-1)), L)) _
  refine mB 2 (s2 := (d + 3, 131, 6, [some (.ref 34), some (.int kd), some (.int fr), some (.int 0)], [], 0, 0, (mSH, (mUp (mUp (mUp (mUp (mUp I 34 20 0) 34 21 0) 34 22 0) 46 0 (-1)) 46 10 (-1)), L))) rfl ?_
  exact h1
theorem s_fi1 {ro : Nat → Nat × (Nat → Int32)} {Q : mPo} {d : Nat} {I : Nat → Nat → Int32} {L : Nat → Nat → Int64} {kd fr : Int32} {k : Nat}  (h1 : ((I 34 1) ≤ (nI k)) → ((I 34 20) ≤ 0) → Q (some (.int 0)) (mSH, I, L)) (h2 : ((I 34 1) ≤ (nI k)) → ¬ ((I 34 20) ≤ 0) → Q (some (.int 1)) (mSH, I, L)) (h3 : ¬ ((I 34 1) ≤ (nI k)) → ((I 34 3) ≤ 0) → ((I 34 20) ≤ 0) → Q (some (.int 0)) (mSH, I, L)) (h4 : ¬ ((I 34 1) ≤ (nI k)) → ((I 34 3) ≤ 0) → ¬ ((I 34 20) ≤ 0) → Q (some (.int 1)) (mSH, I, L)) (h5 : ¬ ((I 34 1) ≤ (nI k)) → ¬ ((I 34 3) ≤ 0) → mWP mTb_ mFT ro (d + 3, 131, 25, [some (.ref 34), some (.int kd), some (.int fr), some (.int (nI k))], [.int fr, .int kd, .int (nI k), .ref 34], 0, 0, (mSH, I, L)) Q) : mWP mTb_ mFT ro (d + 3, 131, 6, [some (.ref 34), some (.int kd), some (.int fr), some (.int (nI k))], [], 0, 0, (mSH, I, L)) Q := by
  refine mB 3 (s2 := (d + 3, 131, 11, [some (.ref 34), some (.int kd), some (.int fr), some (.int (nI k))], [.int (I 34 1), .int (nI k)], 0, 0, (mSH, I, L))) rfl ?_
  refine mBr (s2 := (d + 3, 131, 34, [some (.ref 34), some (.int kd), some (.int fr), some (.int (nI k))], [], 0, 0, (mSH, I, L))) (s3 := (d + 3, 131, 14, [some (.ref 34), some (.int kd), some (.int fr), some (.int (nI k))], [], 0, 0, (mSH, I, L))) rfl (fun c0 => ?_) (fun c0 => ?_)
  · refine mB 2 (s2 := (d + 3, 131, 38, [some (.ref 34), some (.int kd), some (.int fr), some (.int (nI k))], [.int (I 34 20)], 0, 0, (mSH, I, L))) rfl ?_
    refine mBr (s2 := (d + 3, 131, 45, [some (.ref 34), some (.int kd), some (.int fr), some (.int (nI k))], [], 0, 0, (mSH, I, L))) (s3 := (d + 3, 131, 41, [some (.ref 34), some (.int kd), some (.int fr), some (.int (nI k))], [], 0, 0, (mSH, I, L))) rfl (fun c1 => ?_) (fun c1 => ?_)
    · refine mB 1 (s2 := (d + 3, 131, 46, [some (.ref 34), some (.int kd), some (.int fr), some (.int (nI k))], [.int 0], 0, 0, (mSH, I, L))) rfl ?_
      refine mRt (r := (some (.int 0))) (h := (mSH, I, L)) rfl rfl ?_
      exact h1 (of_decide_eq_true c0) (of_decide_eq_true c1)
    · refine mB 2 (s2 := (d + 3, 131, 46, [some (.ref 34), some (.int kd), some (.int fr), some (.int (nI k))], [.int 1], 0, 0, (mSH, I, L))) rfl ?_
      refine mRt (r := (some (.int 1))) (h := (mSH, I, L)) rfl rfl ?_
      exact h2 (of_decide_eq_true c0) (of_decide_eq_false c1)
  · refine mB 2 (s2 := (d + 3, 131, 18, [some (.ref 34), some (.int kd), some (.int fr), some (.int (nI k))], [.int (I 34 3)], 0, 0, (mSH, I, L))) rfl ?_
    refine mBr (s2 := (d + 3, 131, 34, [some (.ref 34), some (.int kd), some (.int fr), some (.int (nI k))], [], 0, 0, (mSH, I, L))) (s3 := (d + 3, 131, 21, [some (.ref 34), some (.int kd), some (.int fr), some (.int (nI k))], [], 0, 0, (mSH, I, L))) rfl (fun c1 => ?_) (fun c1 => ?_)
    · refine mB 2 (s2 := (d + 3, 131, 38, [some (.ref 34), some (.int kd), some (.int fr), some (.int (nI k))], [.int (I 34 20)], 0, 0, (mSH, I, L))) rfl ?_
      refine mBr (s2 := (d + 3, 131, 45, [some (.ref 34), some (.int kd), some (.int fr), some (.int (nI k))], [], 0, 0, (mSH, I, L))) (s3 := (d + 3, 131, 41, [some (.ref 34), some (.int kd), some (.int fr), some (.int (nI k))], [], 0, 0, (mSH, I, L))) rfl (fun c2 => ?_) (fun c2 => ?_)
      · refine mB 1 (s2 := (d + 3, 131, 46, [some (.ref 34), some (.int kd), some (.int fr), some (.int (nI k))], [.int 0], 0, 0, (mSH, I, L))) rfl ?_
        refine mRt (r := (some (.int 0))) (h := (mSH, I, L)) rfl rfl ?_
        exact h3 (of_decide_eq_false c0) (of_decide_eq_true c1) (of_decide_eq_true c2)
      · refine mB 2 (s2 := (d + 3, 131, 46, [some (.ref 34), some (.int kd), some (.int fr), some (.int (nI k))], [.int 1], 0, 0, (mSH, I, L))) rfl ?_
        refine mRt (r := (some (.int 1))) (h := (mSH, I, L)) rfl rfl ?_
        exact h4 (of_decide_eq_false c0) (of_decide_eq_true c1) (of_decide_eq_false c2)
    · refine mB 4 (s2 := (d + 3, 131, 25, [some (.ref 34), some (.int kd), some (.int fr), some (.int (nI k))], [.int fr, .int kd, .int (nI k), .ref 34], 0, 0, (mSH, I, L))) rfl ?_
      exact h5 (of_decide_eq_false c0) (of_decide_eq_false c1)
theorem l_fi {ro : Nat → Nat × (Nat → Int32)} {Q : mPo} {d : Nat} {L : Nat → Nat → Int64} {s n t : Nat} {kd fr : Int32} {I0 : Nat → Nat → Int32} (hm : mM s n t I0) (q0 : ∀ I1, mGr I0 I1 → Q (some (.int 0)) (mSH, I1, L)) (q1 : ∀ I1, mGr I0 I1 → mVal s n I1 → 0 < n → Q (some (.int 1)) (mSH, I1, L)) : ∀ (e k : Nat), k + e = s → ∀ I, mGr I0 I → mFo s n I → mWP mTb_ mFT ro (d + 3, 131, 6, [some (.ref 34), some (.int kd), some (.int fr), some (.int (nI k))], [], 0, 0, (mSH, I, L)) Q := by
  have nv : ∀ I, mFo s n I → ¬ (I 34 20 ≤ 0) → mVal s n I ∧ 0 < n := fun I hf z => by
    rcases hf with hf | hf
    · exact hf
    · exact absurd (by rw [hf.2]; decide) z
  intro e
  induction e with
  | zero =>
    intro k he I hg hf
    have mI := hg.m hm
    have z : I 34 1 ≤ nI k := by
      rw [mI.1.1]
      exact nI_le (by omega) (by have := hm.1.2; omega)
    apply s_fi1
    all_goals intros
    all_goals first
      | exact q0 I hg
      | exact q1 I hg (nv I hf (by assumption)).1 (nv I hf (by assumption)).2
      | exact absurd z (by assumption)
  | succ e ih =>
    intro k he I hg hf
    have mI := hg.m hm
    have h16 := hm.1.2
    have h8 := hm.2.1.2
    have z : ¬ I 34 1 ≤ nI k := by
      rw [mI.1.1]
      exact nI_ge (by omega) (by omega)
    have go : ¬ I 34 3 ≤ 0 → mWP mTb_ mFT ro (d + 3, 131, 25, [some (.ref 34), some (.int kd), some (.int fr), some (.int (nI k))], [.int fr, .int kd, .int (nI k), .ref 34], 0, 0, (mSH, I, L)) Q := fun c => by
      have hn : 0 < n := by
        rcases Nat.eq_zero_or_pos n with e | e
        · subst e
          exact absurd (by rw [mI.2.1.1]; decide) c
        · exact e
      refine mCall (s2 := (d + 2, 129, 0, [some (.ref 34), some (.int (nI k)), some (.int kd), some (.int fr), none, none, none], [], 0, 0, (mSH, I, L))) rfl ?_
      refine w_goes mI (by omega) hn hf (fun I1 g1 g2 => ?_)
      refine mB 2 (s2 := (d + 3, 131, 6, [some (.ref 34), some (.int kd), some (.int fr), some (.int (nI k + 1))], [], 0, 0, (mSH, I1, L))) rfl ?_
      rw [nI_1]
      exact ih (k + 1) (by omega) I1 (hg.tr g1) g2
    apply s_fi1
    all_goals intros
    all_goals first
      | exact absurd (by assumption) z
      | exact q0 I hg
      | exact q1 I hg (nv I hf (by assumption)).1 (nv I hf (by assumption)).2
      | exact go (by assumption)
theorem w_mfinds {ro : Nat → Nat × (Nat → Int32)} {Q : mPo} {d : Nat} {I : Nat → Nat → Int32} {L : Nat → Nat → Int64} {s n t : Nat} {kd fr : Int32} (hm : mM s n t I) (q0 : ∀ I1, mGr I I1 → Q (some (.int 0)) (mSH, I1, L)) (q1 : ∀ I1, mGr I I1 → mVal s n I1 → 0 < n → Q (some (.int 1)) (mSH, I1, L)) : mWP mTb_ mFT ro (d + 3, 131, 0, [some (.ref 34), some (.int kd), some (.int fr), none], [], 0, 0, (mSH, I, L)) Q := by
  refine s_fi0 ?_
  exact l_fi hm q0 q1 s 0 (by omega) _ (mGr.up (by rfl) (mGr.up (by rfl) (mGr.uf (by rfl) (mGr.uf (by rfl) (mGr.uf (by rfl) mGr.rf))))) (Or.inr ⟨by show (-1 : Int32) < 0; decide, rfl⟩)
theorem w_isf {ro : Nat → Nat × (Nat → Int32)} {Q : mPo} {d : Nat} {I : Nat → Nat → Int32} {L : Nat → Nat → Int64} {s n t : Nat} (hm : mM s n t I) (q0 : ∀ I1, mGr I I1 → Q (some (.int 0)) (mSH, I1, L)) (q1 : ∀ I1, mGr I I1 → mVal s n I1 → 0 < n → Q (some (.int 1)) (mSH, I1, L))   : mWP mTb_ mFT ro (d + 4, 132, 0, [some (.ref 34)], [], 0, 0, (mSH, I, L)) Q := by
  refine mB 4 (s2 := (d + 4, 132, 6, [some (.ref 34)], [.int 0, .ref 38, .ref 34], 0, 0, (mSH, I, L))) rfl ?_
  refine mRq (s2 := (d + 4, 132, 7, [some (.ref 34)], [.int (I 38 0), .ref 34], 0, 0, (mSH, I, L))) rfl (by decide) ?_
  refine mB 1 (s2 := (d + 4, 132, 8, [some (.ref 34)], [.int 0, .int (I 38 0), .ref 34], 0, 0, (mSH, I, L))) rfl ?_
  refine mCall (s2 := (d + 3, 131, 0, [some (.ref 34), some (.int (I 38 0)), some (.int 0), none], [], 0, 0, (mSH, I, L))) rfl ?_
  refine w_mfinds hm ?_ ?_
  · intro K1 gK1
    show mWP mTb_ mFT ro (d + 4, 132, 11, [some (.ref 34)], [.int 0], 0, 0, (mSH, K1, L)) _
    refine mRt (r := (some (.int 0))) (h := (mSH, K1, L)) rfl rfl ?_
    exact q0 _ gK1
  · intro K1 gK1 vK1 pK1
    show mWP mTb_ mFT ro (d + 4, 132, 11, [some (.ref 34)], [.int 1], 0, 0, (mSH, K1, L)) _
    refine mRt (r := (some (.int 1))) (h := (mSH, K1, L)) rfl rfl ?_
    exact q1 _ gK1 vK1 pK1
/-- what no asking method changes -/
def mTx (I I1 : Nat → Nat → Int32) : Prop := mGr I I1
theorem mGr.x {I J : Nat → Nat → Int32} (g : mGr I J) : mTx I J := g
theorem mEi {x : Int32} (h0 : ¬ x < 0) (h1 : ¬ (1 : Int32) < x) : x = 0 ∨ x = 1 := by
  obtain ⟨j, hj, e⟩ := nI_of2 (x := x) (M := 1) (n := 1) rfl h0 (by simp only [Int32.le_iff_toInt_le, Int32.lt_iff_toInt_lt] at *; omega)
  subst e
  rcases Nat.lt_or_ge j 1 with z | z
  · have : j = 0 := by omega
    subst this
    exact Or.inl rfl
  · have : j = 1 := by omega
    subst this
    exact Or.inr rfl
theorem mNat {x y : Int32} {n : Nat} (hy : y = nI n) (hn : n ≤ 16) (h0 : ¬ x < 0) (h1 : ¬ y - 1 < x) : ∃ j, j < n ∧ x = nI j := by
  obtain ⟨j, hj, e⟩ := nI_of h0
  subst e
  subst hy
  refine ⟨j, ?_, rfl⟩
  rcases Nat.eq_zero_or_pos n with z | z
  · subst z
    refine absurd ?_ h1
    rw [Int32.lt_iff_toInt_lt, nI_toInt hj, show (nI 0 - 1).toInt = -1 from rfl]
    omega
  · obtain ⟨m, rfl⟩ : ∃ m, n = m + 1 := ⟨n - 1, by omega⟩
    rw [nI_sp, nI_ltI (by omega) hj] at h1
    omega
theorem s_mma0 {ro : Nat → Nat × (Nat → Int32)} {Q : mPo} {d : Nat} {I : Nat → Nat → Int32} {L : Nat → Nat → Int64} {v1 a b : Int32} {k : Nat}  (h1 : ((I 34 3) ≤ (nI k)) → mWP mTb_ mFT ro (d, 133, 120, [some (.ref 34), some (.int 0), some (.int v1), some (.int a), some (.int b), some (.int (nI k))], [], 0, 0, (mSH, I, L)) Q) (h2 : ¬ ((I 34 3) ≤ (nI k)) → vp_in (2 + (nI k)) 20) (h3 : ¬ ((I 34 3) ≤ (nI k)) → vp_in (2 + (nI k)) 20) (h4 : ¬ ((I 34 3) ≤ (nI k)) → mWP mTb_ mFT ro (d, 133, 67, [some (.ref 34), some (.int 0), some (.int v1), some (.int (a + ((I 46 ((2 + (nI k)).toNatClampNeg)) / 2))), some (.int (b + (I 46 ((2 + (nI k)).toNatClampNeg)))), some (.int ((nI k) + 1))], [], 0, 0, (mSH, I, L)) Q) : mWP mTb_ mFT ro (d, 133, 67, [some (.ref 34), some (.int 0), some (.int v1), some (.int a), some (.int b), some (.int (nI k))], [], 0, 0, (mSH, I, L)) Q := by
  refine mB 3 (s2 := (d, 133, 73, [some (.ref 34), some (.int 0), some (.int v1), some (.int a), some (.int b), some (.int (nI k))], [.int (I 34 3), .int (nI k)], 0, 0, (mSH, I, L))) rfl ?_
  refine mBr (s2 := (d, 133, 120, [some (.ref 34), some (.int 0), some (.int v1), some (.int a), some (.int b), some (.int (nI k))], [], 0, 0, (mSH, I, L))) (s3 := (d, 133, 76, [some (.ref 34), some (.int 0), some (.int v1), some (.int a), some (.int b), some (.int (nI k))], [], 0, 0, (mSH, I, L))) rfl (fun c0 => ?_) (fun c0 => ?_)
  · exact h1 (of_decide_eq_true c0)
  · refine mB 10 (s2 := (d, 133, 90, [some (.ref 34), some (.int 0), some (.int v1), some (.int a), some (.int b), some (.int (nI k))], [.int (2 + (nI k)), .ref 46, .int a], 0, 0, (mSH, I, L))) rfl ?_
    refine mRq (s2 := (d, 133, 91, [some (.ref 34), some (.int 0), some (.int v1), some (.int a), some (.int b), some (.int (nI k))], [.int (I 46 ((2 + (nI k)).toNatClampNeg)), .int a], 0, 0, (mSH, I, L))) rfl (mVp_of (h2 (of_decide_eq_false c0))) ?_
    refine mB 1 (s2 := (d, 133, 92, [some (.ref 34), some (.int 0), some (.int v1), some (.int a), some (.int b), some (.int (nI k))], [.int 2, .int (I 46 ((2 + (nI k)).toNatClampNeg)), .int a], 0, 0, (mSH, I, L))) rfl ?_
    refine mRq (s2 := (d, 133, 93, [some (.ref 34), some (.int 0), some (.int v1), some (.int a), some (.int b), some (.int (nI k))], [.int ((I 46 ((2 + (nI k)).toNatClampNeg)) / 2), .int a], 0, 0, (mSH, I, L))) rfl (by decide) ?_
    refine mB 12 (s2 := (d, 133, 110, [some (.ref 34), some (.int 0), some (.int v1), some (.int (a + ((I 46 ((2 + (nI k)).toNatClampNeg)) / 2))), some (.int b), some (.int (nI k))], [.int (2 + (nI k)), .ref 46, .int b], 0, 0, (mSH, I, L))) rfl ?_
    refine mRq (s2 := (d, 133, 111, [some (.ref 34), some (.int 0), some (.int v1), some (.int (a + ((I 46 ((2 + (nI k)).toNatClampNeg)) / 2))), some (.int b), some (.int (nI k))], [.int (I 46 ((2 + (nI k)).toNatClampNeg)), .int b], 0, 0, (mSH, I, L))) rfl (mVp_of (h3 (of_decide_eq_false c0))) ?_
    refine mB 4 (s2 := (d, 133, 67, [some (.ref 34), some (.int 0), some (.int v1), some (.int (a + ((I 46 ((2 + (nI k)).toNatClampNeg)) / 2))), some (.int (b + (I 46 ((2 + (nI k)).toNatClampNeg)))), some (.int ((nI k) + 1))], [], 0, 0, (mSH, I, L))) rfl ?_
    exact h4 (of_decide_eq_false c0)
theorem f_mma0 {ro : Nat → Nat × (Nat → Int32)} {Q : mPo} {d : Nat} {I : Nat → Nat → Int32} {L : Nat → Nat → Int64} {v1 a b k : Int32} (h0 : ¬ v1 < 0) (hq : ∀ r, Q (some (.int r)) (mSH, I, L))   : mWP mTb_ mFT ro (d, 133, 120, [some (.ref 34), some (.int 0), some (.int v1), some (.int a), some (.int b), some (.int k)], [], 0, 0, (mSH, I, L)) Q := by
  refine mB 2 (s2 := (d, 133, 122, [some (.ref 34), some (.int 0), some (.int v1), some (.int a), some (.int b), some (.int k)], [.int 2, .int v1], 0, 0, (mSH, I, L))) rfl ?_
  refine mBr (s2 := (d, 133, 139, [some (.ref 34), some (.int 0), some (.int v1), some (.int a), some (.int b), some (.int k)], [], 0, 0, (mSH, I, L))) (s3 := (d, 133, 125, [some (.ref 34), some (.int 0), some (.int v1), some (.int a), some (.int b), some (.int k)], [], 0, 0, (mSH, I, L))) rfl (fun c0 => ?_) (fun c0 => ?_)
  · refine mB 2 (s2 := (d, 133, 141, [some (.ref 34), some (.int 0), some (.int v1), some (.int a), some (.int b), some (.int k)], [.int 2, .int v1], 0, 0, (mSH, I, L))) rfl ?_
    refine mBr (s2 := (d, 133, 144, [some (.ref 34), some (.int 0), some (.int v1), some (.int a), some (.int b), some (.int k)], [], 0, 0, (mSH, I, L))) (s3 := (d, 133, 148, [some (.ref 34), some (.int 0), some (.int v1), some (.int a), some (.int b), some (.int k)], [], 0, 0, (mSH, I, L))) rfl (fun c1 => ?_) (fun c1 => ?_)
    · refine mB 2 (s2 := (d, 133, 150, [some (.ref 34), some (.int 0), some (.int v1), some (.int a), some (.int b), some (.int k)], [.int a], 0, 0, (mSH, I, L))) rfl ?_
      refine mRt (r := (some (.int a))) (h := (mSH, I, L)) rfl (mRet_int rfl) ?_
      exact hq _
    · refine mB 1 (s2 := (d, 133, 150, [some (.ref 34), some (.int 0), some (.int v1), some (.int a), some (.int b), some (.int k)], [.int b], 0, 0, (mSH, I, L))) rfl ?_
      refine mRt (r := (some (.int b))) (h := (mSH, I, L)) rfl (mRet_int rfl) ?_
      exact hq _
  · refine mB 7 (s2 := (d, 133, 135, [some (.ref 34), some (.int 0), some (.int v1), some (.int a), some (.int b), some (.int k)], [.int (0 + v1), .ref 46], 0, 0, (mSH, I, L))) rfl ?_
    refine mRq (s2 := (d, 133, 136, [some (.ref 34), some (.int 0), some (.int v1), some (.int a), some (.int b), some (.int k)], [.int (I 46 ((0 + v1).toNatClampNeg))], 0, 0, (mSH, I, L))) rfl (mVp_of (vp_in_iff.mpr (by have a0 := h0; have a1 := (of_decide_eq_false c0); rw [Int32.lt_iff_toInt_lt, mLi0] at a0; rw [Int32.le_iff_toInt_le, mLi2] at a1; have e : (0 + v1).toInt = 0 + v1.toInt := (by rw [Int32.toInt_add, show (0 : Int32).toInt = 0 from rfl, Int.bmod_eq_of_le (by omega) (by omega)]); omega))) ?_
    refine mB 1 (s2 := (d, 133, 150, [some (.ref 34), some (.int 0), some (.int v1), some (.int a), some (.int b), some (.int k)], [.int (I 46 ((0 + v1).toNatClampNeg))], 0, 0, (mSH, I, L))) rfl ?_
    refine mRt (r := (some (.int (I 46 ((0 + v1).toNatClampNeg))))) (h := (mSH, I, L)) rfl (mRet_int rfl) ?_
    exact hq _
theorem l_mma0 {ro : Nat → Nat × (Nat → Int32)} {Q : mPo} {d : Nat} {I : Nat → Nat → Int32} {L : Nat → Nat → Int64} {n : Nat} {v1 : Int32} (hn : n ≤ 8) (g3 : I 34 3 = nI n) (h0 : ¬ v1 < 0) (hq : ∀ r, Q (some (.int r)) (mSH, I, L)) : ∀ (e k : Nat), k + e = n → ∀ a b : Int32, mWP mTb_ mFT ro (d, 133, 67, [some (.ref 34), some (.int 0), some (.int v1), some (.int a), some (.int b), some (.int (nI k))], [], 0, 0, (mSH, I, L)) Q := by
  have fin : ∀ a b k, mWP mTb_ mFT ro (d, 133, 120, [some (.ref 34), some (.int 0), some (.int v1), some (.int a), some (.int b), some (.int k)], [], 0, 0, (mSH, I, L)) Q := fun a b k => f_mma0 h0 hq
  intro e
  induction e with
  | zero =>
    intro k he a b
    have z : I 34 3 ≤ nI k := by
      rw [g3]
      exact nI_le (by omega) (by omega)
    apply s_mma0
    all_goals intros
    all_goals first | exact fin _ _ _ | exact absurd z (by assumption)
  | succ e ih =>
    intro k he a b
    have z : ¬ I 34 3 ≤ nI k := by
      rw [g3]
      exact nI_ge (by omega) (by omega)
    have e2 : (2 : Int32) + nI k = nI (2 + k) := nI_add 2 k
    have v2 : vp_in ((2 : Int32) + nI k) 20 := by
      rw [e2]
      exact vp_in_nI (by omega) (by omega)
    apply s_mma0
    all_goals intros
    all_goals first | exact absurd (by assumption) z | exact v2 | (rw [nI_1]; exact ih (k + 1) (by omega) _ _)
theorem m_match_0 {ro : Nat → Nat × (Nat → Int32)} {Q : mPo} {d : Nat} {I : Nat → Nat → Int32} {L : Nat → Nat → Int64} {s n t : Nat} {v1 : Int32} (hm : mM s n t I) (h0 : ¬ v1 < 0) (hq : ∀ r I1 L1, mTx I I1 → mIM I1 → Q (some (.int r)) (mSH, I1, L1))   : mWP mTb_ mFT ro (d + 5, 133, 25, [some (.ref 34), some (.int 0), some (.int v1), none, none, none], [], 0, 0, (mSH, I, L)) Q := by
  refine mB 1 (s2 := (d + 5, 133, 26, [some (.ref 34), some (.int 0), some (.int v1), none, none, none], [.ref 34], 0, 0, (mSH, I, L))) rfl ?_
  refine mCall (s2 := (d + 4, 132, 0, [some (.ref 34)], [], 0, 0, (mSH, I, L))) rfl ?_
  refine w_isf hm ?_ ?_
  · intro K1 gK1
    show mWP mTb_ mFT ro (d + 5, 133, 29, [some (.ref 34), some (.int 0), some (.int v1), none, none, none], [.int 0], 0, 0, (mSH, K1, L)) _
    refine mB 6 (s2 := (d + 5, 133, 38, [some (.ref 34), some (.int 0), some (.int v1), none, none, none], [.int 0, .ref 46], 0, 0, (mSH, K1, L))) rfl ?_
    refine mRq (s2 := (d + 5, 133, 39, [some (.ref 34), some (.int 0), some (.int v1), none, none, none], [.int (K1 46 0)], 0, 0, (mSH, K1, L))) rfl (by decide) ?_
    refine mBr (s2 := (d + 5, 133, 49, [some (.ref 34), some (.int 0), some (.int v1), none, none, none], [], 0, 0, (mSH, K1, L))) (s3 := (d + 5, 133, 42, [some (.ref 34), some (.int 0), some (.int v1), none, none, none], [], 0, 0, (mSH, K1, L))) rfl (fun c0 => ?_) (fun c0 => ?_)
    · refine mB 9 (s2 := (d + 5, 133, 61, [some (.ref 34), some (.int 0), some (.int v1), some (.int 0), none, none], [.int 1, .ref 46], 0, 0, (mSH, K1, L))) rfl ?_
      refine mRq (s2 := (d + 5, 133, 62, [some (.ref 34), some (.int 0), some (.int v1), some (.int 0), none, none], [.int (K1 46 1)], 0, 0, (mSH, K1, L))) rfl (by decide) ?_
      refine mB 3 (s2 := (d + 5, 133, 67, [some (.ref 34), some (.int 0), some (.int v1), some (.int 0), some (.int (K1 46 1)), some (.int 0)], [], 0, 0, (mSH, K1, L))) rfl ?_
      exact l_mma0 hm.2.1.2 ((gK1.m hm)).2.1.1 h0 (fun r => hq _ _ _ (gK1).x ⟨s, n, t, (gK1).m hm⟩) n 0 (by omega) _ _
    · refine mB 2 (s2 := (d + 5, 133, 45, [some (.ref 34), some (.int 0), some (.int v1), none, none, none], [.int (-3), .ref 34], 0, 0, (mSH, K1, L))) rfl ?_
      refine mCall (s2 := (d + 4, 113, 0, [some (.ref 34), some (.int (-3))], [], 0, 0, (mSH, K1, L))) rfl ?_
      refine mB 6 (s2 := (d + 4, 113, 9, [some (.ref 34), some (.int (-3))], [.int 1, .ref 39, .int 1, .ref 39], 0, 0, (mSH, K1, L))) rfl ?_
      refine mRq (s2 := (d + 4, 113, 10, [some (.ref 34), some (.int (-3))], [.int (K1 39 1), .int 1, .ref 39], 0, 0, (mSH, K1, L))) rfl (by decide) ?_
      refine mB 2 (s2 := (d + 4, 113, 12, [some (.ref 34), some (.int (-3))], [.int ((K1 39 1) + 1), .int 1, .ref 39], 0, 0, (mSH, K1, L))) rfl ?_
      refine mRq (s2 := (d + 4, 113, 13, [some (.ref 34), some (.int (-3))], [], 0, 0, (mSH, (mUp K1 39 1 ((K1 39 1) + 1)), L))) rfl (by decide) ?_
      refine mB 1 (s2 := (d + 4, 113, 14, [some (.ref 34), some (.int (-3))], [.int (-3)], 0, 0, (mSH, (mUp K1 39 1 ((K1 39 1) + 1)), L))) rfl ?_
      refine mRt (r := (some (.int (-3)))) (h := (mSH, (mUp K1 39 1 ((K1 39 1) + 1)), L)) rfl (mRet_int rfl) ?_
      show mWP mTb_ mFT ro (d + 5, 133, 48, [some (.ref 34), some (.int 0), some (.int v1), none, none, none], [.int (-3)], 0, 0, (mSH, (mUp K1 39 1 ((K1 39 1) + 1)), L)) _
      refine mRt (r := (some (.int (-3)))) (h := (mSH, (mUp K1 39 1 ((K1 39 1) + 1)), L)) rfl (mRet_int rfl) ?_
      exact hq _ _ _ ((mGr.up (by rfl) gK1)).x ⟨s, n, t, ((mGr.up (by rfl) gK1)).m hm⟩
  · intro K1 gK1 vK1 pK1
    show mWP mTb_ mFT ro (d + 5, 133, 29, [some (.ref 34), some (.int 0), some (.int v1), none, none, none], [.int 1], 0, 0, (mSH, K1, L)) _
    refine mB 6 (s2 := (d + 5, 133, 38, [some (.ref 34), some (.int 0), some (.int v1), none, none, none], [.int 0, .ref 46], 0, 0, (mSH, K1, L))) rfl ?_
    refine mRq (s2 := (d + 5, 133, 39, [some (.ref 34), some (.int 0), some (.int v1), none, none, none], [.int (K1 46 0)], 0, 0, (mSH, K1, L))) rfl (by decide) ?_
    refine mBr (s2 := (d + 5, 133, 49, [some (.ref 34), some (.int 0), some (.int v1), none, none, none], [], 0, 0, (mSH, K1, L))) (s3 := (d + 5, 133, 42, [some (.ref 34), some (.int 0), some (.int v1), none, none, none], [], 0, 0, (mSH, K1, L))) rfl (fun c0 => ?_) (fun c0 => ?_)
    · refine mB 9 (s2 := (d + 5, 133, 61, [some (.ref 34), some (.int 0), some (.int v1), some (.int 0), none, none], [.int 1, .ref 46], 0, 0, (mSH, K1, L))) rfl ?_
      refine mRq (s2 := (d + 5, 133, 62, [some (.ref 34), some (.int 0), some (.int v1), some (.int 0), none, none], [.int (K1 46 1)], 0, 0, (mSH, K1, L))) rfl (by decide) ?_
      refine mB 3 (s2 := (d + 5, 133, 67, [some (.ref 34), some (.int 0), some (.int v1), some (.int 0), some (.int (K1 46 1)), some (.int 0)], [], 0, 0, (mSH, K1, L))) rfl ?_
      exact l_mma0 hm.2.1.2 ((gK1.m hm)).2.1.1 h0 (fun r => hq _ _ _ (gK1).x ⟨s, n, t, (gK1).m hm⟩) n 0 (by omega) _ _
    · refine mB 2 (s2 := (d + 5, 133, 45, [some (.ref 34), some (.int 0), some (.int v1), none, none, none], [.int (-3), .ref 34], 0, 0, (mSH, K1, L))) rfl ?_
      refine mCall (s2 := (d + 4, 113, 0, [some (.ref 34), some (.int (-3))], [], 0, 0, (mSH, K1, L))) rfl ?_
      refine mB 6 (s2 := (d + 4, 113, 9, [some (.ref 34), some (.int (-3))], [.int 1, .ref 39, .int 1, .ref 39], 0, 0, (mSH, K1, L))) rfl ?_
      refine mRq (s2 := (d + 4, 113, 10, [some (.ref 34), some (.int (-3))], [.int (K1 39 1), .int 1, .ref 39], 0, 0, (mSH, K1, L))) rfl (by decide) ?_
      refine mB 2 (s2 := (d + 4, 113, 12, [some (.ref 34), some (.int (-3))], [.int ((K1 39 1) + 1), .int 1, .ref 39], 0, 0, (mSH, K1, L))) rfl ?_
      refine mRq (s2 := (d + 4, 113, 13, [some (.ref 34), some (.int (-3))], [], 0, 0, (mSH, (mUp K1 39 1 ((K1 39 1) + 1)), L))) rfl (by decide) ?_
      refine mB 1 (s2 := (d + 4, 113, 14, [some (.ref 34), some (.int (-3))], [.int (-3)], 0, 0, (mSH, (mUp K1 39 1 ((K1 39 1) + 1)), L))) rfl ?_
      refine mRt (r := (some (.int (-3)))) (h := (mSH, (mUp K1 39 1 ((K1 39 1) + 1)), L)) rfl (mRet_int rfl) ?_
      show mWP mTb_ mFT ro (d + 5, 133, 48, [some (.ref 34), some (.int 0), some (.int v1), none, none, none], [.int (-3)], 0, 0, (mSH, (mUp K1 39 1 ((K1 39 1) + 1)), L)) _
      refine mRt (r := (some (.int (-3)))) (h := (mSH, (mUp K1 39 1 ((K1 39 1) + 1)), L)) rfl (mRet_int rfl) ?_
      exact hq _ _ _ ((mGr.up (by rfl) gK1)).x ⟨s, n, t, ((mGr.up (by rfl) gK1)).m hm⟩
theorem s_mma1 {ro : Nat → Nat × (Nat → Int32)} {Q : mPo} {d : Nat} {I : Nat → Nat → Int32} {L : Nat → Nat → Int64} {v1 a b : Int32} {k : Nat}  (h1 : ((I 34 3) ≤ (nI k)) → mWP mTb_ mFT ro (d, 133, 120, [some (.ref 34), some (.int 1), some (.int v1), some (.int a), some (.int b), some (.int (nI k))], [], 0, 0, (mSH, I, L)) Q) (h2 : ¬ ((I 34 3) ≤ (nI k)) → vp_in (12 + (nI k)) 20) (h3 : ¬ ((I 34 3) ≤ (nI k)) → vp_in (12 + (nI k)) 20) (h4 : ¬ ((I 34 3) ≤ (nI k)) → mWP mTb_ mFT ro (d, 133, 67, [some (.ref 34), some (.int 1), some (.int v1), some (.int (a + ((I 46 ((12 + (nI k)).toNatClampNeg)) / 2))), some (.int (b + (I 46 ((12 + (nI k)).toNatClampNeg)))), some (.int ((nI k) + 1))], [], 0, 0, (mSH, I, L)) Q) : mWP mTb_ mFT ro (d, 133, 67, [some (.ref 34), some (.int 1), some (.int v1), some (.int a), some (.int b), some (.int (nI k))], [], 0, 0, (mSH, I, L)) Q := by
  refine mB 3 (s2 := (d, 133, 73, [some (.ref 34), some (.int 1), some (.int v1), some (.int a), some (.int b), some (.int (nI k))], [.int (I 34 3), .int (nI k)], 0, 0, (mSH, I, L))) rfl ?_
  refine mBr (s2 := (d, 133, 120, [some (.ref 34), some (.int 1), some (.int v1), some (.int a), some (.int b), some (.int (nI k))], [], 0, 0, (mSH, I, L))) (s3 := (d, 133, 76, [some (.ref 34), some (.int 1), some (.int v1), some (.int a), some (.int b), some (.int (nI k))], [], 0, 0, (mSH, I, L))) rfl (fun c0 => ?_) (fun c0 => ?_)
  · exact h1 (of_decide_eq_true c0)
  · refine mB 10 (s2 := (d, 133, 90, [some (.ref 34), some (.int 1), some (.int v1), some (.int a), some (.int b), some (.int (nI k))], [.int (12 + (nI k)), .ref 46, .int a], 0, 0, (mSH, I, L))) rfl ?_
    refine mRq (s2 := (d, 133, 91, [some (.ref 34), some (.int 1), some (.int v1), some (.int a), some (.int b), some (.int (nI k))], [.int (I 46 ((12 + (nI k)).toNatClampNeg)), .int a], 0, 0, (mSH, I, L))) rfl (mVp_of (h2 (of_decide_eq_false c0))) ?_
    refine mB 1 (s2 := (d, 133, 92, [some (.ref 34), some (.int 1), some (.int v1), some (.int a), some (.int b), some (.int (nI k))], [.int 2, .int (I 46 ((12 + (nI k)).toNatClampNeg)), .int a], 0, 0, (mSH, I, L))) rfl ?_
    refine mRq (s2 := (d, 133, 93, [some (.ref 34), some (.int 1), some (.int v1), some (.int a), some (.int b), some (.int (nI k))], [.int ((I 46 ((12 + (nI k)).toNatClampNeg)) / 2), .int a], 0, 0, (mSH, I, L))) rfl (by decide) ?_
    refine mB 12 (s2 := (d, 133, 110, [some (.ref 34), some (.int 1), some (.int v1), some (.int (a + ((I 46 ((12 + (nI k)).toNatClampNeg)) / 2))), some (.int b), some (.int (nI k))], [.int (12 + (nI k)), .ref 46, .int b], 0, 0, (mSH, I, L))) rfl ?_
    refine mRq (s2 := (d, 133, 111, [some (.ref 34), some (.int 1), some (.int v1), some (.int (a + ((I 46 ((12 + (nI k)).toNatClampNeg)) / 2))), some (.int b), some (.int (nI k))], [.int (I 46 ((12 + (nI k)).toNatClampNeg)), .int b], 0, 0, (mSH, I, L))) rfl (mVp_of (h3 (of_decide_eq_false c0))) ?_
    refine mB 4 (s2 := (d, 133, 67, [some (.ref 34), some (.int 1), some (.int v1), some (.int (a + ((I 46 ((12 + (nI k)).toNatClampNeg)) / 2))), some (.int (b + (I 46 ((12 + (nI k)).toNatClampNeg)))), some (.int ((nI k) + 1))], [], 0, 0, (mSH, I, L))) rfl ?_
    exact h4 (of_decide_eq_false c0)
theorem f_mma1 {ro : Nat → Nat × (Nat → Int32)} {Q : mPo} {d : Nat} {I : Nat → Nat → Int32} {L : Nat → Nat → Int64} {v1 a b k : Int32} (h0 : ¬ v1 < 0) (hq : ∀ r, Q (some (.int r)) (mSH, I, L))   : mWP mTb_ mFT ro (d, 133, 120, [some (.ref 34), some (.int 1), some (.int v1), some (.int a), some (.int b), some (.int k)], [], 0, 0, (mSH, I, L)) Q := by
  refine mB 2 (s2 := (d, 133, 122, [some (.ref 34), some (.int 1), some (.int v1), some (.int a), some (.int b), some (.int k)], [.int 2, .int v1], 0, 0, (mSH, I, L))) rfl ?_
  refine mBr (s2 := (d, 133, 139, [some (.ref 34), some (.int 1), some (.int v1), some (.int a), some (.int b), some (.int k)], [], 0, 0, (mSH, I, L))) (s3 := (d, 133, 125, [some (.ref 34), some (.int 1), some (.int v1), some (.int a), some (.int b), some (.int k)], [], 0, 0, (mSH, I, L))) rfl (fun c0 => ?_) (fun c0 => ?_)
  · refine mB 2 (s2 := (d, 133, 141, [some (.ref 34), some (.int 1), some (.int v1), some (.int a), some (.int b), some (.int k)], [.int 2, .int v1], 0, 0, (mSH, I, L))) rfl ?_
    refine mBr (s2 := (d, 133, 144, [some (.ref 34), some (.int 1), some (.int v1), some (.int a), some (.int b), some (.int k)], [], 0, 0, (mSH, I, L))) (s3 := (d, 133, 148, [some (.ref 34), some (.int 1), some (.int v1), some (.int a), some (.int b), some (.int k)], [], 0, 0, (mSH, I, L))) rfl (fun c1 => ?_) (fun c1 => ?_)
    · refine mB 2 (s2 := (d, 133, 150, [some (.ref 34), some (.int 1), some (.int v1), some (.int a), some (.int b), some (.int k)], [.int a], 0, 0, (mSH, I, L))) rfl ?_
      refine mRt (r := (some (.int a))) (h := (mSH, I, L)) rfl (mRet_int rfl) ?_
      exact hq _
    · refine mB 1 (s2 := (d, 133, 150, [some (.ref 34), some (.int 1), some (.int v1), some (.int a), some (.int b), some (.int k)], [.int b], 0, 0, (mSH, I, L))) rfl ?_
      refine mRt (r := (some (.int b))) (h := (mSH, I, L)) rfl (mRet_int rfl) ?_
      exact hq _
  · refine mB 7 (s2 := (d, 133, 135, [some (.ref 34), some (.int 1), some (.int v1), some (.int a), some (.int b), some (.int k)], [.int (10 + v1), .ref 46], 0, 0, (mSH, I, L))) rfl ?_
    refine mRq (s2 := (d, 133, 136, [some (.ref 34), some (.int 1), some (.int v1), some (.int a), some (.int b), some (.int k)], [.int (I 46 ((10 + v1).toNatClampNeg))], 0, 0, (mSH, I, L))) rfl (mVp_of (vp_in_iff.mpr (by have a0 := h0; have a1 := (of_decide_eq_false c0); rw [Int32.lt_iff_toInt_lt, mLi0] at a0; rw [Int32.le_iff_toInt_le, mLi2] at a1; have e : (10 + v1).toInt = 10 + v1.toInt := (by rw [Int32.toInt_add, show (10 : Int32).toInt = 10 from rfl, Int.bmod_eq_of_le (by omega) (by omega)]); omega))) ?_
    refine mB 1 (s2 := (d, 133, 150, [some (.ref 34), some (.int 1), some (.int v1), some (.int a), some (.int b), some (.int k)], [.int (I 46 ((10 + v1).toNatClampNeg))], 0, 0, (mSH, I, L))) rfl ?_
    refine mRt (r := (some (.int (I 46 ((10 + v1).toNatClampNeg))))) (h := (mSH, I, L)) rfl (mRet_int rfl) ?_
    exact hq _
theorem l_mma1 {ro : Nat → Nat × (Nat → Int32)} {Q : mPo} {d : Nat} {I : Nat → Nat → Int32} {L : Nat → Nat → Int64} {n : Nat} {v1 : Int32} (hn : n ≤ 8) (g3 : I 34 3 = nI n) (h0 : ¬ v1 < 0) (hq : ∀ r, Q (some (.int r)) (mSH, I, L)) : ∀ (e k : Nat), k + e = n → ∀ a b : Int32, mWP mTb_ mFT ro (d, 133, 67, [some (.ref 34), some (.int 1), some (.int v1), some (.int a), some (.int b), some (.int (nI k))], [], 0, 0, (mSH, I, L)) Q := by
  have fin : ∀ a b k, mWP mTb_ mFT ro (d, 133, 120, [some (.ref 34), some (.int 1), some (.int v1), some (.int a), some (.int b), some (.int k)], [], 0, 0, (mSH, I, L)) Q := fun a b k => f_mma1 h0 hq
  intro e
  induction e with
  | zero =>
    intro k he a b
    have z : I 34 3 ≤ nI k := by
      rw [g3]
      exact nI_le (by omega) (by omega)
    apply s_mma1
    all_goals intros
    all_goals first | exact fin _ _ _ | exact absurd z (by assumption)
  | succ e ih =>
    intro k he a b
    have z : ¬ I 34 3 ≤ nI k := by
      rw [g3]
      exact nI_ge (by omega) (by omega)
    have e2 : (12 : Int32) + nI k = nI (12 + k) := nI_add 12 k
    have v2 : vp_in ((12 : Int32) + nI k) 20 := by
      rw [e2]
      exact vp_in_nI (by omega) (by omega)
    apply s_mma1
    all_goals intros
    all_goals first | exact absurd (by assumption) z | exact v2 | (rw [nI_1]; exact ih (k + 1) (by omega) _ _)
theorem m_match_1 {ro : Nat → Nat × (Nat → Int32)} {Q : mPo} {d : Nat} {I : Nat → Nat → Int32} {L : Nat → Nat → Int64} {s n t : Nat} {v1 : Int32} (hm : mM s n t I) (h0 : ¬ v1 < 0) (hq : ∀ r I1 L1, mTx I I1 → mIM I1 → Q (some (.int r)) (mSH, I1, L1))   : mWP mTb_ mFT ro (d + 5, 133, 25, [some (.ref 34), some (.int 1), some (.int v1), none, none, none], [], 0, 0, (mSH, I, L)) Q := by
  refine mB 1 (s2 := (d + 5, 133, 26, [some (.ref 34), some (.int 1), some (.int v1), none, none, none], [.ref 34], 0, 0, (mSH, I, L))) rfl ?_
  refine mCall (s2 := (d + 4, 132, 0, [some (.ref 34)], [], 0, 0, (mSH, I, L))) rfl ?_
  refine w_isf hm ?_ ?_
  · intro K1 gK1
    show mWP mTb_ mFT ro (d + 5, 133, 29, [some (.ref 34), some (.int 1), some (.int v1), none, none, none], [.int 0], 0, 0, (mSH, K1, L)) _
    refine mB 6 (s2 := (d + 5, 133, 38, [some (.ref 34), some (.int 1), some (.int v1), none, none, none], [.int 10, .ref 46], 0, 0, (mSH, K1, L))) rfl ?_
    refine mRq (s2 := (d + 5, 133, 39, [some (.ref 34), some (.int 1), some (.int v1), none, none, none], [.int (K1 46 10)], 0, 0, (mSH, K1, L))) rfl (by decide) ?_
    refine mBr (s2 := (d + 5, 133, 49, [some (.ref 34), some (.int 1), some (.int v1), none, none, none], [], 0, 0, (mSH, K1, L))) (s3 := (d + 5, 133, 42, [some (.ref 34), some (.int 1), some (.int v1), none, none, none], [], 0, 0, (mSH, K1, L))) rfl (fun c0 => ?_) (fun c0 => ?_)
    · refine mB 9 (s2 := (d + 5, 133, 61, [some (.ref 34), some (.int 1), some (.int v1), some (.int 0), none, none], [.int 11, .ref 46], 0, 0, (mSH, K1, L))) rfl ?_
      refine mRq (s2 := (d + 5, 133, 62, [some (.ref 34), some (.int 1), some (.int v1), some (.int 0), none, none], [.int (K1 46 11)], 0, 0, (mSH, K1, L))) rfl (by decide) ?_
      refine mB 3 (s2 := (d + 5, 133, 67, [some (.ref 34), some (.int 1), some (.int v1), some (.int 0), some (.int (K1 46 11)), some (.int 0)], [], 0, 0, (mSH, K1, L))) rfl ?_
      exact l_mma1 hm.2.1.2 ((gK1.m hm)).2.1.1 h0 (fun r => hq _ _ _ (gK1).x ⟨s, n, t, (gK1).m hm⟩) n 0 (by omega) _ _
    · refine mB 2 (s2 := (d + 5, 133, 45, [some (.ref 34), some (.int 1), some (.int v1), none, none, none], [.int (-3), .ref 34], 0, 0, (mSH, K1, L))) rfl ?_
      refine mCall (s2 := (d + 4, 113, 0, [some (.ref 34), some (.int (-3))], [], 0, 0, (mSH, K1, L))) rfl ?_
      refine mB 6 (s2 := (d + 4, 113, 9, [some (.ref 34), some (.int (-3))], [.int 1, .ref 39, .int 1, .ref 39], 0, 0, (mSH, K1, L))) rfl ?_
      refine mRq (s2 := (d + 4, 113, 10, [some (.ref 34), some (.int (-3))], [.int (K1 39 1), .int 1, .ref 39], 0, 0, (mSH, K1, L))) rfl (by decide) ?_
      refine mB 2 (s2 := (d + 4, 113, 12, [some (.ref 34), some (.int (-3))], [.int ((K1 39 1) + 1), .int 1, .ref 39], 0, 0, (mSH, K1, L))) rfl ?_
      refine mRq (s2 := (d + 4, 113, 13, [some (.ref 34), some (.int (-3))], [], 0, 0, (mSH, (mUp K1 39 1 ((K1 39 1) + 1)), L))) rfl (by decide) ?_
      refine mB 1 (s2 := (d + 4, 113, 14, [some (.ref 34), some (.int (-3))], [.int (-3)], 0, 0, (mSH, (mUp K1 39 1 ((K1 39 1) + 1)), L))) rfl ?_
      refine mRt (r := (some (.int (-3)))) (h := (mSH, (mUp K1 39 1 ((K1 39 1) + 1)), L)) rfl (mRet_int rfl) ?_
      show mWP mTb_ mFT ro (d + 5, 133, 48, [some (.ref 34), some (.int 1), some (.int v1), none, none, none], [.int (-3)], 0, 0, (mSH, (mUp K1 39 1 ((K1 39 1) + 1)), L)) _
      refine mRt (r := (some (.int (-3)))) (h := (mSH, (mUp K1 39 1 ((K1 39 1) + 1)), L)) rfl (mRet_int rfl) ?_
      exact hq _ _ _ ((mGr.up (by rfl) gK1)).x ⟨s, n, t, ((mGr.up (by rfl) gK1)).m hm⟩
  · intro K1 gK1 vK1 pK1
    show mWP mTb_ mFT ro (d + 5, 133, 29, [some (.ref 34), some (.int 1), some (.int v1), none, none, none], [.int 1], 0, 0, (mSH, K1, L)) _
    refine mB 6 (s2 := (d + 5, 133, 38, [some (.ref 34), some (.int 1), some (.int v1), none, none, none], [.int 10, .ref 46], 0, 0, (mSH, K1, L))) rfl ?_
    refine mRq (s2 := (d + 5, 133, 39, [some (.ref 34), some (.int 1), some (.int v1), none, none, none], [.int (K1 46 10)], 0, 0, (mSH, K1, L))) rfl (by decide) ?_
    refine mBr (s2 := (d + 5, 133, 49, [some (.ref 34), some (.int 1), some (.int v1), none, none, none], [], 0, 0, (mSH, K1, L))) (s3 := (d + 5, 133, 42, [some (.ref 34), some (.int 1), some (.int v1), none, none, none], [], 0, 0, (mSH, K1, L))) rfl (fun c0 => ?_) (fun c0 => ?_)
    · refine mB 9 (s2 := (d + 5, 133, 61, [some (.ref 34), some (.int 1), some (.int v1), some (.int 0), none, none], [.int 11, .ref 46], 0, 0, (mSH, K1, L))) rfl ?_
      refine mRq (s2 := (d + 5, 133, 62, [some (.ref 34), some (.int 1), some (.int v1), some (.int 0), none, none], [.int (K1 46 11)], 0, 0, (mSH, K1, L))) rfl (by decide) ?_
      refine mB 3 (s2 := (d + 5, 133, 67, [some (.ref 34), some (.int 1), some (.int v1), some (.int 0), some (.int (K1 46 11)), some (.int 0)], [], 0, 0, (mSH, K1, L))) rfl ?_
      exact l_mma1 hm.2.1.2 ((gK1.m hm)).2.1.1 h0 (fun r => hq _ _ _ (gK1).x ⟨s, n, t, (gK1).m hm⟩) n 0 (by omega) _ _
    · refine mB 2 (s2 := (d + 5, 133, 45, [some (.ref 34), some (.int 1), some (.int v1), none, none, none], [.int (-3), .ref 34], 0, 0, (mSH, K1, L))) rfl ?_
      refine mCall (s2 := (d + 4, 113, 0, [some (.ref 34), some (.int (-3))], [], 0, 0, (mSH, K1, L))) rfl ?_
      refine mB 6 (s2 := (d + 4, 113, 9, [some (.ref 34), some (.int (-3))], [.int 1, .ref 39, .int 1, .ref 39], 0, 0, (mSH, K1, L))) rfl ?_
      refine mRq (s2 := (d + 4, 113, 10, [some (.ref 34), some (.int (-3))], [.int (K1 39 1), .int 1, .ref 39], 0, 0, (mSH, K1, L))) rfl (by decide) ?_
      refine mB 2 (s2 := (d + 4, 113, 12, [some (.ref 34), some (.int (-3))], [.int ((K1 39 1) + 1), .int 1, .ref 39], 0, 0, (mSH, K1, L))) rfl ?_
      refine mRq (s2 := (d + 4, 113, 13, [some (.ref 34), some (.int (-3))], [], 0, 0, (mSH, (mUp K1 39 1 ((K1 39 1) + 1)), L))) rfl (by decide) ?_
      refine mB 1 (s2 := (d + 4, 113, 14, [some (.ref 34), some (.int (-3))], [.int (-3)], 0, 0, (mSH, (mUp K1 39 1 ((K1 39 1) + 1)), L))) rfl ?_
      refine mRt (r := (some (.int (-3)))) (h := (mSH, (mUp K1 39 1 ((K1 39 1) + 1)), L)) rfl (mRet_int rfl) ?_
      show mWP mTb_ mFT ro (d + 5, 133, 48, [some (.ref 34), some (.int 1), some (.int v1), none, none, none], [.int (-3)], 0, 0, (mSH, (mUp K1 39 1 ((K1 39 1) + 1)), L)) _
      refine mRt (r := (some (.int (-3)))) (h := (mSH, (mUp K1 39 1 ((K1 39 1) + 1)), L)) rfl (mRet_int rfl) ?_
      exact hq _ _ _ ((mGr.up (by rfl) gK1)).x ⟨s, n, t, ((mGr.up (by rfl) gK1)).m hm⟩
theorem m_match {ro : Nat → Nat × (Nat → Int32)} {Q : mPo} {d : Nat} {I : Nat → Nat → Int32} {L : Nat → Nat → Int64} {s n t : Nat} {v0 v1 : Int32} (hm : mM s n t I) (hq : ∀ r I1 L1, mTx I I1 → mIM I1 → Q (some (.int r)) (mSH, I1, L1))   : mWP mTb_ mFT ro (d + 5, 133, 0, [some (.ref 34), some (.int v0), some (.int v1), none, none, none], [], 0, 0, (mSH, I, L)) Q := by
  refine mB 3 (s2 := (d + 5, 133, 3, [some (.ref 34), some (.int v0), some (.int v1), none, none, none], [.int 1, .int 0, .int v0], 0, 0, (mSH, I, L))) rfl ?_
  refine mCall (s2 := (d + 4, 112, 0, [some (.int v0), some (.int 0), some (.int 1)], [], 0, 0, (mSH, I, L))) rfl ?_
  refine mB 2 (s2 := (d + 4, 112, 2, [some (.int v0), some (.int 0), some (.int 1)], [.int 0, .int v0], 0, 0, (mSH, I, L))) rfl ?_
  refine mBr (s2 := (d + 4, 112, 14, [some (.int v0), some (.int 0), some (.int 1)], [], 0, 0, (mSH, I, L))) (s3 := (d + 4, 112, 5, [some (.int v0), some (.int 0), some (.int 1)], [], 0, 0, (mSH, I, L))) rfl (fun c0 => ?_) (fun c0 => ?_)
  · refine mB 1 (s2 := (d + 4, 112, 15, [some (.int v0), some (.int 0), some (.int 1)], [.int 0], 0, 0, (mSH, I, L))) rfl ?_
    refine mRt (r := (some (.int 0))) (h := (mSH, I, L)) rfl rfl ?_
    show mWP mTb_ mFT ro (d + 5, 133, 6, [some (.ref 34), some (.int v0), some (.int v1), none, none, none], [.int 0], 0, 0, (mSH, I, L)) _
    refine mBT (s2 := (d + 5, 133, 18, [some (.ref 34), some (.int v0), some (.int v1), none, none, none], [], 0, 0, (mSH, I, L))) rfl (by decide) ?_
    refine mB 2 (s2 := (d + 5, 133, 21, [some (.ref 34), some (.int v0), some (.int v1), none, none, none], [.int (-2), .ref 34], 0, 0, (mSH, I, L))) rfl ?_
    refine mCall (s2 := (d + 4, 113, 0, [some (.ref 34), some (.int (-2))], [], 0, 0, (mSH, I, L))) rfl ?_
    refine mB 6 (s2 := (d + 4, 113, 9, [some (.ref 34), some (.int (-2))], [.int 0, .ref 39, .int 0, .ref 39], 0, 0, (mSH, I, L))) rfl ?_
    refine mRq (s2 := (d + 4, 113, 10, [some (.ref 34), some (.int (-2))], [.int (I 39 0), .int 0, .ref 39], 0, 0, (mSH, I, L))) rfl (by decide) ?_
    refine mB 2 (s2 := (d + 4, 113, 12, [some (.ref 34), some (.int (-2))], [.int ((I 39 0) + 1), .int 0, .ref 39], 0, 0, (mSH, I, L))) rfl ?_
    refine mRq (s2 := (d + 4, 113, 13, [some (.ref 34), some (.int (-2))], [], 0, 0, (mSH, (mUp I 39 0 ((I 39 0) + 1)), L))) rfl (by decide) ?_
    refine mB 1 (s2 := (d + 4, 113, 14, [some (.ref 34), some (.int (-2))], [.int (-2)], 0, 0, (mSH, (mUp I 39 0 ((I 39 0) + 1)), L))) rfl ?_
    refine mRt (r := (some (.int (-2)))) (h := (mSH, (mUp I 39 0 ((I 39 0) + 1)), L)) rfl (mRet_int rfl) ?_
    show mWP mTb_ mFT ro (d + 5, 133, 24, [some (.ref 34), some (.int v0), some (.int v1), none, none, none], [.int (-2)], 0, 0, (mSH, (mUp I 39 0 ((I 39 0) + 1)), L)) _
    refine mRt (r := (some (.int (-2)))) (h := (mSH, (mUp I 39 0 ((I 39 0) + 1)), L)) rfl (mRet_int rfl) ?_
    exact hq _ _ _ ((mGr.up (by rfl) mGr.rf)).x ⟨s, n, t, ((mGr.up (by rfl) mGr.rf)).m hm⟩
  · refine mB 2 (s2 := (d + 4, 112, 7, [some (.int v0), some (.int 0), some (.int 1)], [.int 1, .int v0], 0, 0, (mSH, I, L))) rfl ?_
    refine mBr (s2 := (d + 4, 112, 14, [some (.int v0), some (.int 0), some (.int 1)], [], 0, 0, (mSH, I, L))) (s3 := (d + 4, 112, 10, [some (.int v0), some (.int 0), some (.int 1)], [], 0, 0, (mSH, I, L))) rfl (fun c1 => ?_) (fun c1 => ?_)
    · refine mB 1 (s2 := (d + 4, 112, 15, [some (.int v0), some (.int 0), some (.int 1)], [.int 0], 0, 0, (mSH, I, L))) rfl ?_
      refine mRt (r := (some (.int 0))) (h := (mSH, I, L)) rfl rfl ?_
      show mWP mTb_ mFT ro (d + 5, 133, 6, [some (.ref 34), some (.int v0), some (.int v1), none, none, none], [.int 0], 0, 0, (mSH, I, L)) _
      refine mBT (s2 := (d + 5, 133, 18, [some (.ref 34), some (.int v0), some (.int v1), none, none, none], [], 0, 0, (mSH, I, L))) rfl (by decide) ?_
      refine mB 2 (s2 := (d + 5, 133, 21, [some (.ref 34), some (.int v0), some (.int v1), none, none, none], [.int (-2), .ref 34], 0, 0, (mSH, I, L))) rfl ?_
      refine mCall (s2 := (d + 4, 113, 0, [some (.ref 34), some (.int (-2))], [], 0, 0, (mSH, I, L))) rfl ?_
      refine mB 6 (s2 := (d + 4, 113, 9, [some (.ref 34), some (.int (-2))], [.int 0, .ref 39, .int 0, .ref 39], 0, 0, (mSH, I, L))) rfl ?_
      refine mRq (s2 := (d + 4, 113, 10, [some (.ref 34), some (.int (-2))], [.int (I 39 0), .int 0, .ref 39], 0, 0, (mSH, I, L))) rfl (by decide) ?_
      refine mB 2 (s2 := (d + 4, 113, 12, [some (.ref 34), some (.int (-2))], [.int ((I 39 0) + 1), .int 0, .ref 39], 0, 0, (mSH, I, L))) rfl ?_
      refine mRq (s2 := (d + 4, 113, 13, [some (.ref 34), some (.int (-2))], [], 0, 0, (mSH, (mUp I 39 0 ((I 39 0) + 1)), L))) rfl (by decide) ?_
      refine mB 1 (s2 := (d + 4, 113, 14, [some (.ref 34), some (.int (-2))], [.int (-2)], 0, 0, (mSH, (mUp I 39 0 ((I 39 0) + 1)), L))) rfl ?_
      refine mRt (r := (some (.int (-2)))) (h := (mSH, (mUp I 39 0 ((I 39 0) + 1)), L)) rfl (mRet_int rfl) ?_
      show mWP mTb_ mFT ro (d + 5, 133, 24, [some (.ref 34), some (.int v0), some (.int v1), none, none, none], [.int (-2)], 0, 0, (mSH, (mUp I 39 0 ((I 39 0) + 1)), L)) _
      refine mRt (r := (some (.int (-2)))) (h := (mSH, (mUp I 39 0 ((I 39 0) + 1)), L)) rfl (mRet_int rfl) ?_
      exact hq _ _ _ ((mGr.up (by rfl) mGr.rf)).x ⟨s, n, t, ((mGr.up (by rfl) mGr.rf)).m hm⟩
    · refine mB 2 (s2 := (d + 4, 112, 15, [some (.int v0), some (.int 0), some (.int 1)], [.int 1], 0, 0, (mSH, I, L))) rfl ?_
      refine mRt (r := (some (.int 1))) (h := (mSH, I, L)) rfl rfl ?_
      show mWP mTb_ mFT ro (d + 5, 133, 6, [some (.ref 34), some (.int v0), some (.int v1), none, none, none], [.int 1], 0, 0, (mSH, I, L)) _
      refine mBF (s3 := (d + 5, 133, 9, [some (.ref 34), some (.int v0), some (.int v1), none, none, none], [], 0, 0, (mSH, I, L))) rfl (by decide) ?_
      refine mB 3 (s2 := (d + 5, 133, 12, [some (.ref 34), some (.int v0), some (.int v1), none, none, none], [.int 3, .int 0, .int v1], 0, 0, (mSH, I, L))) rfl ?_
      refine mCall (s2 := (d + 4, 112, 0, [some (.int v1), some (.int 0), some (.int 3)], [], 0, 0, (mSH, I, L))) rfl ?_
      refine mB 2 (s2 := (d + 4, 112, 2, [some (.int v1), some (.int 0), some (.int 3)], [.int 0, .int v1], 0, 0, (mSH, I, L))) rfl ?_
      refine mBr (s2 := (d + 4, 112, 14, [some (.int v1), some (.int 0), some (.int 3)], [], 0, 0, (mSH, I, L))) (s3 := (d + 4, 112, 5, [some (.int v1), some (.int 0), some (.int 3)], [], 0, 0, (mSH, I, L))) rfl (fun c2 => ?_) (fun c2 => ?_)
      · refine mB 1 (s2 := (d + 4, 112, 15, [some (.int v1), some (.int 0), some (.int 3)], [.int 0], 0, 0, (mSH, I, L))) rfl ?_
        refine mRt (r := (some (.int 0))) (h := (mSH, I, L)) rfl rfl ?_
        show mWP mTb_ mFT ro (d + 5, 133, 15, [some (.ref 34), some (.int v0), some (.int v1), none, none, none], [.int 0], 0, 0, (mSH, I, L)) _
        refine mBT (s2 := (d + 5, 133, 18, [some (.ref 34), some (.int v0), some (.int v1), none, none, none], [], 0, 0, (mSH, I, L))) rfl (by decide) ?_
        refine mB 2 (s2 := (d + 5, 133, 21, [some (.ref 34), some (.int v0), some (.int v1), none, none, none], [.int (-2), .ref 34], 0, 0, (mSH, I, L))) rfl ?_
        refine mCall (s2 := (d + 4, 113, 0, [some (.ref 34), some (.int (-2))], [], 0, 0, (mSH, I, L))) rfl ?_
        refine mB 6 (s2 := (d + 4, 113, 9, [some (.ref 34), some (.int (-2))], [.int 0, .ref 39, .int 0, .ref 39], 0, 0, (mSH, I, L))) rfl ?_
        refine mRq (s2 := (d + 4, 113, 10, [some (.ref 34), some (.int (-2))], [.int (I 39 0), .int 0, .ref 39], 0, 0, (mSH, I, L))) rfl (by decide) ?_
        refine mB 2 (s2 := (d + 4, 113, 12, [some (.ref 34), some (.int (-2))], [.int ((I 39 0) + 1), .int 0, .ref 39], 0, 0, (mSH, I, L))) rfl ?_
        refine mRq (s2 := (d + 4, 113, 13, [some (.ref 34), some (.int (-2))], [], 0, 0, (mSH, (mUp I 39 0 ((I 39 0) + 1)), L))) rfl (by decide) ?_
        refine mB 1 (s2 := (d + 4, 113, 14, [some (.ref 34), some (.int (-2))], [.int (-2)], 0, 0, (mSH, (mUp I 39 0 ((I 39 0) + 1)), L))) rfl ?_
        refine mRt (r := (some (.int (-2)))) (h := (mSH, (mUp I 39 0 ((I 39 0) + 1)), L)) rfl (mRet_int rfl) ?_
        show mWP mTb_ mFT ro (d + 5, 133, 24, [some (.ref 34), some (.int v0), some (.int v1), none, none, none], [.int (-2)], 0, 0, (mSH, (mUp I 39 0 ((I 39 0) + 1)), L)) _
        refine mRt (r := (some (.int (-2)))) (h := (mSH, (mUp I 39 0 ((I 39 0) + 1)), L)) rfl (mRet_int rfl) ?_
        exact hq _ _ _ ((mGr.up (by rfl) mGr.rf)).x ⟨s, n, t, ((mGr.up (by rfl) mGr.rf)).m hm⟩
      · refine mB 2 (s2 := (d + 4, 112, 7, [some (.int v1), some (.int 0), some (.int 3)], [.int 3, .int v1], 0, 0, (mSH, I, L))) rfl ?_
        refine mBr (s2 := (d + 4, 112, 14, [some (.int v1), some (.int 0), some (.int 3)], [], 0, 0, (mSH, I, L))) (s3 := (d + 4, 112, 10, [some (.int v1), some (.int 0), some (.int 3)], [], 0, 0, (mSH, I, L))) rfl (fun c3 => ?_) (fun c3 => ?_)
        · refine mB 1 (s2 := (d + 4, 112, 15, [some (.int v1), some (.int 0), some (.int 3)], [.int 0], 0, 0, (mSH, I, L))) rfl ?_
          refine mRt (r := (some (.int 0))) (h := (mSH, I, L)) rfl rfl ?_
          show mWP mTb_ mFT ro (d + 5, 133, 15, [some (.ref 34), some (.int v0), some (.int v1), none, none, none], [.int 0], 0, 0, (mSH, I, L)) _
          refine mBT (s2 := (d + 5, 133, 18, [some (.ref 34), some (.int v0), some (.int v1), none, none, none], [], 0, 0, (mSH, I, L))) rfl (by decide) ?_
          refine mB 2 (s2 := (d + 5, 133, 21, [some (.ref 34), some (.int v0), some (.int v1), none, none, none], [.int (-2), .ref 34], 0, 0, (mSH, I, L))) rfl ?_
          refine mCall (s2 := (d + 4, 113, 0, [some (.ref 34), some (.int (-2))], [], 0, 0, (mSH, I, L))) rfl ?_
          refine mB 6 (s2 := (d + 4, 113, 9, [some (.ref 34), some (.int (-2))], [.int 0, .ref 39, .int 0, .ref 39], 0, 0, (mSH, I, L))) rfl ?_
          refine mRq (s2 := (d + 4, 113, 10, [some (.ref 34), some (.int (-2))], [.int (I 39 0), .int 0, .ref 39], 0, 0, (mSH, I, L))) rfl (by decide) ?_
          refine mB 2 (s2 := (d + 4, 113, 12, [some (.ref 34), some (.int (-2))], [.int ((I 39 0) + 1), .int 0, .ref 39], 0, 0, (mSH, I, L))) rfl ?_
          refine mRq (s2 := (d + 4, 113, 13, [some (.ref 34), some (.int (-2))], [], 0, 0, (mSH, (mUp I 39 0 ((I 39 0) + 1)), L))) rfl (by decide) ?_
          refine mB 1 (s2 := (d + 4, 113, 14, [some (.ref 34), some (.int (-2))], [.int (-2)], 0, 0, (mSH, (mUp I 39 0 ((I 39 0) + 1)), L))) rfl ?_
          refine mRt (r := (some (.int (-2)))) (h := (mSH, (mUp I 39 0 ((I 39 0) + 1)), L)) rfl (mRet_int rfl) ?_
          show mWP mTb_ mFT ro (d + 5, 133, 24, [some (.ref 34), some (.int v0), some (.int v1), none, none, none], [.int (-2)], 0, 0, (mSH, (mUp I 39 0 ((I 39 0) + 1)), L)) _
          refine mRt (r := (some (.int (-2)))) (h := (mSH, (mUp I 39 0 ((I 39 0) + 1)), L)) rfl (mRet_int rfl) ?_
          exact hq _ _ _ ((mGr.up (by rfl) mGr.rf)).x ⟨s, n, t, ((mGr.up (by rfl) mGr.rf)).m hm⟩
        · refine mB 2 (s2 := (d + 4, 112, 15, [some (.int v1), some (.int 0), some (.int 3)], [.int 1], 0, 0, (mSH, I, L))) rfl ?_
          refine mRt (r := (some (.int 1))) (h := (mSH, I, L)) rfl rfl ?_
          show mWP mTb_ mFT ro (d + 5, 133, 15, [some (.ref 34), some (.int v0), some (.int v1), none, none, none], [.int 1], 0, 0, (mSH, I, L)) _
          refine mBF (s3 := (d + 5, 133, 25, [some (.ref 34), some (.int v0), some (.int v1), none, none, none], [], 0, 0, (mSH, I, L))) rfl (by decide) ?_
          (rcases mEi (of_decide_eq_false c0) (of_decide_eq_false c1) with e | e <;> (subst e; first | exact m_match_0 hm (of_decide_eq_false c2) hq | exact m_match_1 hm (of_decide_eq_false c2) hq))
theorem m_block_0 {ro : Nat → Nat × (Nat → Int32)} {Q : mPo} {d : Nat} {I : Nat → Nat → Int32} {L : Nat → Nat → Int64} {s n t : Nat} {j : Nat} (hm : mM s n t I) (hj : j < n) (hq : ∀ r I1 L1, mTx I I1 → mIM I1 → Q (some (.int r)) (mSH, I1, L1))   : mWP mTb_ mFT ro (d + 5, 134, 24, [some (.ref 34), some (.int 0), some (.int (nI j))], [], 0, 0, (mSH, I, L)) Q := by
  refine mB 1 (s2 := (d + 5, 134, 25, [some (.ref 34), some (.int 0), some (.int (nI j))], [.ref 34], 0, 0, (mSH, I, L))) rfl ?_
  refine mCall (s2 := (d + 4, 132, 0, [some (.ref 34)], [], 0, 0, (mSH, I, L))) rfl ?_
  refine w_isf hm ?_ ?_
  · intro K1 gK1
    show mWP mTb_ mFT ro (d + 5, 134, 28, [some (.ref 34), some (.int 0), some (.int (nI j))], [.int 0], 0, 0, (mSH, K1, L)) _
    refine mB 6 (s2 := (d + 5, 134, 37, [some (.ref 34), some (.int 0), some (.int (nI j))], [.int 0, .ref 46], 0, 0, (mSH, K1, L))) rfl ?_
    refine mRq (s2 := (d + 5, 134, 38, [some (.ref 34), some (.int 0), some (.int (nI j))], [.int (K1 46 0)], 0, 0, (mSH, K1, L))) rfl (by decide) ?_
    refine mBr (s2 := (d + 5, 134, 50, [some (.ref 34), some (.int 0), some (.int (nI j))], [], 0, 0, (mSH, K1, L))) (s3 := (d + 5, 134, 41, [some (.ref 34), some (.int 0), some (.int (nI j))], [], 0, 0, (mSH, K1, L))) rfl (fun c0 => ?_) (fun c0 => ?_)
    · refine mB 9 (s2 := (d + 5, 134, 62, [some (.ref 34), some (.int 0), some (.int (nI j))], [.int (2 + (nI j)), .ref 46], 0, 0, (mSH, K1, L))) rfl ?_
      refine mRq (s2 := (d + 5, 134, 63, [some (.ref 34), some (.int 0), some (.int (nI j))], [.int (K1 46 ((2 + (nI j)).toNatClampNeg))], 0, 0, (mSH, K1, L))) rfl (mVp_of (by rw [show (2 : Int32) + nI j = nI (2 + j) from nI_add 2 j]; exact vp_in_nI (by have := hm.2.1.2; omega) (by omega))) ?_
      refine mRt (r := (some (.int (K1 46 ((2 + (nI j)).toNatClampNeg))))) (h := (mSH, K1, L)) rfl (mRet_int rfl) ?_
      exact hq _ _ _ (gK1).x ⟨s, n, t, (gK1).m hm⟩
    · refine mB 2 (s2 := (d + 5, 134, 44, [some (.ref 34), some (.int 0), some (.int (nI j))], [.int (-3), .ref 34], 0, 0, (mSH, K1, L))) rfl ?_
      refine mCall (s2 := (d + 4, 113, 0, [some (.ref 34), some (.int (-3))], [], 0, 0, (mSH, K1, L))) rfl ?_
      refine mB 6 (s2 := (d + 4, 113, 9, [some (.ref 34), some (.int (-3))], [.int 1, .ref 39, .int 1, .ref 39], 0, 0, (mSH, K1, L))) rfl ?_
      refine mRq (s2 := (d + 4, 113, 10, [some (.ref 34), some (.int (-3))], [.int (K1 39 1), .int 1, .ref 39], 0, 0, (mSH, K1, L))) rfl (by decide) ?_
      refine mB 2 (s2 := (d + 4, 113, 12, [some (.ref 34), some (.int (-3))], [.int ((K1 39 1) + 1), .int 1, .ref 39], 0, 0, (mSH, K1, L))) rfl ?_
      refine mRq (s2 := (d + 4, 113, 13, [some (.ref 34), some (.int (-3))], [], 0, 0, (mSH, (mUp K1 39 1 ((K1 39 1) + 1)), L))) rfl (by decide) ?_
      refine mB 1 (s2 := (d + 4, 113, 14, [some (.ref 34), some (.int (-3))], [.int (-3)], 0, 0, (mSH, (mUp K1 39 1 ((K1 39 1) + 1)), L))) rfl ?_
      refine mRt (r := (some (.int (-3)))) (h := (mSH, (mUp K1 39 1 ((K1 39 1) + 1)), L)) rfl (mRet_int rfl) ?_
      show mWP mTb_ mFT ro (d + 5, 134, 47, [some (.ref 34), some (.int 0), some (.int (nI j))], [.int (-3)], 0, 0, (mSH, (mUp K1 39 1 ((K1 39 1) + 1)), L)) _
      refine mB 1 (s2 := (d + 5, 134, 63, [some (.ref 34), some (.int 0), some (.int (nI j))], [.int (-3)], 0, 0, (mSH, (mUp K1 39 1 ((K1 39 1) + 1)), L))) rfl ?_
      refine mRt (r := (some (.int (-3)))) (h := (mSH, (mUp K1 39 1 ((K1 39 1) + 1)), L)) rfl (mRet_int rfl) ?_
      exact hq _ _ _ ((mGr.up (by rfl) gK1)).x ⟨s, n, t, ((mGr.up (by rfl) gK1)).m hm⟩
  · intro K1 gK1 vK1 pK1
    show mWP mTb_ mFT ro (d + 5, 134, 28, [some (.ref 34), some (.int 0), some (.int (nI j))], [.int 1], 0, 0, (mSH, K1, L)) _
    refine mB 6 (s2 := (d + 5, 134, 37, [some (.ref 34), some (.int 0), some (.int (nI j))], [.int 0, .ref 46], 0, 0, (mSH, K1, L))) rfl ?_
    refine mRq (s2 := (d + 5, 134, 38, [some (.ref 34), some (.int 0), some (.int (nI j))], [.int (K1 46 0)], 0, 0, (mSH, K1, L))) rfl (by decide) ?_
    refine mBr (s2 := (d + 5, 134, 50, [some (.ref 34), some (.int 0), some (.int (nI j))], [], 0, 0, (mSH, K1, L))) (s3 := (d + 5, 134, 41, [some (.ref 34), some (.int 0), some (.int (nI j))], [], 0, 0, (mSH, K1, L))) rfl (fun c0 => ?_) (fun c0 => ?_)
    · refine mB 9 (s2 := (d + 5, 134, 62, [some (.ref 34), some (.int 0), some (.int (nI j))], [.int (2 + (nI j)), .ref 46], 0, 0, (mSH, K1, L))) rfl ?_
      refine mRq (s2 := (d + 5, 134, 63, [some (.ref 34), some (.int 0), some (.int (nI j))], [.int (K1 46 ((2 + (nI j)).toNatClampNeg))], 0, 0, (mSH, K1, L))) rfl (mVp_of (by rw [show (2 : Int32) + nI j = nI (2 + j) from nI_add 2 j]; exact vp_in_nI (by have := hm.2.1.2; omega) (by omega))) ?_
      refine mRt (r := (some (.int (K1 46 ((2 + (nI j)).toNatClampNeg))))) (h := (mSH, K1, L)) rfl (mRet_int rfl) ?_
      exact hq _ _ _ (gK1).x ⟨s, n, t, (gK1).m hm⟩
    · refine mB 2 (s2 := (d + 5, 134, 44, [some (.ref 34), some (.int 0), some (.int (nI j))], [.int (-3), .ref 34], 0, 0, (mSH, K1, L))) rfl ?_
      refine mCall (s2 := (d + 4, 113, 0, [some (.ref 34), some (.int (-3))], [], 0, 0, (mSH, K1, L))) rfl ?_
      refine mB 6 (s2 := (d + 4, 113, 9, [some (.ref 34), some (.int (-3))], [.int 1, .ref 39, .int 1, .ref 39], 0, 0, (mSH, K1, L))) rfl ?_
      refine mRq (s2 := (d + 4, 113, 10, [some (.ref 34), some (.int (-3))], [.int (K1 39 1), .int 1, .ref 39], 0, 0, (mSH, K1, L))) rfl (by decide) ?_
      refine mB 2 (s2 := (d + 4, 113, 12, [some (.ref 34), some (.int (-3))], [.int ((K1 39 1) + 1), .int 1, .ref 39], 0, 0, (mSH, K1, L))) rfl ?_
      refine mRq (s2 := (d + 4, 113, 13, [some (.ref 34), some (.int (-3))], [], 0, 0, (mSH, (mUp K1 39 1 ((K1 39 1) + 1)), L))) rfl (by decide) ?_
      refine mB 1 (s2 := (d + 4, 113, 14, [some (.ref 34), some (.int (-3))], [.int (-3)], 0, 0, (mSH, (mUp K1 39 1 ((K1 39 1) + 1)), L))) rfl ?_
      refine mRt (r := (some (.int (-3)))) (h := (mSH, (mUp K1 39 1 ((K1 39 1) + 1)), L)) rfl (mRet_int rfl) ?_
      show mWP mTb_ mFT ro (d + 5, 134, 47, [some (.ref 34), some (.int 0), some (.int (nI j))], [.int (-3)], 0, 0, (mSH, (mUp K1 39 1 ((K1 39 1) + 1)), L)) _
      refine mB 1 (s2 := (d + 5, 134, 63, [some (.ref 34), some (.int 0), some (.int (nI j))], [.int (-3)], 0, 0, (mSH, (mUp K1 39 1 ((K1 39 1) + 1)), L))) rfl ?_
      refine mRt (r := (some (.int (-3)))) (h := (mSH, (mUp K1 39 1 ((K1 39 1) + 1)), L)) rfl (mRet_int rfl) ?_
      exact hq _ _ _ ((mGr.up (by rfl) gK1)).x ⟨s, n, t, ((mGr.up (by rfl) gK1)).m hm⟩
theorem m_block_1 {ro : Nat → Nat × (Nat → Int32)} {Q : mPo} {d : Nat} {I : Nat → Nat → Int32} {L : Nat → Nat → Int64} {s n t : Nat} {j : Nat} (hm : mM s n t I) (hj : j < n) (hq : ∀ r I1 L1, mTx I I1 → mIM I1 → Q (some (.int r)) (mSH, I1, L1))   : mWP mTb_ mFT ro (d + 5, 134, 24, [some (.ref 34), some (.int 1), some (.int (nI j))], [], 0, 0, (mSH, I, L)) Q := by
  refine mB 1 (s2 := (d + 5, 134, 25, [some (.ref 34), some (.int 1), some (.int (nI j))], [.ref 34], 0, 0, (mSH, I, L))) rfl ?_
  refine mCall (s2 := (d + 4, 132, 0, [some (.ref 34)], [], 0, 0, (mSH, I, L))) rfl ?_
  refine w_isf hm ?_ ?_
  · intro K1 gK1
    show mWP mTb_ mFT ro (d + 5, 134, 28, [some (.ref 34), some (.int 1), some (.int (nI j))], [.int 0], 0, 0, (mSH, K1, L)) _
    refine mB 6 (s2 := (d + 5, 134, 37, [some (.ref 34), some (.int 1), some (.int (nI j))], [.int 10, .ref 46], 0, 0, (mSH, K1, L))) rfl ?_
    refine mRq (s2 := (d + 5, 134, 38, [some (.ref 34), some (.int 1), some (.int (nI j))], [.int (K1 46 10)], 0, 0, (mSH, K1, L))) rfl (by decide) ?_
    refine mBr (s2 := (d + 5, 134, 50, [some (.ref 34), some (.int 1), some (.int (nI j))], [], 0, 0, (mSH, K1, L))) (s3 := (d + 5, 134, 41, [some (.ref 34), some (.int 1), some (.int (nI j))], [], 0, 0, (mSH, K1, L))) rfl (fun c0 => ?_) (fun c0 => ?_)
    · refine mB 9 (s2 := (d + 5, 134, 62, [some (.ref 34), some (.int 1), some (.int (nI j))], [.int (12 + (nI j)), .ref 46], 0, 0, (mSH, K1, L))) rfl ?_
      refine mRq (s2 := (d + 5, 134, 63, [some (.ref 34), some (.int 1), some (.int (nI j))], [.int (K1 46 ((12 + (nI j)).toNatClampNeg))], 0, 0, (mSH, K1, L))) rfl (mVp_of (by rw [show (12 : Int32) + nI j = nI (12 + j) from nI_add 12 j]; exact vp_in_nI (by have := hm.2.1.2; omega) (by omega))) ?_
      refine mRt (r := (some (.int (K1 46 ((12 + (nI j)).toNatClampNeg))))) (h := (mSH, K1, L)) rfl (mRet_int rfl) ?_
      exact hq _ _ _ (gK1).x ⟨s, n, t, (gK1).m hm⟩
    · refine mB 2 (s2 := (d + 5, 134, 44, [some (.ref 34), some (.int 1), some (.int (nI j))], [.int (-3), .ref 34], 0, 0, (mSH, K1, L))) rfl ?_
      refine mCall (s2 := (d + 4, 113, 0, [some (.ref 34), some (.int (-3))], [], 0, 0, (mSH, K1, L))) rfl ?_
      refine mB 6 (s2 := (d + 4, 113, 9, [some (.ref 34), some (.int (-3))], [.int 1, .ref 39, .int 1, .ref 39], 0, 0, (mSH, K1, L))) rfl ?_
      refine mRq (s2 := (d + 4, 113, 10, [some (.ref 34), some (.int (-3))], [.int (K1 39 1), .int 1, .ref 39], 0, 0, (mSH, K1, L))) rfl (by decide) ?_
      refine mB 2 (s2 := (d + 4, 113, 12, [some (.ref 34), some (.int (-3))], [.int ((K1 39 1) + 1), .int 1, .ref 39], 0, 0, (mSH, K1, L))) rfl ?_
      refine mRq (s2 := (d + 4, 113, 13, [some (.ref 34), some (.int (-3))], [], 0, 0, (mSH, (mUp K1 39 1 ((K1 39 1) + 1)), L))) rfl (by decide) ?_
      refine mB 1 (s2 := (d + 4, 113, 14, [some (.ref 34), some (.int (-3))], [.int (-3)], 0, 0, (mSH, (mUp K1 39 1 ((K1 39 1) + 1)), L))) rfl ?_
      refine mRt (r := (some (.int (-3)))) (h := (mSH, (mUp K1 39 1 ((K1 39 1) + 1)), L)) rfl (mRet_int rfl) ?_
      show mWP mTb_ mFT ro (d + 5, 134, 47, [some (.ref 34), some (.int 1), some (.int (nI j))], [.int (-3)], 0, 0, (mSH, (mUp K1 39 1 ((K1 39 1) + 1)), L)) _
      refine mB 1 (s2 := (d + 5, 134, 63, [some (.ref 34), some (.int 1), some (.int (nI j))], [.int (-3)], 0, 0, (mSH, (mUp K1 39 1 ((K1 39 1) + 1)), L))) rfl ?_
      refine mRt (r := (some (.int (-3)))) (h := (mSH, (mUp K1 39 1 ((K1 39 1) + 1)), L)) rfl (mRet_int rfl) ?_
      exact hq _ _ _ ((mGr.up (by rfl) gK1)).x ⟨s, n, t, ((mGr.up (by rfl) gK1)).m hm⟩
  · intro K1 gK1 vK1 pK1
    show mWP mTb_ mFT ro (d + 5, 134, 28, [some (.ref 34), some (.int 1), some (.int (nI j))], [.int 1], 0, 0, (mSH, K1, L)) _
    refine mB 6 (s2 := (d + 5, 134, 37, [some (.ref 34), some (.int 1), some (.int (nI j))], [.int 10, .ref 46], 0, 0, (mSH, K1, L))) rfl ?_
    refine mRq (s2 := (d + 5, 134, 38, [some (.ref 34), some (.int 1), some (.int (nI j))], [.int (K1 46 10)], 0, 0, (mSH, K1, L))) rfl (by decide) ?_
    refine mBr (s2 := (d + 5, 134, 50, [some (.ref 34), some (.int 1), some (.int (nI j))], [], 0, 0, (mSH, K1, L))) (s3 := (d + 5, 134, 41, [some (.ref 34), some (.int 1), some (.int (nI j))], [], 0, 0, (mSH, K1, L))) rfl (fun c0 => ?_) (fun c0 => ?_)
    · refine mB 9 (s2 := (d + 5, 134, 62, [some (.ref 34), some (.int 1), some (.int (nI j))], [.int (12 + (nI j)), .ref 46], 0, 0, (mSH, K1, L))) rfl ?_
      refine mRq (s2 := (d + 5, 134, 63, [some (.ref 34), some (.int 1), some (.int (nI j))], [.int (K1 46 ((12 + (nI j)).toNatClampNeg))], 0, 0, (mSH, K1, L))) rfl (mVp_of (by rw [show (12 : Int32) + nI j = nI (12 + j) from nI_add 12 j]; exact vp_in_nI (by have := hm.2.1.2; omega) (by omega))) ?_
      refine mRt (r := (some (.int (K1 46 ((12 + (nI j)).toNatClampNeg))))) (h := (mSH, K1, L)) rfl (mRet_int rfl) ?_
      exact hq _ _ _ (gK1).x ⟨s, n, t, (gK1).m hm⟩
    · refine mB 2 (s2 := (d + 5, 134, 44, [some (.ref 34), some (.int 1), some (.int (nI j))], [.int (-3), .ref 34], 0, 0, (mSH, K1, L))) rfl ?_
      refine mCall (s2 := (d + 4, 113, 0, [some (.ref 34), some (.int (-3))], [], 0, 0, (mSH, K1, L))) rfl ?_
      refine mB 6 (s2 := (d + 4, 113, 9, [some (.ref 34), some (.int (-3))], [.int 1, .ref 39, .int 1, .ref 39], 0, 0, (mSH, K1, L))) rfl ?_
      refine mRq (s2 := (d + 4, 113, 10, [some (.ref 34), some (.int (-3))], [.int (K1 39 1), .int 1, .ref 39], 0, 0, (mSH, K1, L))) rfl (by decide) ?_
      refine mB 2 (s2 := (d + 4, 113, 12, [some (.ref 34), some (.int (-3))], [.int ((K1 39 1) + 1), .int 1, .ref 39], 0, 0, (mSH, K1, L))) rfl ?_
      refine mRq (s2 := (d + 4, 113, 13, [some (.ref 34), some (.int (-3))], [], 0, 0, (mSH, (mUp K1 39 1 ((K1 39 1) + 1)), L))) rfl (by decide) ?_
      refine mB 1 (s2 := (d + 4, 113, 14, [some (.ref 34), some (.int (-3))], [.int (-3)], 0, 0, (mSH, (mUp K1 39 1 ((K1 39 1) + 1)), L))) rfl ?_
      refine mRt (r := (some (.int (-3)))) (h := (mSH, (mUp K1 39 1 ((K1 39 1) + 1)), L)) rfl (mRet_int rfl) ?_
      show mWP mTb_ mFT ro (d + 5, 134, 47, [some (.ref 34), some (.int 1), some (.int (nI j))], [.int (-3)], 0, 0, (mSH, (mUp K1 39 1 ((K1 39 1) + 1)), L)) _
      refine mB 1 (s2 := (d + 5, 134, 63, [some (.ref 34), some (.int 1), some (.int (nI j))], [.int (-3)], 0, 0, (mSH, (mUp K1 39 1 ((K1 39 1) + 1)), L))) rfl ?_
      refine mRt (r := (some (.int (-3)))) (h := (mSH, (mUp K1 39 1 ((K1 39 1) + 1)), L)) rfl (mRet_int rfl) ?_
      exact hq _ _ _ ((mGr.up (by rfl) gK1)).x ⟨s, n, t, ((mGr.up (by rfl) gK1)).m hm⟩
theorem m_block {ro : Nat → Nat × (Nat → Int32)} {Q : mPo} {d : Nat} {I : Nat → Nat → Int32} {L : Nat → Nat → Int64} {s n t : Nat} {v0 v1 : Int32} (hm : mM s n t I) (hq : ∀ r I1 L1, mTx I I1 → mIM I1 → Q (some (.int r)) (mSH, I1, L1))   : mWP mTb_ mFT ro (d + 5, 134, 0, [some (.ref 34), some (.int v0), some (.int v1)], [], 0, 0, (mSH, I, L)) Q := by
  refine mB 3 (s2 := (d + 5, 134, 3, [some (.ref 34), some (.int v0), some (.int v1)], [.int 1, .int 0, .int v0], 0, 0, (mSH, I, L))) rfl ?_
  refine mCall (s2 := (d + 4, 112, 0, [some (.int v0), some (.int 0), some (.int 1)], [], 0, 0, (mSH, I, L))) rfl ?_
  refine mB 2 (s2 := (d + 4, 112, 2, [some (.int v0), some (.int 0), some (.int 1)], [.int 0, .int v0], 0, 0, (mSH, I, L))) rfl ?_
  refine mBr (s2 := (d + 4, 112, 14, [some (.int v0), some (.int 0), some (.int 1)], [], 0, 0, (mSH, I, L))) (s3 := (d + 4, 112, 5, [some (.int v0), some (.int 0), some (.int 1)], [], 0, 0, (mSH, I, L))) rfl (fun c0 => ?_) (fun c0 => ?_)
  · refine mB 1 (s2 := (d + 4, 112, 15, [some (.int v0), some (.int 0), some (.int 1)], [.int 0], 0, 0, (mSH, I, L))) rfl ?_
    refine mRt (r := (some (.int 0))) (h := (mSH, I, L)) rfl rfl ?_
    show mWP mTb_ mFT ro (d + 5, 134, 6, [some (.ref 34), some (.int v0), some (.int v1)], [.int 0], 0, 0, (mSH, I, L)) _
    refine mBT (s2 := (d + 5, 134, 17, [some (.ref 34), some (.int v0), some (.int v1)], [], 0, 0, (mSH, I, L))) rfl (by decide) ?_
    refine mB 2 (s2 := (d + 5, 134, 20, [some (.ref 34), some (.int v0), some (.int v1)], [.int (-2), .ref 34], 0, 0, (mSH, I, L))) rfl ?_
    refine mCall (s2 := (d + 4, 113, 0, [some (.ref 34), some (.int (-2))], [], 0, 0, (mSH, I, L))) rfl ?_
    refine mB 6 (s2 := (d + 4, 113, 9, [some (.ref 34), some (.int (-2))], [.int 0, .ref 39, .int 0, .ref 39], 0, 0, (mSH, I, L))) rfl ?_
    refine mRq (s2 := (d + 4, 113, 10, [some (.ref 34), some (.int (-2))], [.int (I 39 0), .int 0, .ref 39], 0, 0, (mSH, I, L))) rfl (by decide) ?_
    refine mB 2 (s2 := (d + 4, 113, 12, [some (.ref 34), some (.int (-2))], [.int ((I 39 0) + 1), .int 0, .ref 39], 0, 0, (mSH, I, L))) rfl ?_
    refine mRq (s2 := (d + 4, 113, 13, [some (.ref 34), some (.int (-2))], [], 0, 0, (mSH, (mUp I 39 0 ((I 39 0) + 1)), L))) rfl (by decide) ?_
    refine mB 1 (s2 := (d + 4, 113, 14, [some (.ref 34), some (.int (-2))], [.int (-2)], 0, 0, (mSH, (mUp I 39 0 ((I 39 0) + 1)), L))) rfl ?_
    refine mRt (r := (some (.int (-2)))) (h := (mSH, (mUp I 39 0 ((I 39 0) + 1)), L)) rfl (mRet_int rfl) ?_
    show mWP mTb_ mFT ro (d + 5, 134, 23, [some (.ref 34), some (.int v0), some (.int v1)], [.int (-2)], 0, 0, (mSH, (mUp I 39 0 ((I 39 0) + 1)), L)) _
    refine mRt (r := (some (.int (-2)))) (h := (mSH, (mUp I 39 0 ((I 39 0) + 1)), L)) rfl (mRet_int rfl) ?_
    exact hq _ _ _ ((mGr.up (by rfl) mGr.rf)).x ⟨s, n, t, ((mGr.up (by rfl) mGr.rf)).m hm⟩
  · refine mB 2 (s2 := (d + 4, 112, 7, [some (.int v0), some (.int 0), some (.int 1)], [.int 1, .int v0], 0, 0, (mSH, I, L))) rfl ?_
    refine mBr (s2 := (d + 4, 112, 14, [some (.int v0), some (.int 0), some (.int 1)], [], 0, 0, (mSH, I, L))) (s3 := (d + 4, 112, 10, [some (.int v0), some (.int 0), some (.int 1)], [], 0, 0, (mSH, I, L))) rfl (fun c1 => ?_) (fun c1 => ?_)
    · refine mB 1 (s2 := (d + 4, 112, 15, [some (.int v0), some (.int 0), some (.int 1)], [.int 0], 0, 0, (mSH, I, L))) rfl ?_
      refine mRt (r := (some (.int 0))) (h := (mSH, I, L)) rfl rfl ?_
      show mWP mTb_ mFT ro (d + 5, 134, 6, [some (.ref 34), some (.int v0), some (.int v1)], [.int 0], 0, 0, (mSH, I, L)) _
      refine mBT (s2 := (d + 5, 134, 17, [some (.ref 34), some (.int v0), some (.int v1)], [], 0, 0, (mSH, I, L))) rfl (by decide) ?_
      refine mB 2 (s2 := (d + 5, 134, 20, [some (.ref 34), some (.int v0), some (.int v1)], [.int (-2), .ref 34], 0, 0, (mSH, I, L))) rfl ?_
      refine mCall (s2 := (d + 4, 113, 0, [some (.ref 34), some (.int (-2))], [], 0, 0, (mSH, I, L))) rfl ?_
      refine mB 6 (s2 := (d + 4, 113, 9, [some (.ref 34), some (.int (-2))], [.int 0, .ref 39, .int 0, .ref 39], 0, 0, (mSH, I, L))) rfl ?_
      refine mRq (s2 := (d + 4, 113, 10, [some (.ref 34), some (.int (-2))], [.int (I 39 0), .int 0, .ref 39], 0, 0, (mSH, I, L))) rfl (by decide) ?_
      refine mB 2 (s2 := (d + 4, 113, 12, [some (.ref 34), some (.int (-2))], [.int ((I 39 0) + 1), .int 0, .ref 39], 0, 0, (mSH, I, L))) rfl ?_
      refine mRq (s2 := (d + 4, 113, 13, [some (.ref 34), some (.int (-2))], [], 0, 0, (mSH, (mUp I 39 0 ((I 39 0) + 1)), L))) rfl (by decide) ?_
      refine mB 1 (s2 := (d + 4, 113, 14, [some (.ref 34), some (.int (-2))], [.int (-2)], 0, 0, (mSH, (mUp I 39 0 ((I 39 0) + 1)), L))) rfl ?_
      refine mRt (r := (some (.int (-2)))) (h := (mSH, (mUp I 39 0 ((I 39 0) + 1)), L)) rfl (mRet_int rfl) ?_
      show mWP mTb_ mFT ro (d + 5, 134, 23, [some (.ref 34), some (.int v0), some (.int v1)], [.int (-2)], 0, 0, (mSH, (mUp I 39 0 ((I 39 0) + 1)), L)) _
      refine mRt (r := (some (.int (-2)))) (h := (mSH, (mUp I 39 0 ((I 39 0) + 1)), L)) rfl (mRet_int rfl) ?_
      exact hq _ _ _ ((mGr.up (by rfl) mGr.rf)).x ⟨s, n, t, ((mGr.up (by rfl) mGr.rf)).m hm⟩
    · refine mB 2 (s2 := (d + 4, 112, 15, [some (.int v0), some (.int 0), some (.int 1)], [.int 1], 0, 0, (mSH, I, L))) rfl ?_
      refine mRt (r := (some (.int 1))) (h := (mSH, I, L)) rfl rfl ?_
      show mWP mTb_ mFT ro (d + 5, 134, 6, [some (.ref 34), some (.int v0), some (.int v1)], [.int 1], 0, 0, (mSH, I, L)) _
      refine mBF (s3 := (d + 5, 134, 9, [some (.ref 34), some (.int v0), some (.int v1)], [], 0, 0, (mSH, I, L))) rfl (by decide) ?_
      refine mB 2 (s2 := (d + 5, 134, 11, [some (.ref 34), some (.int v0), some (.int v1)], [.int v1, .ref 34], 0, 0, (mSH, I, L))) rfl ?_
      refine mCall (s2 := (d + 4, 115, 0, [some (.ref 34), some (.int v1)], [], 0, 0, (mSH, I, L))) rfl ?_
      refine mB 6 (s2 := (d + 4, 115, 8, [some (.ref 34), some (.int v1)], [.int ((I 34 3) - 1), .int 0, .int v1], 0, 0, (mSH, I, L))) rfl ?_
      refine mCall (s2 := (d + 3, 112, 0, [some (.int v1), some (.int 0), some (.int ((I 34 3) - 1))], [], 0, 0, (mSH, I, L))) rfl ?_
      refine mB 2 (s2 := (d + 3, 112, 2, [some (.int v1), some (.int 0), some (.int ((I 34 3) - 1))], [.int 0, .int v1], 0, 0, (mSH, I, L))) rfl ?_
      refine mBr (s2 := (d + 3, 112, 14, [some (.int v1), some (.int 0), some (.int ((I 34 3) - 1))], [], 0, 0, (mSH, I, L))) (s3 := (d + 3, 112, 5, [some (.int v1), some (.int 0), some (.int ((I 34 3) - 1))], [], 0, 0, (mSH, I, L))) rfl (fun c2 => ?_) (fun c2 => ?_)
      · refine mB 1 (s2 := (d + 3, 112, 15, [some (.int v1), some (.int 0), some (.int ((I 34 3) - 1))], [.int 0], 0, 0, (mSH, I, L))) rfl ?_
        refine mRt (r := (some (.int 0))) (h := (mSH, I, L)) rfl rfl ?_
        show mWP mTb_ mFT ro (d + 4, 115, 11, [some (.ref 34), some (.int v1)], [.int 0], 0, 0, (mSH, I, L)) _
        refine mRt (r := (some (.int 0))) (h := (mSH, I, L)) rfl rfl ?_
        show mWP mTb_ mFT ro (d + 5, 134, 14, [some (.ref 34), some (.int v0), some (.int v1)], [.int 0], 0, 0, (mSH, I, L)) _
        refine mBT (s2 := (d + 5, 134, 17, [some (.ref 34), some (.int v0), some (.int v1)], [], 0, 0, (mSH, I, L))) rfl (by decide) ?_
        refine mB 2 (s2 := (d + 5, 134, 20, [some (.ref 34), some (.int v0), some (.int v1)], [.int (-2), .ref 34], 0, 0, (mSH, I, L))) rfl ?_
        refine mCall (s2 := (d + 4, 113, 0, [some (.ref 34), some (.int (-2))], [], 0, 0, (mSH, I, L))) rfl ?_
        refine mB 6 (s2 := (d + 4, 113, 9, [some (.ref 34), some (.int (-2))], [.int 0, .ref 39, .int 0, .ref 39], 0, 0, (mSH, I, L))) rfl ?_
        refine mRq (s2 := (d + 4, 113, 10, [some (.ref 34), some (.int (-2))], [.int (I 39 0), .int 0, .ref 39], 0, 0, (mSH, I, L))) rfl (by decide) ?_
        refine mB 2 (s2 := (d + 4, 113, 12, [some (.ref 34), some (.int (-2))], [.int ((I 39 0) + 1), .int 0, .ref 39], 0, 0, (mSH, I, L))) rfl ?_
        refine mRq (s2 := (d + 4, 113, 13, [some (.ref 34), some (.int (-2))], [], 0, 0, (mSH, (mUp I 39 0 ((I 39 0) + 1)), L))) rfl (by decide) ?_
        refine mB 1 (s2 := (d + 4, 113, 14, [some (.ref 34), some (.int (-2))], [.int (-2)], 0, 0, (mSH, (mUp I 39 0 ((I 39 0) + 1)), L))) rfl ?_
        refine mRt (r := (some (.int (-2)))) (h := (mSH, (mUp I 39 0 ((I 39 0) + 1)), L)) rfl (mRet_int rfl) ?_
        show mWP mTb_ mFT ro (d + 5, 134, 23, [some (.ref 34), some (.int v0), some (.int v1)], [.int (-2)], 0, 0, (mSH, (mUp I 39 0 ((I 39 0) + 1)), L)) _
        refine mRt (r := (some (.int (-2)))) (h := (mSH, (mUp I 39 0 ((I 39 0) + 1)), L)) rfl (mRet_int rfl) ?_
        exact hq _ _ _ ((mGr.up (by rfl) mGr.rf)).x ⟨s, n, t, ((mGr.up (by rfl) mGr.rf)).m hm⟩
      · refine mB 2 (s2 := (d + 3, 112, 7, [some (.int v1), some (.int 0), some (.int ((I 34 3) - 1))], [.int ((I 34 3) - 1), .int v1], 0, 0, (mSH, I, L))) rfl ?_
        refine mBr (s2 := (d + 3, 112, 14, [some (.int v1), some (.int 0), some (.int ((I 34 3) - 1))], [], 0, 0, (mSH, I, L))) (s3 := (d + 3, 112, 10, [some (.int v1), some (.int 0), some (.int ((I 34 3) - 1))], [], 0, 0, (mSH, I, L))) rfl (fun c3 => ?_) (fun c3 => ?_)
        · refine mB 1 (s2 := (d + 3, 112, 15, [some (.int v1), some (.int 0), some (.int ((I 34 3) - 1))], [.int 0], 0, 0, (mSH, I, L))) rfl ?_
          refine mRt (r := (some (.int 0))) (h := (mSH, I, L)) rfl rfl ?_
          show mWP mTb_ mFT ro (d + 4, 115, 11, [some (.ref 34), some (.int v1)], [.int 0], 0, 0, (mSH, I, L)) _
          refine mRt (r := (some (.int 0))) (h := (mSH, I, L)) rfl rfl ?_
          show mWP mTb_ mFT ro (d + 5, 134, 14, [some (.ref 34), some (.int v0), some (.int v1)], [.int 0], 0, 0, (mSH, I, L)) _
          refine mBT (s2 := (d + 5, 134, 17, [some (.ref 34), some (.int v0), some (.int v1)], [], 0, 0, (mSH, I, L))) rfl (by decide) ?_
          refine mB 2 (s2 := (d + 5, 134, 20, [some (.ref 34), some (.int v0), some (.int v1)], [.int (-2), .ref 34], 0, 0, (mSH, I, L))) rfl ?_
          refine mCall (s2 := (d + 4, 113, 0, [some (.ref 34), some (.int (-2))], [], 0, 0, (mSH, I, L))) rfl ?_
          refine mB 6 (s2 := (d + 4, 113, 9, [some (.ref 34), some (.int (-2))], [.int 0, .ref 39, .int 0, .ref 39], 0, 0, (mSH, I, L))) rfl ?_
          refine mRq (s2 := (d + 4, 113, 10, [some (.ref 34), some (.int (-2))], [.int (I 39 0), .int 0, .ref 39], 0, 0, (mSH, I, L))) rfl (by decide) ?_
          refine mB 2 (s2 := (d + 4, 113, 12, [some (.ref 34), some (.int (-2))], [.int ((I 39 0) + 1), .int 0, .ref 39], 0, 0, (mSH, I, L))) rfl ?_
          refine mRq (s2 := (d + 4, 113, 13, [some (.ref 34), some (.int (-2))], [], 0, 0, (mSH, (mUp I 39 0 ((I 39 0) + 1)), L))) rfl (by decide) ?_
          refine mB 1 (s2 := (d + 4, 113, 14, [some (.ref 34), some (.int (-2))], [.int (-2)], 0, 0, (mSH, (mUp I 39 0 ((I 39 0) + 1)), L))) rfl ?_
          refine mRt (r := (some (.int (-2)))) (h := (mSH, (mUp I 39 0 ((I 39 0) + 1)), L)) rfl (mRet_int rfl) ?_
          show mWP mTb_ mFT ro (d + 5, 134, 23, [some (.ref 34), some (.int v0), some (.int v1)], [.int (-2)], 0, 0, (mSH, (mUp I 39 0 ((I 39 0) + 1)), L)) _
          refine mRt (r := (some (.int (-2)))) (h := (mSH, (mUp I 39 0 ((I 39 0) + 1)), L)) rfl (mRet_int rfl) ?_
          exact hq _ _ _ ((mGr.up (by rfl) mGr.rf)).x ⟨s, n, t, ((mGr.up (by rfl) mGr.rf)).m hm⟩
        · refine mB 2 (s2 := (d + 3, 112, 15, [some (.int v1), some (.int 0), some (.int ((I 34 3) - 1))], [.int 1], 0, 0, (mSH, I, L))) rfl ?_
          refine mRt (r := (some (.int 1))) (h := (mSH, I, L)) rfl rfl ?_
          show mWP mTb_ mFT ro (d + 4, 115, 11, [some (.ref 34), some (.int v1)], [.int 1], 0, 0, (mSH, I, L)) _
          refine mRt (r := (some (.int 1))) (h := (mSH, I, L)) rfl rfl ?_
          show mWP mTb_ mFT ro (d + 5, 134, 14, [some (.ref 34), some (.int v0), some (.int v1)], [.int 1], 0, 0, (mSH, I, L)) _
          refine mBF (s3 := (d + 5, 134, 24, [some (.ref 34), some (.int v0), some (.int v1)], [], 0, 0, (mSH, I, L))) rfl (by decide) ?_
          (obtain ⟨j, hj, e⟩ := mNat hm.2.1.1 (Nat.le_trans hm.2.1.2 (by omega)) (of_decide_eq_false c2) (of_decide_eq_false c3); subst e; rcases mEi (of_decide_eq_false c0) (of_decide_eq_false c1) with e | e <;> (subst e; first | exact m_block_0 hm hj hq | exact m_block_1 hm hj hq))
theorem m_many {ro : Nat → Nat × (Nat → Int32)} {Q : mPo} {d : Nat} {I : Nat → Nat → Int32} {L : Nat → Nat → Int64} {s n t : Nat} (hm : mM s n t I) (hq : ∀ r I1 L1, mTx I I1 → mIM I1 → Q (some (.int r)) (mSH, I1, L1))   : mWP mTb_ mFT ro (d + 5, 135, 0, [some (.ref 34)], [], 0, 0, (mSH, I, L)) Q := by
  refine mB 1 (s2 := (d + 5, 135, 1, [some (.ref 34)], [.ref 34], 0, 0, (mSH, I, L))) rfl ?_
  refine mCall (s2 := (d + 4, 132, 0, [some (.ref 34)], [], 0, 0, (mSH, I, L))) rfl ?_
  refine w_isf hm ?_ ?_
  · intro K1 gK1
    show mWP mTb_ mFT ro (d + 5, 135, 4, [some (.ref 34)], [.int 0], 0, 0, (mSH, K1, L)) _
    refine mB 3 (s2 := (d + 5, 135, 9, [some (.ref 34)], [.int (K1 34 20)], 0, 0, (mSH, K1, L))) rfl ?_
    refine mRt (r := (some (.int (K1 34 20)))) (h := (mSH, K1, L)) rfl (mRet_int rfl) ?_
    exact hq _ _ _ (gK1).x ⟨s, n, t, (gK1).m hm⟩
  · intro K1 gK1 vK1 pK1
    show mWP mTb_ mFT ro (d + 5, 135, 4, [some (.ref 34)], [.int 1], 0, 0, (mSH, K1, L)) _
    refine mB 3 (s2 := (d + 5, 135, 9, [some (.ref 34)], [.int (K1 34 20)], 0, 0, (mSH, K1, L))) rfl ?_
    refine mRt (r := (some (.int (K1 34 20)))) (h := (mSH, K1, L)) rfl (mRet_int rfl) ?_
    exact hq _ _ _ (gK1).x ⟨s, n, t, (gK1).m hm⟩
theorem m_alike {ro : Nat → Nat × (Nat → Int32)} {Q : mPo} {d : Nat} {I : Nat → Nat → Int32} {L : Nat → Nat → Int64} {s n t : Nat} (hm : mM s n t I) (hq : ∀ r I1 L1, mTx I I1 → mIM I1 → Q (some (.int r)) (mSH, I1, L1))   : mWP mTb_ mFT ro (d + 5, 136, 0, [some (.ref 34)], [], 0, 0, (mSH, I, L)) Q := by
  refine mB 1 (s2 := (d + 5, 136, 1, [some (.ref 34)], [.ref 34], 0, 0, (mSH, I, L))) rfl ?_
  refine mCall (s2 := (d + 4, 132, 0, [some (.ref 34)], [], 0, 0, (mSH, I, L))) rfl ?_
  refine w_isf hm ?_ ?_
  · intro K1 gK1
    show mWP mTb_ mFT ro (d + 5, 136, 4, [some (.ref 34)], [.int 0], 0, 0, (mSH, K1, L)) _
    refine mBT (s2 := (d + 5, 136, 14, [some (.ref 34)], [], 0, 0, (mSH, K1, L))) rfl (by decide) ?_
    refine mB 2 (s2 := (d + 5, 136, 17, [some (.ref 34)], [.int (-3), .ref 34], 0, 0, (mSH, K1, L))) rfl ?_
    refine mCall (s2 := (d + 4, 113, 0, [some (.ref 34), some (.int (-3))], [], 0, 0, (mSH, K1, L))) rfl ?_
    refine mB 6 (s2 := (d + 4, 113, 9, [some (.ref 34), some (.int (-3))], [.int 1, .ref 39, .int 1, .ref 39], 0, 0, (mSH, K1, L))) rfl ?_
    refine mRq (s2 := (d + 4, 113, 10, [some (.ref 34), some (.int (-3))], [.int (K1 39 1), .int 1, .ref 39], 0, 0, (mSH, K1, L))) rfl (by decide) ?_
    refine mB 2 (s2 := (d + 4, 113, 12, [some (.ref 34), some (.int (-3))], [.int ((K1 39 1) + 1), .int 1, .ref 39], 0, 0, (mSH, K1, L))) rfl ?_
    refine mRq (s2 := (d + 4, 113, 13, [some (.ref 34), some (.int (-3))], [], 0, 0, (mSH, (mUp K1 39 1 ((K1 39 1) + 1)), L))) rfl (by decide) ?_
    refine mB 1 (s2 := (d + 4, 113, 14, [some (.ref 34), some (.int (-3))], [.int (-3)], 0, 0, (mSH, (mUp K1 39 1 ((K1 39 1) + 1)), L))) rfl ?_
    refine mRt (r := (some (.int (-3)))) (h := (mSH, (mUp K1 39 1 ((K1 39 1) + 1)), L)) rfl (mRet_int rfl) ?_
    show mWP mTb_ mFT ro (d + 5, 136, 20, [some (.ref 34)], [.int (-3)], 0, 0, (mSH, (mUp K1 39 1 ((K1 39 1) + 1)), L)) _
    refine mRt (r := (some (.int (-3)))) (h := (mSH, (mUp K1 39 1 ((K1 39 1) + 1)), L)) rfl (mRet_int rfl) ?_
    exact hq _ _ _ ((mGr.up (by rfl) gK1)).x ⟨s, n, t, ((mGr.up (by rfl) gK1)).m hm⟩
  · intro K1 gK1 vK1 pK1
    show mWP mTb_ mFT ro (d + 5, 136, 4, [some (.ref 34)], [.int 1], 0, 0, (mSH, K1, L)) _
    refine mBF (s3 := (d + 5, 136, 7, [some (.ref 34)], [], 0, 0, (mSH, K1, L))) rfl (by decide) ?_
    refine mB 3 (s2 := (d + 5, 136, 20, [some (.ref 34)], [.int (K1 34 21)], 0, 0, (mSH, K1, L))) rfl ?_
    refine mRt (r := (some (.int (K1 34 21)))) (h := (mSH, K1, L)) rfl (mRet_int rfl) ?_
    exact hq _ _ _ (gK1).x ⟨s, n, t, (gK1).m hm⟩
theorem m_begins {ro : Nat → Nat × (Nat → Int32)} {Q : mPo} {d : Nat} {I : Nat → Nat → Int32} {L : Nat → Nat → Int64} {s n t : Nat} (hm : mM s n t I) (hq : ∀ r I1 L1, mTx I I1 → mIM I1 → Q (some (.int r)) (mSH, I1, L1))   : mWP mTb_ mFT ro (d + 5, 137, 0, [some (.ref 34)], [], 0, 0, (mSH, I, L)) Q := by
  refine mB 1 (s2 := (d + 5, 137, 1, [some (.ref 34)], [.ref 34], 0, 0, (mSH, I, L))) rfl ?_
  refine mCall (s2 := (d + 4, 132, 0, [some (.ref 34)], [], 0, 0, (mSH, I, L))) rfl ?_
  refine w_isf hm ?_ ?_
  · intro K1 gK1
    show mWP mTb_ mFT ro (d + 5, 137, 4, [some (.ref 34)], [.int 0], 0, 0, (mSH, K1, L)) _
    refine mB 3 (s2 := (d + 5, 137, 9, [some (.ref 34)], [.int (K1 34 22)], 0, 0, (mSH, K1, L))) rfl ?_
    refine mRt (r := (some (.int (K1 34 22)))) (h := (mSH, K1, L)) rfl (mRet_int rfl) ?_
    exact hq _ _ _ (gK1).x ⟨s, n, t, (gK1).m hm⟩
  · intro K1 gK1 vK1 pK1
    show mWP mTb_ mFT ro (d + 5, 137, 4, [some (.ref 34)], [.int 1], 0, 0, (mSH, K1, L)) _
    refine mB 3 (s2 := (d + 5, 137, 9, [some (.ref 34)], [.int (K1 34 22)], 0, 0, (mSH, K1, L))) rfl ?_
    refine mRt (r := (some (.int (K1 34 22)))) (h := (mSH, K1, L)) rfl (mRet_int rfl) ?_
    exact hq _ _ _ (gK1).x ⟨s, n, t, (gK1).m hm⟩
theorem m_unbound {ro : Nat → Nat × (Nat → Int32)} {Q : mPo} {d : Nat} {I : Nat → Nat → Int32} {L : Nat → Nat → Int64} {s n t : Nat} (hm : mM s n t I) (hq : ∀ r I1 L1, mTx I I1 → mIM I1 → Q (some (.int r)) (mSH, I1, L1))   : mWP mTb_ mFT ro (d + 5, 140, 0, [some (.ref 34)], [], 0, 0, (mSH, I, L)) Q := by
  refine mB 4 (s2 := (d + 5, 140, 6, [some (.ref 34)], [.int 0, .ref 38, .ref 34], 0, 0, (mSH, I, L))) rfl ?_
  refine mRq (s2 := (d + 5, 140, 7, [some (.ref 34)], [.int (I 38 0), .ref 34], 0, 0, (mSH, I, L))) rfl (by decide) ?_
  refine mB 1 (s2 := (d + 5, 140, 8, [some (.ref 34)], [.int 1, .int (I 38 0), .ref 34], 0, 0, (mSH, I, L))) rfl ?_
  refine mCall (s2 := (d + 4, 131, 0, [some (.ref 34), some (.int (I 38 0)), some (.int 1), none], [], 0, 0, (mSH, I, L))) rfl ?_
  refine w_mfinds hm ?_ ?_
  · intro K1 gK1
    show mWP mTb_ mFT ro (d + 5, 140, 11, [some (.ref 34)], [.int 0], 0, 0, (mSH, K1, L)) _
    refine mB 4 (s2 := (d + 5, 140, 17, [some (.ref 34)], [.int 0, .ref 46], 0, 0, (mSH, K1, L))) rfl ?_
    refine mRq (s2 := (d + 5, 140, 18, [some (.ref 34)], [.int (K1 46 0)], 0, 0, (mSH, K1, L))) rfl (by decide) ?_
    refine mRt (r := (some (.int (K1 46 0)))) (h := (mSH, K1, L)) rfl (mRet_int rfl) ?_
    exact hq _ _ _ (gK1).x ⟨s, n, t, (gK1).m hm⟩
  · intro K1 gK1 vK1 pK1
    show mWP mTb_ mFT ro (d + 5, 140, 11, [some (.ref 34)], [.int 1], 0, 0, (mSH, K1, L)) _
    refine mB 4 (s2 := (d + 5, 140, 17, [some (.ref 34)], [.int 0, .ref 46], 0, 0, (mSH, K1, L))) rfl ?_
    refine mRq (s2 := (d + 5, 140, 18, [some (.ref 34)], [.int (K1 46 0)], 0, 0, (mSH, K1, L))) rfl (by decide) ?_
    refine mRt (r := (some (.int (K1 46 0)))) (h := (mSH, K1, L)) rfl (mRet_int rfl) ?_
    exact hq _ _ _ (gK1).x ⟨s, n, t, (gK1).m hm⟩
theorem mPosn {I : Nat → Nat → Int32} {s n t : Nat} (hm : mM s n t I) (h : ¬ I 34 3 ≤ 0) : 0 < n := by
  rcases Nat.eq_zero_or_pos n with e | e
  · subst e
    exact absurd (by rw [hm.2.1.1]; decide) h
  · exact e
theorem m_from1 {ro : Nat → Nat × (Nat → Int32)} {Q : mPo} {d : Nat} {I : Nat → Nat → Int32} {L : Nat → Nat → Int64} {s n t : Nat} {j : Nat} (hm : mM s n t I) (hj : j < s) (hq : ∀ r I1 L1, mTx I I1 → mIM I1 → Q (some (.int r)) (mSH, I1, L1))   : mWP mTb_ mFT ro (d + 5, 138, 15, [some (.ref 34), some (.int (nI j))], [], 0, 0, (mSH, I, L)) Q := by
  refine mB 1 (s2 := (d + 5, 138, 16, [some (.ref 34), some (.int (nI j))], [.ref 34], 0, 0, (mSH, I, L))) rfl ?_
  refine mCall (s2 := (d + 4, 130, 0, [some (.ref 34)], [], 0, 0, (mSH, I, L))) rfl ?_
  refine mB 13 (s2 := (d + 4, 130, 21, [some (.ref 34)], [.int (-1), .int 0, .ref 46], 0, 0, (mSH, (mUp (mUp (mUp I 34 20 0) 34 21 0) 34 22 0), L))) rfl ?_
  refine mRq (s2 := (d + 4, 130, 22, [some (.ref 34)], [], 0, 0, (mSH, (mUp (mUp (mUp (mUp I 34 20 0) 34 21 0) 34 22 0) 46 0 (-1)), L))) rfl (by decide) ?_
  refine mB 4 (s2 := (d + 4, 130, 29, [some (.ref 34)], [.int (-1), .int 10, .ref 46], 0, 0, (mSH, (mUp (mUp (mUp (mUp I 34 20 0) 34 21 0) 34 22 0) 46 0 (-1)), L))) rfl ?_
  refine mRq (s2 := (d + 4, 130, 30, [some (.ref 34)], [], 0, 0, (mSH, (mUp (mUp (mUp (mUp (mUp I 34 20 0) 34 21 0) 34 22 0) 46 0 (-1)) 46 10 (-1)), L))) rfl (by decide) ?_
  refine mRt (r := none) (h := (mSH, (mUp (mUp (mUp (mUp (mUp I 34 20 0) 34 21 0) 34 22 0) 46 0 (-1)) 46 10 (-1)), L)) rfl rfl ?_
  show mWP mTb_ mFT ro (d + 5, 138, 19, [some (.ref 34), some (.int (nI j))], [], 0, 0, (mSH, (mUp (mUp (mUp (mUp (mUp I 34 20 0) 34 21 0) 34 22 0) 46 0 (-1)) 46 10 (-1)), L)) _
  refine mB 2 (s2 := (d + 5, 138, 23, [some (.ref 34), some (.int (nI j))], [.int (I 34 3)], 0, 0, (mSH, (mUp (mUp (mUp (mUp (mUp I 34 20 0) 34 21 0) 34 22 0) 46 0 (-1)) 46 10 (-1)), L))) rfl ?_
  refine mBr (s2 := (d + 5, 138, 38, [some (.ref 34), some (.int (nI j))], [], 0, 0, (mSH, (mUp (mUp (mUp (mUp (mUp I 34 20 0) 34 21 0) 34 22 0) 46 0 (-1)) 46 10 (-1)), L))) (s3 := (d + 5, 138, 26, [some (.ref 34), some (.int (nI j))], [], 0, 0, (mSH, (mUp (mUp (mUp (mUp (mUp I 34 20 0) 34 21 0) 34 22 0) 46 0 (-1)) 46 10 (-1)), L))) rfl (fun c0 => ?_) (fun c0 => ?_)
  · refine mB 3 (s2 := (d + 5, 138, 43, [some (.ref 34), some (.int (nI j))], [.int 0, .ref 46], 0, 0, (mSH, (mUp (mUp (mUp (mUp (mUp I 34 20 0) 34 21 0) 34 22 0) 46 0 (-1)) 46 10 (-1)), L))) rfl ?_
    refine mRq (s2 := (d + 5, 138, 44, [some (.ref 34), some (.int (nI j))], [.int (-1)], 0, 0, (mSH, (mUp (mUp (mUp (mUp (mUp I 34 20 0) 34 21 0) 34 22 0) 46 0 (-1)) 46 10 (-1)), L))) rfl (by decide) ?_
    refine mRt (r := (some (.int (-1)))) (h := (mSH, (mUp (mUp (mUp (mUp (mUp I 34 20 0) 34 21 0) 34 22 0) 46 0 (-1)) 46 10 (-1)), L)) rfl (mRet_int rfl) ?_
    exact hq _ _ _ ((mGr.up (by rfl) (mGr.up (by rfl) (mGr.uf (by rfl) (mGr.uf (by rfl) (mGr.uf (by rfl) mGr.rf)))))).x ⟨s, n, t, ((mGr.up (by rfl) (mGr.up (by rfl) (mGr.uf (by rfl) (mGr.uf (by rfl) (mGr.uf (by rfl) mGr.rf)))))).m hm⟩
  · refine mB 5 (s2 := (d + 5, 138, 33, [some (.ref 34), some (.int (nI j))], [.int 0, .ref 38, .int (nI j), .ref 34], 0, 0, (mSH, (mUp (mUp (mUp (mUp (mUp I 34 20 0) 34 21 0) 34 22 0) 46 0 (-1)) 46 10 (-1)), L))) rfl ?_
    refine mRq (s2 := (d + 5, 138, 34, [some (.ref 34), some (.int (nI j))], [.int (I 38 0), .int (nI j), .ref 34], 0, 0, (mSH, (mUp (mUp (mUp (mUp (mUp I 34 20 0) 34 21 0) 34 22 0) 46 0 (-1)) 46 10 (-1)), L))) rfl (by decide) ?_
    refine mB 1 (s2 := (d + 5, 138, 35, [some (.ref 34), some (.int (nI j))], [.int 0, .int (I 38 0), .int (nI j), .ref 34], 0, 0, (mSH, (mUp (mUp (mUp (mUp (mUp I 34 20 0) 34 21 0) 34 22 0) 46 0 (-1)) 46 10 (-1)), L))) rfl ?_
    refine mCall (s2 := (d + 4, 129, 0, [some (.ref 34), some (.int (nI j)), some (.int (I 38 0)), some (.int 0), none, none, none], [], 0, 0, (mSH, (mUp (mUp (mUp (mUp (mUp I 34 20 0) 34 21 0) 34 22 0) 46 0 (-1)) 46 10 (-1)), L))) rfl ?_
    refine w_goes ((mGr.up (by rfl) (mGr.up (by rfl) (mGr.uf (by rfl) (mGr.uf (by rfl) (mGr.uf (by rfl) mGr.rf))))).m hm) (Nat.le_of_lt hj) (mPosn hm (of_decide_eq_false c0)) (Or.inr ⟨by show (-1 : Int32) < 0; decide, rfl⟩) (fun K1 gK1 fK1 => ?_)
    show mWP mTb_ mFT ro (d + 5, 138, 38, [some (.ref 34), some (.int (nI j))], [], 0, 0, (mSH, K1, L)) _
    refine mB 3 (s2 := (d + 5, 138, 43, [some (.ref 34), some (.int (nI j))], [.int 0, .ref 46], 0, 0, (mSH, K1, L))) rfl ?_
    refine mRq (s2 := (d + 5, 138, 44, [some (.ref 34), some (.int (nI j))], [.int (K1 46 0)], 0, 0, (mSH, K1, L))) rfl (by decide) ?_
    refine mRt (r := (some (.int (K1 46 0)))) (h := (mSH, K1, L)) rfl (mRet_int rfl) ?_
    exact hq _ _ _ (((mGr.up (by rfl) (mGr.up (by rfl) (mGr.uf (by rfl) (mGr.uf (by rfl) (mGr.uf (by rfl) mGr.rf))))).tr gK1)).x ⟨s, n, t, (((mGr.up (by rfl) (mGr.up (by rfl) (mGr.uf (by rfl) (mGr.uf (by rfl) (mGr.uf (by rfl) mGr.rf))))).tr gK1)).m hm⟩
theorem m_from {ro : Nat → Nat × (Nat → Int32)} {Q : mPo} {d : Nat} {I : Nat → Nat → Int32} {L : Nat → Nat → Int64} {s n t : Nat} {v0 : Int32} (hm : mM s n t I) (hq : ∀ r I1 L1, mTx I I1 → mIM I1 → Q (some (.int r)) (mSH, I1, L1))   : mWP mTb_ mFT ro (d + 5, 138, 0, [some (.ref 34), some (.int v0)], [], 0, 0, (mSH, I, L)) Q := by
  refine mB 2 (s2 := (d + 5, 138, 2, [some (.ref 34), some (.int v0)], [.int v0, .ref 34], 0, 0, (mSH, I, L))) rfl ?_
  refine mCall (s2 := (d + 4, 114, 0, [some (.ref 34), some (.int v0)], [], 0, 0, (mSH, I, L))) rfl ?_
  refine mB 6 (s2 := (d + 4, 114, 8, [some (.ref 34), some (.int v0)], [.int ((I 34 1) - 1), .int 0, .int v0], 0, 0, (mSH, I, L))) rfl ?_
  refine mCall (s2 := (d + 3, 112, 0, [some (.int v0), some (.int 0), some (.int ((I 34 1) - 1))], [], 0, 0, (mSH, I, L))) rfl ?_
  refine mB 2 (s2 := (d + 3, 112, 2, [some (.int v0), some (.int 0), some (.int ((I 34 1) - 1))], [.int 0, .int v0], 0, 0, (mSH, I, L))) rfl ?_
  refine mBr (s2 := (d + 3, 112, 14, [some (.int v0), some (.int 0), some (.int ((I 34 1) - 1))], [], 0, 0, (mSH, I, L))) (s3 := (d + 3, 112, 5, [some (.int v0), some (.int 0), some (.int ((I 34 1) - 1))], [], 0, 0, (mSH, I, L))) rfl (fun c0 => ?_) (fun c0 => ?_)
  · refine mB 1 (s2 := (d + 3, 112, 15, [some (.int v0), some (.int 0), some (.int ((I 34 1) - 1))], [.int 0], 0, 0, (mSH, I, L))) rfl ?_
    refine mRt (r := (some (.int 0))) (h := (mSH, I, L)) rfl rfl ?_
    show mWP mTb_ mFT ro (d + 4, 114, 11, [some (.ref 34), some (.int v0)], [.int 0], 0, 0, (mSH, I, L)) _
    refine mRt (r := (some (.int 0))) (h := (mSH, I, L)) rfl rfl ?_
    show mWP mTb_ mFT ro (d + 5, 138, 5, [some (.ref 34), some (.int v0)], [.int 0], 0, 0, (mSH, I, L)) _
    refine mBT (s2 := (d + 5, 138, 8, [some (.ref 34), some (.int v0)], [], 0, 0, (mSH, I, L))) rfl (by decide) ?_
    refine mB 2 (s2 := (d + 5, 138, 11, [some (.ref 34), some (.int v0)], [.int (-2), .ref 34], 0, 0, (mSH, I, L))) rfl ?_
    refine mCall (s2 := (d + 4, 113, 0, [some (.ref 34), some (.int (-2))], [], 0, 0, (mSH, I, L))) rfl ?_
    refine mB 6 (s2 := (d + 4, 113, 9, [some (.ref 34), some (.int (-2))], [.int 0, .ref 39, .int 0, .ref 39], 0, 0, (mSH, I, L))) rfl ?_
    refine mRq (s2 := (d + 4, 113, 10, [some (.ref 34), some (.int (-2))], [.int (I 39 0), .int 0, .ref 39], 0, 0, (mSH, I, L))) rfl (by decide) ?_
    refine mB 2 (s2 := (d + 4, 113, 12, [some (.ref 34), some (.int (-2))], [.int ((I 39 0) + 1), .int 0, .ref 39], 0, 0, (mSH, I, L))) rfl ?_
    refine mRq (s2 := (d + 4, 113, 13, [some (.ref 34), some (.int (-2))], [], 0, 0, (mSH, (mUp I 39 0 ((I 39 0) + 1)), L))) rfl (by decide) ?_
    refine mB 1 (s2 := (d + 4, 113, 14, [some (.ref 34), some (.int (-2))], [.int (-2)], 0, 0, (mSH, (mUp I 39 0 ((I 39 0) + 1)), L))) rfl ?_
    refine mRt (r := (some (.int (-2)))) (h := (mSH, (mUp I 39 0 ((I 39 0) + 1)), L)) rfl (mRet_int rfl) ?_
    show mWP mTb_ mFT ro (d + 5, 138, 14, [some (.ref 34), some (.int v0)], [.int (-2)], 0, 0, (mSH, (mUp I 39 0 ((I 39 0) + 1)), L)) _
    refine mRt (r := (some (.int (-2)))) (h := (mSH, (mUp I 39 0 ((I 39 0) + 1)), L)) rfl (mRet_int rfl) ?_
    exact hq _ _ _ ((mGr.up (by rfl) mGr.rf)).x ⟨s, n, t, ((mGr.up (by rfl) mGr.rf)).m hm⟩
  · refine mB 2 (s2 := (d + 3, 112, 7, [some (.int v0), some (.int 0), some (.int ((I 34 1) - 1))], [.int ((I 34 1) - 1), .int v0], 0, 0, (mSH, I, L))) rfl ?_
    refine mBr (s2 := (d + 3, 112, 14, [some (.int v0), some (.int 0), some (.int ((I 34 1) - 1))], [], 0, 0, (mSH, I, L))) (s3 := (d + 3, 112, 10, [some (.int v0), some (.int 0), some (.int ((I 34 1) - 1))], [], 0, 0, (mSH, I, L))) rfl (fun c1 => ?_) (fun c1 => ?_)
    · refine mB 1 (s2 := (d + 3, 112, 15, [some (.int v0), some (.int 0), some (.int ((I 34 1) - 1))], [.int 0], 0, 0, (mSH, I, L))) rfl ?_
      refine mRt (r := (some (.int 0))) (h := (mSH, I, L)) rfl rfl ?_
      show mWP mTb_ mFT ro (d + 4, 114, 11, [some (.ref 34), some (.int v0)], [.int 0], 0, 0, (mSH, I, L)) _
      refine mRt (r := (some (.int 0))) (h := (mSH, I, L)) rfl rfl ?_
      show mWP mTb_ mFT ro (d + 5, 138, 5, [some (.ref 34), some (.int v0)], [.int 0], 0, 0, (mSH, I, L)) _
      refine mBT (s2 := (d + 5, 138, 8, [some (.ref 34), some (.int v0)], [], 0, 0, (mSH, I, L))) rfl (by decide) ?_
      refine mB 2 (s2 := (d + 5, 138, 11, [some (.ref 34), some (.int v0)], [.int (-2), .ref 34], 0, 0, (mSH, I, L))) rfl ?_
      refine mCall (s2 := (d + 4, 113, 0, [some (.ref 34), some (.int (-2))], [], 0, 0, (mSH, I, L))) rfl ?_
      refine mB 6 (s2 := (d + 4, 113, 9, [some (.ref 34), some (.int (-2))], [.int 0, .ref 39, .int 0, .ref 39], 0, 0, (mSH, I, L))) rfl ?_
      refine mRq (s2 := (d + 4, 113, 10, [some (.ref 34), some (.int (-2))], [.int (I 39 0), .int 0, .ref 39], 0, 0, (mSH, I, L))) rfl (by decide) ?_
      refine mB 2 (s2 := (d + 4, 113, 12, [some (.ref 34), some (.int (-2))], [.int ((I 39 0) + 1), .int 0, .ref 39], 0, 0, (mSH, I, L))) rfl ?_
      refine mRq (s2 := (d + 4, 113, 13, [some (.ref 34), some (.int (-2))], [], 0, 0, (mSH, (mUp I 39 0 ((I 39 0) + 1)), L))) rfl (by decide) ?_
      refine mB 1 (s2 := (d + 4, 113, 14, [some (.ref 34), some (.int (-2))], [.int (-2)], 0, 0, (mSH, (mUp I 39 0 ((I 39 0) + 1)), L))) rfl ?_
      refine mRt (r := (some (.int (-2)))) (h := (mSH, (mUp I 39 0 ((I 39 0) + 1)), L)) rfl (mRet_int rfl) ?_
      show mWP mTb_ mFT ro (d + 5, 138, 14, [some (.ref 34), some (.int v0)], [.int (-2)], 0, 0, (mSH, (mUp I 39 0 ((I 39 0) + 1)), L)) _
      refine mRt (r := (some (.int (-2)))) (h := (mSH, (mUp I 39 0 ((I 39 0) + 1)), L)) rfl (mRet_int rfl) ?_
      exact hq _ _ _ ((mGr.up (by rfl) mGr.rf)).x ⟨s, n, t, ((mGr.up (by rfl) mGr.rf)).m hm⟩
    · refine mB 2 (s2 := (d + 3, 112, 15, [some (.int v0), some (.int 0), some (.int ((I 34 1) - 1))], [.int 1], 0, 0, (mSH, I, L))) rfl ?_
      refine mRt (r := (some (.int 1))) (h := (mSH, I, L)) rfl rfl ?_
      show mWP mTb_ mFT ro (d + 4, 114, 11, [some (.ref 34), some (.int v0)], [.int 1], 0, 0, (mSH, I, L)) _
      refine mRt (r := (some (.int 1))) (h := (mSH, I, L)) rfl rfl ?_
      show mWP mTb_ mFT ro (d + 5, 138, 5, [some (.ref 34), some (.int v0)], [.int 1], 0, 0, (mSH, I, L)) _
      refine mBF (s3 := (d + 5, 138, 15, [some (.ref 34), some (.int v0)], [], 0, 0, (mSH, I, L))) rfl (by decide) ?_
      (obtain ⟨j, hj, e⟩ := mNat hm.1.1 hm.1.2 (of_decide_eq_false c0) (of_decide_eq_false c1); subst e; exact m_from1 hm hj hq)
theorem s_mmi {ro : Nat → Nat × (Nat → Int32)} {Q : mPo} {d : Nat} {I : Nat → Nat → Int32} {L : Nat → Nat → Int64} {s n t : Nat} {K : Nat → Nat → Int32} {v0 a b x0 : Int32} (hm : mM s n t I) (gK : mGr I K) (hq : ∀ r I1 L1, mTx I I1 → mIM I1 → Q (some (.int r)) (mSH, I1, L1)) (ih : ¬ (3 : Int32) < x0 → ∀ (K : Nat → Nat → Int32) (a b : Int32), mGr I K → mWP mTb_ mFT ro (d + 5, 139, 23, [some (.ref 34), some (.int v0), some (.int a), some (.int b), some (.int (x0 + 1))], [], 0, 0, (mSH, K, L)) Q)   : mWP mTb_ mFT ro (d + 5, 139, 23, [some (.ref 34), some (.int v0), some (.int a), some (.int b), some (.int x0)], [], 0, 0, (mSH, K, L)) Q := by
  refine mB 2 (s2 := (d + 5, 139, 26, [some (.ref 34), some (.int v0), some (.int a), some (.int b), some (.int x0)], [.int 3, .int x0], 0, 0, (mSH, K, L))) rfl ?_
  refine mBr (s2 := (d + 5, 139, 70, [some (.ref 34), some (.int v0), some (.int a), some (.int b), some (.int x0)], [], 0, 0, (mSH, K, L))) (s3 := (d + 5, 139, 29, [some (.ref 34), some (.int v0), some (.int a), some (.int b), some (.int x0)], [], 0, 0, (mSH, K, L))) rfl (fun c0 => ?_) (fun c0 => ?_)
  · refine mB 2 (s2 := (d + 5, 139, 72, [some (.ref 34), some (.int v0), some (.int a), some (.int b), some (.int x0)], [.int (-1), .int a], 0, 0, (mSH, K, L))) rfl ?_
    refine mBr (s2 := (d + 5, 139, 75, [some (.ref 34), some (.int v0), some (.int a), some (.int b), some (.int x0)], [], 0, 0, (mSH, K, L))) (s3 := (d + 5, 139, 84, [some (.ref 34), some (.int v0), some (.int a), some (.int b), some (.int x0)], [], 0, 0, (mSH, K, L))) rfl (fun c1 => ?_) (fun c1 => ?_)
    · refine mB 2 (s2 := (d + 5, 139, 78, [some (.ref 34), some (.int v0), some (.int a), some (.int b), some (.int x0)], [.int (-3), .ref 34], 0, 0, (mSH, K, L))) rfl ?_
      refine mCall (s2 := (d + 4, 113, 0, [some (.ref 34), some (.int (-3))], [], 0, 0, (mSH, K, L))) rfl ?_
      refine mB 6 (s2 := (d + 4, 113, 9, [some (.ref 34), some (.int (-3))], [.int 1, .ref 39, .int 1, .ref 39], 0, 0, (mSH, K, L))) rfl ?_
      refine mRq (s2 := (d + 4, 113, 10, [some (.ref 34), some (.int (-3))], [.int (K 39 1), .int 1, .ref 39], 0, 0, (mSH, K, L))) rfl (by decide) ?_
      refine mB 2 (s2 := (d + 4, 113, 12, [some (.ref 34), some (.int (-3))], [.int ((K 39 1) + 1), .int 1, .ref 39], 0, 0, (mSH, K, L))) rfl ?_
      refine mRq (s2 := (d + 4, 113, 13, [some (.ref 34), some (.int (-3))], [], 0, 0, (mSH, (mUp K 39 1 ((K 39 1) + 1)), L))) rfl (by decide) ?_
      refine mB 1 (s2 := (d + 4, 113, 14, [some (.ref 34), some (.int (-3))], [.int (-3)], 0, 0, (mSH, (mUp K 39 1 ((K 39 1) + 1)), L))) rfl ?_
      refine mRt (r := (some (.int (-3)))) (h := (mSH, (mUp K 39 1 ((K 39 1) + 1)), L)) rfl (mRet_int rfl) ?_
      show mWP mTb_ mFT ro (d + 5, 139, 81, [some (.ref 34), some (.int v0), some (.int a), some (.int b), some (.int x0)], [.int (-3)], 0, 0, (mSH, (mUp K 39 1 ((K 39 1) + 1)), L)) _
      refine mB 1 (s2 := (d + 5, 139, 93, [some (.ref 34), some (.int v0), some (.int a), some (.int b), some (.int x0)], [.int (-3)], 0, 0, (mSH, (mUp K 39 1 ((K 39 1) + 1)), L))) rfl ?_
      refine mRt (r := (some (.int (-3)))) (h := (mSH, (mUp K 39 1 ((K 39 1) + 1)), L)) rfl (mRet_int rfl) ?_
      exact hq _ _ _ ((mGr.up (by rfl) gK)).x ⟨s, n, t, ((mGr.up (by rfl) gK)).m hm⟩
    · refine mB 1 (s2 := (d + 5, 139, 85, [some (.ref 34), some (.int v0), some (.int a), some (.int b), some (.int x0)], [.int v0], 0, 0, (mSH, K, L))) rfl ?_
      refine mBr (s2 := (d + 5, 139, 88, [some (.ref 34), some (.int v0), some (.int a), some (.int b), some (.int x0)], [], 0, 0, (mSH, K, L))) (s3 := (d + 5, 139, 92, [some (.ref 34), some (.int v0), some (.int a), some (.int b), some (.int x0)], [], 0, 0, (mSH, K, L))) rfl (fun c2 => ?_) (fun c2 => ?_)
      · refine mB 2 (s2 := (d + 5, 139, 93, [some (.ref 34), some (.int v0), some (.int a), some (.int b), some (.int x0)], [.int a], 0, 0, (mSH, K, L))) rfl ?_
        refine mRt (r := (some (.int a))) (h := (mSH, K, L)) rfl (mRet_int rfl) ?_
        exact hq _ _ _ (gK).x ⟨s, n, t, (gK).m hm⟩
      · refine mB 1 (s2 := (d + 5, 139, 93, [some (.ref 34), some (.int v0), some (.int a), some (.int b), some (.int x0)], [.int b], 0, 0, (mSH, K, L))) rfl ?_
        refine mRt (r := (some (.int b))) (h := (mSH, K, L)) rfl (mRet_int rfl) ?_
        exact hq _ _ _ (gK).x ⟨s, n, t, (gK).m hm⟩
  · refine mB 3 (s2 := (d + 5, 139, 33, [some (.ref 34), some (.int v0), some (.int a), some (.int b), some (.int x0)], [.int 0, .int x0, .ref 34], 0, 0, (mSH, K, L))) rfl ?_
    refine mCall (s2 := (d + 4, 131, 0, [some (.ref 34), some (.int x0), some (.int 0), none], [], 0, 0, (mSH, K, L))) rfl ?_
    refine w_mfinds (gK.m hm) ?_ ?_
    · intro K1 gK1
      show mWP mTb_ mFT ro (d + 5, 139, 36, [some (.ref 34), some (.int v0), some (.int a), some (.int b), some (.int x0)], [.int 0], 0, 0, (mSH, K1, L)) _
      refine mBT (s2 := (d + 5, 139, 64, [some (.ref 34), some (.int v0), some (.int a), some (.int b), some (.int x0)], [], 0, 0, (mSH, K1, L))) rfl (by decide) ?_
      refine mB 2 (s2 := (d + 5, 139, 23, [some (.ref 34), some (.int v0), some (.int a), some (.int b), some (.int (x0 + 1))], [], 0, 0, (mSH, K1, L))) rfl ?_
      (exact ih (of_decide_eq_false c0) _ _ _ (gK.tr gK1))
    · intro K1 gK1 vK1 pK1
      show mWP mTb_ mFT ro (d + 5, 139, 36, [some (.ref 34), some (.int v0), some (.int a), some (.int b), some (.int x0)], [.int 1], 0, 0, (mSH, K1, L)) _
      refine mBF (s3 := (d + 5, 139, 39, [some (.ref 34), some (.int v0), some (.int a), some (.int b), some (.int x0)], [], 0, 0, (mSH, K1, L))) rfl (by decide) ?_
      refine mB 2 (s2 := (d + 5, 139, 41, [some (.ref 34), some (.int v0), some (.int a), some (.int b), some (.int x0)], [.int (-1), .int a], 0, 0, (mSH, K1, L))) rfl ?_
      refine mBr (s2 := (d + 5, 139, 54, [some (.ref 34), some (.int v0), some (.int a), some (.int b), some (.int x0)], [], 0, 0, (mSH, K1, L))) (s3 := (d + 5, 139, 44, [some (.ref 34), some (.int v0), some (.int a), some (.int b), some (.int x0)], [], 0, 0, (mSH, K1, L))) rfl (fun c1 => ?_) (fun c1 => ?_)
      · refine mB 5 (s2 := (d + 5, 139, 62, [some (.ref 34), some (.int v0), some (.int x0), some (.int b), some (.int x0)], [.int 0, .ref 46], 0, 0, (mSH, K1, L))) rfl ?_
        refine mRq (s2 := (d + 5, 139, 63, [some (.ref 34), some (.int v0), some (.int x0), some (.int b), some (.int x0)], [.int (K1 46 0)], 0, 0, (mSH, K1, L))) rfl (by decide) ?_
        refine mB 3 (s2 := (d + 5, 139, 23, [some (.ref 34), some (.int v0), some (.int x0), some (.int (K1 46 0)), some (.int (x0 + 1))], [], 0, 0, (mSH, K1, L))) rfl ?_
        (exact ih (of_decide_eq_false c0) _ _ _ (gK.tr gK1))
      · refine mB 3 (s2 := (d + 5, 139, 49, [some (.ref 34), some (.int v0), some (.int a), some (.int b), some (.int x0)], [.int 0, .ref 46], 0, 0, (mSH, K1, L))) rfl ?_
        refine mRq (s2 := (d + 5, 139, 50, [some (.ref 34), some (.int v0), some (.int a), some (.int b), some (.int x0)], [.int (K1 46 0)], 0, 0, (mSH, K1, L))) rfl (by decide) ?_
        refine mB 1 (s2 := (d + 5, 139, 51, [some (.ref 34), some (.int v0), some (.int a), some (.int b), some (.int x0)], [.int b, .int (K1 46 0)], 0, 0, (mSH, K1, L))) rfl ?_
        refine mBr (s2 := (d + 5, 139, 64, [some (.ref 34), some (.int v0), some (.int a), some (.int b), some (.int x0)], [], 0, 0, (mSH, K1, L))) (s3 := (d + 5, 139, 54, [some (.ref 34), some (.int v0), some (.int a), some (.int b), some (.int x0)], [], 0, 0, (mSH, K1, L))) rfl (fun c2 => ?_) (fun c2 => ?_)
        · refine mB 2 (s2 := (d + 5, 139, 23, [some (.ref 34), some (.int v0), some (.int a), some (.int b), some (.int (x0 + 1))], [], 0, 0, (mSH, K1, L))) rfl ?_
          (exact ih (of_decide_eq_false c0) _ _ _ (gK.tr gK1))
        · refine mB 5 (s2 := (d + 5, 139, 62, [some (.ref 34), some (.int v0), some (.int x0), some (.int b), some (.int x0)], [.int 0, .ref 46], 0, 0, (mSH, K1, L))) rfl ?_
          refine mRq (s2 := (d + 5, 139, 63, [some (.ref 34), some (.int v0), some (.int x0), some (.int b), some (.int x0)], [.int (K1 46 0)], 0, 0, (mSH, K1, L))) rfl (by decide) ?_
          refine mB 3 (s2 := (d + 5, 139, 23, [some (.ref 34), some (.int v0), some (.int x0), some (.int (K1 46 0)), some (.int (x0 + 1))], [], 0, 0, (mSH, K1, L))) rfl ?_
          (exact ih (of_decide_eq_false c0) _ _ _ (gK.tr gK1))
theorem l_mmi {ro : Nat → Nat × (Nat → Int32)} {Q : mPo} {d : Nat} {I : Nat → Nat → Int32} {L : Nat → Nat → Int64} {s n t : Nat} {v0 : Int32} (hm : mM s n t I) (hq : ∀ r I1 L1, mTx I I1 → mIM I1 → Q (some (.int r)) (mSH, I1, L1)) (m : Nat) : ∀ (x0 : Int32) (K : Nat → Nat → Int32) (a b : Int32), 4 ≤ x0.toInt + m → mGr I K → mWP mTb_ mFT ro (d + 5, 139, 23, [some (.ref 34), some (.int v0), some (.int a), some (.int b), some (.int x0)], [], 0, 0, (mSH, K, L)) Q := by
  induction m with
  | zero =>
    intro x0 K a b hx gK
    exact s_mmi hm gK hq (fun c => absurd (Int32.lt_iff_toInt_lt.mpr (by rw [mLi3]; omega)) c)
  | succ m ih =>
    intro x0 K a b hx gK
    refine s_mmi hm gK hq (fun c K a b gK => ih _ K a b ?_ gK)
    rw [mSucc (y := 4) (fun e => c (by simp only [Int32.lt_iff_toInt_lt, Int32.le_iff_toInt_le, mLi3, mLi4] at *; omega))]
    omega
theorem m_mildest {ro : Nat → Nat × (Nat → Int32)} {Q : mPo} {d : Nat} {I : Nat → Nat → Int32} {L : Nat → Nat → Int64} {s n t : Nat} {v0 : Int32} (hm : mM s n t I) (hq : ∀ r I1 L1, mTx I I1 → mIM I1 → Q (some (.int r)) (mSH, I1, L1))   : mWP mTb_ mFT ro (d + 5, 139, 0, [some (.ref 34), some (.int v0), none, none, none], [], 0, 0, (mSH, I, L)) Q := by
  refine mB 3 (s2 := (d + 5, 139, 3, [some (.ref 34), some (.int v0), none, none, none], [.int 1, .int 0, .int v0], 0, 0, (mSH, I, L))) rfl ?_
  refine mCall (s2 := (d + 4, 112, 0, [some (.int v0), some (.int 0), some (.int 1)], [], 0, 0, (mSH, I, L))) rfl ?_
  refine mB 2 (s2 := (d + 4, 112, 2, [some (.int v0), some (.int 0), some (.int 1)], [.int 0, .int v0], 0, 0, (mSH, I, L))) rfl ?_
  refine mBr (s2 := (d + 4, 112, 14, [some (.int v0), some (.int 0), some (.int 1)], [], 0, 0, (mSH, I, L))) (s3 := (d + 4, 112, 5, [some (.int v0), some (.int 0), some (.int 1)], [], 0, 0, (mSH, I, L))) rfl (fun c0 => ?_) (fun c0 => ?_)
  · refine mB 1 (s2 := (d + 4, 112, 15, [some (.int v0), some (.int 0), some (.int 1)], [.int 0], 0, 0, (mSH, I, L))) rfl ?_
    refine mRt (r := (some (.int 0))) (h := (mSH, I, L)) rfl rfl ?_
    show mWP mTb_ mFT ro (d + 5, 139, 6, [some (.ref 34), some (.int v0), none, none, none], [.int 0], 0, 0, (mSH, I, L)) _
    refine mBT (s2 := (d + 5, 139, 9, [some (.ref 34), some (.int v0), none, none, none], [], 0, 0, (mSH, I, L))) rfl (by decide) ?_
    refine mB 2 (s2 := (d + 5, 139, 12, [some (.ref 34), some (.int v0), none, none, none], [.int (-2), .ref 34], 0, 0, (mSH, I, L))) rfl ?_
    refine mCall (s2 := (d + 4, 113, 0, [some (.ref 34), some (.int (-2))], [], 0, 0, (mSH, I, L))) rfl ?_
    refine mB 6 (s2 := (d + 4, 113, 9, [some (.ref 34), some (.int (-2))], [.int 0, .ref 39, .int 0, .ref 39], 0, 0, (mSH, I, L))) rfl ?_
    refine mRq (s2 := (d + 4, 113, 10, [some (.ref 34), some (.int (-2))], [.int (I 39 0), .int 0, .ref 39], 0, 0, (mSH, I, L))) rfl (by decide) ?_
    refine mB 2 (s2 := (d + 4, 113, 12, [some (.ref 34), some (.int (-2))], [.int ((I 39 0) + 1), .int 0, .ref 39], 0, 0, (mSH, I, L))) rfl ?_
    refine mRq (s2 := (d + 4, 113, 13, [some (.ref 34), some (.int (-2))], [], 0, 0, (mSH, (mUp I 39 0 ((I 39 0) + 1)), L))) rfl (by decide) ?_
    refine mB 1 (s2 := (d + 4, 113, 14, [some (.ref 34), some (.int (-2))], [.int (-2)], 0, 0, (mSH, (mUp I 39 0 ((I 39 0) + 1)), L))) rfl ?_
    refine mRt (r := (some (.int (-2)))) (h := (mSH, (mUp I 39 0 ((I 39 0) + 1)), L)) rfl (mRet_int rfl) ?_
    show mWP mTb_ mFT ro (d + 5, 139, 15, [some (.ref 34), some (.int v0), none, none, none], [.int (-2)], 0, 0, (mSH, (mUp I 39 0 ((I 39 0) + 1)), L)) _
    refine mRt (r := (some (.int (-2)))) (h := (mSH, (mUp I 39 0 ((I 39 0) + 1)), L)) rfl (mRet_int rfl) ?_
    exact hq _ _ _ ((mGr.up (by rfl) mGr.rf)).x ⟨s, n, t, ((mGr.up (by rfl) mGr.rf)).m hm⟩
  · refine mB 2 (s2 := (d + 4, 112, 7, [some (.int v0), some (.int 0), some (.int 1)], [.int 1, .int v0], 0, 0, (mSH, I, L))) rfl ?_
    refine mBr (s2 := (d + 4, 112, 14, [some (.int v0), some (.int 0), some (.int 1)], [], 0, 0, (mSH, I, L))) (s3 := (d + 4, 112, 10, [some (.int v0), some (.int 0), some (.int 1)], [], 0, 0, (mSH, I, L))) rfl (fun c1 => ?_) (fun c1 => ?_)
    · refine mB 1 (s2 := (d + 4, 112, 15, [some (.int v0), some (.int 0), some (.int 1)], [.int 0], 0, 0, (mSH, I, L))) rfl ?_
      refine mRt (r := (some (.int 0))) (h := (mSH, I, L)) rfl rfl ?_
      show mWP mTb_ mFT ro (d + 5, 139, 6, [some (.ref 34), some (.int v0), none, none, none], [.int 0], 0, 0, (mSH, I, L)) _
      refine mBT (s2 := (d + 5, 139, 9, [some (.ref 34), some (.int v0), none, none, none], [], 0, 0, (mSH, I, L))) rfl (by decide) ?_
      refine mB 2 (s2 := (d + 5, 139, 12, [some (.ref 34), some (.int v0), none, none, none], [.int (-2), .ref 34], 0, 0, (mSH, I, L))) rfl ?_
      refine mCall (s2 := (d + 4, 113, 0, [some (.ref 34), some (.int (-2))], [], 0, 0, (mSH, I, L))) rfl ?_
      refine mB 6 (s2 := (d + 4, 113, 9, [some (.ref 34), some (.int (-2))], [.int 0, .ref 39, .int 0, .ref 39], 0, 0, (mSH, I, L))) rfl ?_
      refine mRq (s2 := (d + 4, 113, 10, [some (.ref 34), some (.int (-2))], [.int (I 39 0), .int 0, .ref 39], 0, 0, (mSH, I, L))) rfl (by decide) ?_
      refine mB 2 (s2 := (d + 4, 113, 12, [some (.ref 34), some (.int (-2))], [.int ((I 39 0) + 1), .int 0, .ref 39], 0, 0, (mSH, I, L))) rfl ?_
      refine mRq (s2 := (d + 4, 113, 13, [some (.ref 34), some (.int (-2))], [], 0, 0, (mSH, (mUp I 39 0 ((I 39 0) + 1)), L))) rfl (by decide) ?_
      refine mB 1 (s2 := (d + 4, 113, 14, [some (.ref 34), some (.int (-2))], [.int (-2)], 0, 0, (mSH, (mUp I 39 0 ((I 39 0) + 1)), L))) rfl ?_
      refine mRt (r := (some (.int (-2)))) (h := (mSH, (mUp I 39 0 ((I 39 0) + 1)), L)) rfl (mRet_int rfl) ?_
      show mWP mTb_ mFT ro (d + 5, 139, 15, [some (.ref 34), some (.int v0), none, none, none], [.int (-2)], 0, 0, (mSH, (mUp I 39 0 ((I 39 0) + 1)), L)) _
      refine mRt (r := (some (.int (-2)))) (h := (mSH, (mUp I 39 0 ((I 39 0) + 1)), L)) rfl (mRet_int rfl) ?_
      exact hq _ _ _ ((mGr.up (by rfl) mGr.rf)).x ⟨s, n, t, ((mGr.up (by rfl) mGr.rf)).m hm⟩
    · refine mB 2 (s2 := (d + 4, 112, 15, [some (.int v0), some (.int 0), some (.int 1)], [.int 1], 0, 0, (mSH, I, L))) rfl ?_
      refine mRt (r := (some (.int 1))) (h := (mSH, I, L)) rfl rfl ?_
      show mWP mTb_ mFT ro (d + 5, 139, 6, [some (.ref 34), some (.int v0), none, none, none], [.int 1], 0, 0, (mSH, I, L)) _
      refine mBF (s3 := (d + 5, 139, 16, [some (.ref 34), some (.int v0), none, none, none], [], 0, 0, (mSH, I, L))) rfl (by decide) ?_
      refine mB 6 (s2 := (d + 5, 139, 23, [some (.ref 34), some (.int v0), some (.int (-1)), some (.int 0), some (.int 0)], [], 0, 0, (mSH, I, L))) rfl ?_
      exact l_mmi hm hq 4 _ _ _ _ (by decide) mGr.rf
