/-! The model reads. Written by a program (wip/mk_c.py). -/
theorem s_rd1 {ro : Nat → Nat × (Nat → Int32)} {Q : mPo} {d : Nat} {I : Nat → Nat → Int32} {L : Nat → Nat → Int64} {p q : Nat} {b : Int32}  (h1 : (b = 0) → mWP mTb_ mFT ro (d + 4, 156, 137, [some (.ref 34), some (.int (nI p)), some (.int b), some (.int (nI q)), some (.int 0)], [], 0, 0, (mSH, (mUp (mUp (mUp I 34 1 (nI p)) 34 3 (nI q)) 34 4 1), L)) Q) (h2 : ¬ (b = 0) → mWP mTb_ mFT ro (d + 4, 156, 137, [some (.ref 34), some (.int (nI p)), some (.int b), some (.int (nI q)), some (.int 0)], [], 0, 0, (mSH, (mUp (mUp (mUp I 34 1 (nI p)) 34 3 (nI q)) 34 4 0), L)) Q) : mWP mTb_ mFT ro (d + 4, 156, 111, [some (.ref 34), some (.int (nI p)), some (.int b), some (.int (nI q)), none], [], 0, 0, (mSH, I, L)) Q := by
  refine mB 8 (s2 := (d + 4, 156, 123, [some (.ref 34), some (.int (nI p)), some (.int b), some (.int (nI q)), none], [.int b, .ref 34], 0, 0, (mSH, (mUp (mUp I 34 1 (nI p)) 34 3 (nI q)), L))) rfl ?_
  refine mBr (s2 := (d + 4, 156, 130, [some (.ref 34), some (.int (nI p)), some (.int b), some (.int (nI q)), none], [.ref 34], 0, 0, (mSH, (mUp (mUp I 34 1 (nI p)) 34 3 (nI q)), L))) (s3 := (d + 4, 156, 126, [some (.ref 34), some (.int (nI p)), some (.int b), some (.int (nI q)), none], [.ref 34], 0, 0, (mSH, (mUp (mUp I 34 1 (nI p)) 34 3 (nI q)), L))) rfl (fun c0 => ?_) (fun c0 => ?_)
  · refine mB 4 (s2 := (d + 4, 156, 137, [some (.ref 34), some (.int (nI p)), some (.int b), some (.int (nI q)), some (.int 0)], [], 0, 0, (mSH, (mUp (mUp (mUp I 34 1 (nI p)) 34 3 (nI q)) 34 4 1), L))) rfl ?_
    exact h1 (of_decide_eq_true c0)
  · refine mB 5 (s2 := (d + 4, 156, 137, [some (.ref 34), some (.int (nI p)), some (.int b), some (.int (nI q)), some (.int 0)], [], 0, 0, (mSH, (mUp (mUp (mUp I 34 1 (nI p)) 34 3 (nI q)) 34 4 0), L))) rfl ?_
    exact h2 (of_decide_eq_false c0)
theorem s_rd2 {ro : Nat → Nat × (Nat → Int32)} {Q : mPo} {d : Nat} {I : Nat → Nat → Int32} {L : Nat → Nat → Int64} {p q k : Nat} {b : Int32}  (h1 : ((nI p) ≤ (nI k)) → mWP mTb_ mFT ro (d + 4, 156, 166, [some (.ref 34), some (.int (nI p)), some (.int b), some (.int (nI q)), some (.int 0)], [], 0, 0, (mSH, I, L)) Q) (h2 : ¬ ((nI p) ≤ (nI k)) → vp_in (nI k) 16) (h3 : ¬ ((nI p) ≤ (nI k)) → vp_in (nI k) 16) (h4 : ¬ ((nI p) ≤ (nI k)) → mWP mTb_ mFT ro (d + 4, 156, 137, [some (.ref 34), some (.int (nI p)), some (.int b), some (.int (nI q)), some (.int ((nI k) + 1))], [], 0, 0, (mSH, (mUp I 35 ((nI k).toNatClampNeg) (I 42 ((nI k).toNatClampNeg))), L)) Q) : mWP mTb_ mFT ro (d + 4, 156, 137, [some (.ref 34), some (.int (nI p)), some (.int b), some (.int (nI q)), some (.int (nI k))], [], 0, 0, (mSH, I, L)) Q := by
  refine mB 2 (s2 := (d + 4, 156, 140, [some (.ref 34), some (.int (nI p)), some (.int b), some (.int (nI q)), some (.int (nI k))], [.int (nI p), .int (nI k)], 0, 0, (mSH, I, L))) rfl ?_
  refine mBr (s2 := (d + 4, 156, 163, [some (.ref 34), some (.int (nI p)), some (.int b), some (.int (nI q)), some (.int (nI k))], [], 0, 0, (mSH, I, L))) (s3 := (d + 4, 156, 143, [some (.ref 34), some (.int (nI p)), some (.int b), some (.int (nI q)), some (.int (nI k))], [], 0, 0, (mSH, I, L))) rfl (fun c0 => ?_) (fun c0 => ?_)
  · refine mB 2 (s2 := (d + 4, 156, 166, [some (.ref 34), some (.int (nI p)), some (.int b), some (.int (nI q)), some (.int 0)], [], 0, 0, (mSH, I, L))) rfl ?_
    exact h1 (of_decide_eq_true c0)
  · refine mB 6 (s2 := (d + 4, 156, 155, [some (.ref 34), some (.int (nI p)), some (.int b), some (.int (nI q)), some (.int (nI k))], [.int (nI k), .ref 42, .int (nI k), .ref 35], 0, 0, (mSH, I, L))) rfl ?_
    refine mRq (s2 := (d + 4, 156, 156, [some (.ref 34), some (.int (nI p)), some (.int b), some (.int (nI q)), some (.int (nI k))], [.int (I 42 ((nI k).toNatClampNeg)), .int (nI k), .ref 35], 0, 0, (mSH, I, L))) rfl (mVp_of (h2 (of_decide_eq_false c0))) ?_
    refine mRq (s2 := (d + 4, 156, 157, [some (.ref 34), some (.int (nI p)), some (.int b), some (.int (nI q)), some (.int (nI k))], [], 0, 0, (mSH, (mUp I 35 ((nI k).toNatClampNeg) (I 42 ((nI k).toNatClampNeg))), L))) rfl (mVp_of (h3 (of_decide_eq_false c0))) ?_
    refine mB 2 (s2 := (d + 4, 156, 137, [some (.ref 34), some (.int (nI p)), some (.int b), some (.int (nI q)), some (.int ((nI k) + 1))], [], 0, 0, (mSH, (mUp I 35 ((nI k).toNatClampNeg) (I 42 ((nI k).toNatClampNeg))), L))) rfl ?_
    exact h4 (of_decide_eq_false c0)
theorem s_rd3 {ro : Nat → Nat × (Nat → Int32)} {Q : mPo} {d : Nat} {I : Nat → Nat → Int32} {L : Nat → Nat → Int64} {p q k : Nat} {b : Int32}  (h1 : ((nI q) ≤ (nI k)) → Q (some (.int ((nI p) + (nI q)))) (mSH, I, L)) (h2 : ¬ ((nI q) ≤ (nI k)) → vp_in (nI k) 8) (h3 : ¬ ((nI q) ≤ (nI k)) → vp_in (nI k) 8) (h4 : ¬ ((nI q) ≤ (nI k)) → mWP mTb_ mFT ro (d + 4, 156, 166, [some (.ref 34), some (.int (nI p)), some (.int b), some (.int (nI q)), some (.int ((nI k) + 1))], [], 0, 0, (mSH, (mUp I 36 ((nI k).toNatClampNeg) (I 43 ((nI k).toNatClampNeg))), L)) Q) : mWP mTb_ mFT ro (d + 4, 156, 166, [some (.ref 34), some (.int (nI p)), some (.int b), some (.int (nI q)), some (.int (nI k))], [], 0, 0, (mSH, I, L)) Q := by
  refine mB 2 (s2 := (d + 4, 156, 169, [some (.ref 34), some (.int (nI p)), some (.int b), some (.int (nI q)), some (.int (nI k))], [.int (nI q), .int (nI k)], 0, 0, (mSH, I, L))) rfl ?_
  refine mBr (s2 := (d + 4, 156, 192, [some (.ref 34), some (.int (nI p)), some (.int b), some (.int (nI q)), some (.int (nI k))], [], 0, 0, (mSH, I, L))) (s3 := (d + 4, 156, 172, [some (.ref 34), some (.int (nI p)), some (.int b), some (.int (nI q)), some (.int (nI k))], [], 0, 0, (mSH, I, L))) rfl (fun c0 => ?_) (fun c0 => ?_)
  · refine mB 3 (s2 := (d + 4, 156, 195, [some (.ref 34), some (.int (nI p)), some (.int b), some (.int (nI q)), some (.int (nI k))], [.int ((nI p) + (nI q))], 0, 0, (mSH, I, L))) rfl ?_
    refine mRt (r := (some (.int ((nI p) + (nI q))))) (h := (mSH, I, L)) rfl (mRet_int rfl) ?_
    exact h1 (of_decide_eq_true c0)
  · refine mB 6 (s2 := (d + 4, 156, 184, [some (.ref 34), some (.int (nI p)), some (.int b), some (.int (nI q)), some (.int (nI k))], [.int (nI k), .ref 43, .int (nI k), .ref 36], 0, 0, (mSH, I, L))) rfl ?_
    refine mRq (s2 := (d + 4, 156, 185, [some (.ref 34), some (.int (nI p)), some (.int b), some (.int (nI q)), some (.int (nI k))], [.int (I 43 ((nI k).toNatClampNeg)), .int (nI k), .ref 36], 0, 0, (mSH, I, L))) rfl (mVp_of (h2 (of_decide_eq_false c0))) ?_
    refine mRq (s2 := (d + 4, 156, 186, [some (.ref 34), some (.int (nI p)), some (.int b), some (.int (nI q)), some (.int (nI k))], [], 0, 0, (mSH, (mUp I 36 ((nI k).toNatClampNeg) (I 43 ((nI k).toNatClampNeg))), L))) rfl (mVp_of (h3 (of_decide_eq_false c0))) ?_
    refine mB 2 (s2 := (d + 4, 156, 166, [some (.ref 34), some (.int (nI p)), some (.int b), some (.int (nI q)), some (.int ((nI k) + 1))], [], 0, 0, (mSH, (mUp I 36 ((nI k).toNatClampNeg) (I 43 ((nI k).toNatClampNeg))), L))) rfl ?_
    exact h4 (of_decide_eq_false c0)
theorem l_rd3 {ro : Nat → Nat × (Nat → Int32)} {Q : mPo} {d : Nat} {L : Nat → Nat → Int64} {p q : Nat} {b : Int32} (hp : p ≤ 16) (hq8 : q ≤ 8) : ∀ (e k : Nat), k + e = q → ∀ I, (∀ j, j < q → mYR (I 43 j)) → (∀ j, j < k → mYR (I 36 j)) → (∀ I1, (∀ c, c ≠ 36 → I1 c = I c) → (∀ j, j < q → mYR (I1 36 j)) → Q (some (.int (nI p + nI q))) (mSH, I1, L)) → mWP mTb_ mFT ro (d + 4, 156, 166, [some (.ref 34), some (.int (nI p)), some (.int b), some (.int (nI q)), some (.int (nI k))], [], 0, 0, (mSH, I, L)) Q := by
  intro e
  induction e with
  | zero =>
    intro k he I h43 h36 hQ
    have e : k = q := by omega
    subst e
    have z : nI k ≤ nI k := nI_le (Nat.le_refl k) (by omega)
    exact s_rd3 (fun _ => hQ I (fun _ _ => rfl) h36) (fun c => absurd z c) (fun c => absurd z c) (fun c => absurd z c)
  | succ e ih =>
    intro k he I h43 h36 hQ
    have z : ¬ nI q ≤ nI k := nI_ge (by omega) (by omega)
    refine s_rd3 (fun c => absurd c z) (fun _ => vp_in_nI (by omega) (by omega)) (fun _ => vp_in_nI (by omega) (by omega)) (fun _ => ?_)
    rw [nI_clamp (by omega), nI_1]
    refine ih (k + 1) (by omega) _ h43 (fun j hj => ?_) (fun I1 g1 g2 => hQ I1 (fun c hc => ?_) g2)
    · rcases Nat.lt_or_ge j k with z | z
      · rw [mUp_oth (by omega)]
        exact h36 j z
      · have e : j = k := by omega
        rw [e, mUp_same]
        exact h43 k (by omega)
    · rw [g1 c hc, mUp_row hc]
theorem l_rd2 {ro : Nat → Nat × (Nat → Int32)} {Q : mPo} {d : Nat} {L : Nat → Nat → Int64} {p q : Nat} {b : Int32} (hp : p ≤ 16) (hq8 : q ≤ 8) : ∀ (e k : Nat), k + e = p → ∀ I, (∀ j, j < p → mYR (I 42 j)) → (∀ j, j < q → mYR (I 43 j)) → (∀ j, j < k → mYR (I 35 j)) → (∀ I1, (∀ c, c ≠ 35 → c ≠ 36 → I1 c = I c) → (∀ j, j < p → mYR (I1 35 j)) → (∀ j, j < q → mYR (I1 36 j)) → Q (some (.int (nI p + nI q))) (mSH, I1, L)) → mWP mTb_ mFT ro (d + 4, 156, 137, [some (.ref 34), some (.int (nI p)), some (.int b), some (.int (nI q)), some (.int (nI k))], [], 0, 0, (mSH, I, L)) Q := by
  intro e
  induction e with
  | zero =>
    intro k he I h42 h43 h35 hQ
    have e : k = p := by omega
    subst e
    have z : nI k ≤ nI k := nI_le (Nat.le_refl k) (by omega)
    refine s_rd2 (fun _ => ?_) (fun c => absurd z c) (fun c => absurd z c) (fun c => absurd z c)
    exact l_rd3 hp hq8 q 0 (by omega) I h43 (fun j hj => absurd hj (Nat.not_lt_zero j)) (fun I1 g1 g2 => hQ I1 (fun c _ hc => g1 c hc) (by rw [g1 35 (by omega)]; exact h35) g2)
  | succ e ih =>
    intro k he I h42 h43 h35 hQ
    have z : ¬ nI p ≤ nI k := nI_ge (by omega) (by omega)
    refine s_rd2 (fun c => absurd c z) (fun _ => vp_in_nI (by omega) (by omega)) (fun _ => vp_in_nI (by omega) (by omega)) (fun _ => ?_)
    rw [nI_clamp (by omega), nI_1]
    refine ih (k + 1) (by omega) _ h42 h43 (fun j hj => ?_) (fun I1 g1 g2 g3 => hQ I1 (fun c hc hd => ?_) g2 g3)
    · rcases Nat.lt_or_ge j k with z | z
      · rw [mUp_oth (by omega)]
        exact h35 j z
      · have e : j = k := by omega
        rw [e, mUp_same]
        exact h42 k (by omega)
    · rw [g1 c hc hd, mUp_row hc]
