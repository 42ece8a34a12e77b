/-! Arrays.fill, written by a program (wip/mk_simple.py). -/
theorem w_fill_s12 {ro : Nat → Nat × (Nat → Int32)} {Q : mPo} {d : Nat} {I : Nat → Nat → Int32} {L : Nat → Nat → Int64} {v x : Int32}  (h1 : ((154 : Int32) ≤ x) → Q none (mSH, I, L)) (h2 : ¬ ((154 : Int32) ≤ x) → vp_in x 154) (h3 : ¬ ((154 : Int32) ≤ x) → mWP mTb_ mFT ro (d, 166, 5, [some (.ref 12), some (.int v), some (.int (x + 1)), some (.int 154)], [], 0, 0, (mSH, (mUp I 12 x.toNatClampNeg v), L)) Q) : mWP mTb_ mFT ro (d, 166, 5, [some (.ref 12), some (.int v), some (.int x), some (.int 154)], [], 0, 0, (mSH, I, L)) Q := by
  refine mB 2 (s2 := (d, 166, 7, [some (.ref 12), some (.int v), some (.int x), some (.int 154)], [.int 154, .int x], 0, 0, (mSH, I, L))) rfl ?_
  refine mBr (s2 := (d, 166, 20, [some (.ref 12), some (.int v), some (.int x), some (.int 154)], [], 0, 0, (mSH, I, L))) (s3 := (d, 166, 10, [some (.ref 12), some (.int v), some (.int x), some (.int 154)], [], 0, 0, (mSH, I, L))) rfl (fun c0 => ?_) (fun c0 => ?_)
  · refine mRt (r := none) (h := (mSH, I, L)) rfl rfl ?_
    exact h1 (of_decide_eq_true c0)
  · refine mB 3 (s2 := (d, 166, 13, [some (.ref 12), some (.int v), some (.int x), some (.int 154)], [.int v, .int x, .ref 12], 0, 0, (mSH, I, L))) rfl ?_
    refine mRq (s2 := (d, 166, 14, [some (.ref 12), some (.int v), some (.int x), some (.int 154)], [], 0, 0, (mSH, (mUp I 12 x.toNatClampNeg v), L))) rfl (mVp_of (h2 (of_decide_eq_false c0))) ?_
    refine mB 2 (s2 := (d, 166, 5, [some (.ref 12), some (.int v), some (.int (x + 1)), some (.int 154)], [], 0, 0, (mSH, (mUp I 12 x.toNatClampNeg v), L))) rfl ?_
    exact h3 (of_decide_eq_false c0)
theorem w_fill_l12 {ro : Nat → Nat × (Nat → Int32)} {Q : mPo} {d : Nat} {I : Nat → Nat → Int32} {L : Nat → Nat → Int64} {v : Int32} (hq : Q none (mSH, mFl I 12 154 v, L)) : ∀ (m k : Nat), k + m = 154 → mWP mTb_ mFT ro (d, 166, 5, [some (.ref 12), some (.int v), some (.int (nI k)), some (.int 154)], [], 0, 0, (mSH, mFl I 12 k v, L)) Q
  | 0, k, e => by
    have e : k = 154 := by omega
    subst e
    refine w_fill_s12 (fun _ => hq) (fun z => absurd (by decide) z) (fun z => absurd (by decide) z)
  | m + 1, k, e => by
    refine w_fill_s12 (fun z => absurd z (by show ¬ nI 154 ≤ nI k; exact nI_ge (by omega) (by omega))) (fun _ => vp_in_nI (by omega) (by omega)) (fun _ => ?_)
    rw [nI_clamp (by omega), mFl_up, nI_1]
    exact w_fill_l12 hq m (k + 1) (by omega)
theorem w_fill_12 {ro : Nat → Nat × (Nat → Int32)} {Q : mPo} {d : Nat} {I : Nat → Nat → Int32} {L : Nat → Nat → Int64} {v : Int32} (hq : Q none (mSH, mFl I 12 154 v, L)) : mWP mTb_ mFT ro (d, 166, 0, [some (.ref 12), some (.int v), none, none], [], 0, 0, (mSH, I, L)) Q := by
  refine mB 5 (s2 := (d, 166, 5, [some (.ref 12), some (.int v), some (.int 0), some (.int 154)], [], 0, 0, (mSH, I, L))) rfl ?_
  have h := w_fill_l12 (ro := ro) (d := d) hq 154 0 (by omega)
  rw [mFl_0] at h
  exact h
theorem w_fill_s13 {ro : Nat → Nat × (Nat → Int32)} {Q : mPo} {d : Nat} {I : Nat → Nat → Int32} {L : Nat → Nat → Int64} {v x : Int32}  (h1 : ((154 : Int32) ≤ x) → Q none (mSH, I, L)) (h2 : ¬ ((154 : Int32) ≤ x) → vp_in x 154) (h3 : ¬ ((154 : Int32) ≤ x) → mWP mTb_ mFT ro (d, 166, 5, [some (.ref 13), some (.int v), some (.int (x + 1)), some (.int 154)], [], 0, 0, (mSH, (mUp I 13 x.toNatClampNeg v), L)) Q) : mWP mTb_ mFT ro (d, 166, 5, [some (.ref 13), some (.int v), some (.int x), some (.int 154)], [], 0, 0, (mSH, I, L)) Q := by
  refine mB 2 (s2 := (d, 166, 7, [some (.ref 13), some (.int v), some (.int x), some (.int 154)], [.int 154, .int x], 0, 0, (mSH, I, L))) rfl ?_
  refine mBr (s2 := (d, 166, 20, [some (.ref 13), some (.int v), some (.int x), some (.int 154)], [], 0, 0, (mSH, I, L))) (s3 := (d, 166, 10, [some (.ref 13), some (.int v), some (.int x), some (.int 154)], [], 0, 0, (mSH, I, L))) rfl (fun c0 => ?_) (fun c0 => ?_)
  · refine mRt (r := none) (h := (mSH, I, L)) rfl rfl ?_
    exact h1 (of_decide_eq_true c0)
  · refine mB 3 (s2 := (d, 166, 13, [some (.ref 13), some (.int v), some (.int x), some (.int 154)], [.int v, .int x, .ref 13], 0, 0, (mSH, I, L))) rfl ?_
    refine mRq (s2 := (d, 166, 14, [some (.ref 13), some (.int v), some (.int x), some (.int 154)], [], 0, 0, (mSH, (mUp I 13 x.toNatClampNeg v), L))) rfl (mVp_of (h2 (of_decide_eq_false c0))) ?_
    refine mB 2 (s2 := (d, 166, 5, [some (.ref 13), some (.int v), some (.int (x + 1)), some (.int 154)], [], 0, 0, (mSH, (mUp I 13 x.toNatClampNeg v), L))) rfl ?_
    exact h3 (of_decide_eq_false c0)
theorem w_fill_l13 {ro : Nat → Nat × (Nat → Int32)} {Q : mPo} {d : Nat} {I : Nat → Nat → Int32} {L : Nat → Nat → Int64} {v : Int32} (hq : Q none (mSH, mFl I 13 154 v, L)) : ∀ (m k : Nat), k + m = 154 → mWP mTb_ mFT ro (d, 166, 5, [some (.ref 13), some (.int v), some (.int (nI k)), some (.int 154)], [], 0, 0, (mSH, mFl I 13 k v, L)) Q
  | 0, k, e => by
    have e : k = 154 := by omega
    subst e
    refine w_fill_s13 (fun _ => hq) (fun z => absurd (by decide) z) (fun z => absurd (by decide) z)
  | m + 1, k, e => by
    refine w_fill_s13 (fun z => absurd z (by show ¬ nI 154 ≤ nI k; exact nI_ge (by omega) (by omega))) (fun _ => vp_in_nI (by omega) (by omega)) (fun _ => ?_)
    rw [nI_clamp (by omega), mFl_up, nI_1]
    exact w_fill_l13 hq m (k + 1) (by omega)
theorem w_fill_13 {ro : Nat → Nat × (Nat → Int32)} {Q : mPo} {d : Nat} {I : Nat → Nat → Int32} {L : Nat → Nat → Int64} {v : Int32} (hq : Q none (mSH, mFl I 13 154 v, L)) : mWP mTb_ mFT ro (d, 166, 0, [some (.ref 13), some (.int v), none, none], [], 0, 0, (mSH, I, L)) Q := by
  refine mB 5 (s2 := (d, 166, 5, [some (.ref 13), some (.int v), some (.int 0), some (.int 154)], [], 0, 0, (mSH, I, L))) rfl ?_
  have h := w_fill_l13 (ro := ro) (d := d) hq 154 0 (by omega)
  rw [mFl_0] at h
  exact h
theorem w_fill_s20 {ro : Nat → Nat × (Nat → Int32)} {Q : mPo} {d : Nat} {I : Nat → Nat → Int32} {L : Nat → Nat → Int64} {v x : Int32}  (h1 : ((154 : Int32) ≤ x) → Q none (mSH, I, L)) (h2 : ¬ ((154 : Int32) ≤ x) → vp_in x 154) (h3 : ¬ ((154 : Int32) ≤ x) → mWP mTb_ mFT ro (d, 166, 5, [some (.ref 20), some (.int v), some (.int (x + 1)), some (.int 154)], [], 0, 0, (mSH, (mUp I 20 x.toNatClampNeg v), L)) Q) : mWP mTb_ mFT ro (d, 166, 5, [some (.ref 20), some (.int v), some (.int x), some (.int 154)], [], 0, 0, (mSH, I, L)) Q := by
  refine mB 2 (s2 := (d, 166, 7, [some (.ref 20), some (.int v), some (.int x), some (.int 154)], [.int 154, .int x], 0, 0, (mSH, I, L))) rfl ?_
  refine mBr (s2 := (d, 166, 20, [some (.ref 20), some (.int v), some (.int x), some (.int 154)], [], 0, 0, (mSH, I, L))) (s3 := (d, 166, 10, [some (.ref 20), some (.int v), some (.int x), some (.int 154)], [], 0, 0, (mSH, I, L))) rfl (fun c0 => ?_) (fun c0 => ?_)
  · refine mRt (r := none) (h := (mSH, I, L)) rfl rfl ?_
    exact h1 (of_decide_eq_true c0)
  · refine mB 3 (s2 := (d, 166, 13, [some (.ref 20), some (.int v), some (.int x), some (.int 154)], [.int v, .int x, .ref 20], 0, 0, (mSH, I, L))) rfl ?_
    refine mRq (s2 := (d, 166, 14, [some (.ref 20), some (.int v), some (.int x), some (.int 154)], [], 0, 0, (mSH, (mUp I 20 x.toNatClampNeg v), L))) rfl (mVp_of (h2 (of_decide_eq_false c0))) ?_
    refine mB 2 (s2 := (d, 166, 5, [some (.ref 20), some (.int v), some (.int (x + 1)), some (.int 154)], [], 0, 0, (mSH, (mUp I 20 x.toNatClampNeg v), L))) rfl ?_
    exact h3 (of_decide_eq_false c0)
theorem w_fill_l20 {ro : Nat → Nat × (Nat → Int32)} {Q : mPo} {d : Nat} {I : Nat → Nat → Int32} {L : Nat → Nat → Int64} {v : Int32} (hq : Q none (mSH, mFl I 20 154 v, L)) : ∀ (m k : Nat), k + m = 154 → mWP mTb_ mFT ro (d, 166, 5, [some (.ref 20), some (.int v), some (.int (nI k)), some (.int 154)], [], 0, 0, (mSH, mFl I 20 k v, L)) Q
  | 0, k, e => by
    have e : k = 154 := by omega
    subst e
    refine w_fill_s20 (fun _ => hq) (fun z => absurd (by decide) z) (fun z => absurd (by decide) z)
  | m + 1, k, e => by
    refine w_fill_s20 (fun z => absurd z (by show ¬ nI 154 ≤ nI k; exact nI_ge (by omega) (by omega))) (fun _ => vp_in_nI (by omega) (by omega)) (fun _ => ?_)
    rw [nI_clamp (by omega), mFl_up, nI_1]
    exact w_fill_l20 hq m (k + 1) (by omega)
theorem w_fill_20 {ro : Nat → Nat × (Nat → Int32)} {Q : mPo} {d : Nat} {I : Nat → Nat → Int32} {L : Nat → Nat → Int64} {v : Int32} (hq : Q none (mSH, mFl I 20 154 v, L)) : mWP mTb_ mFT ro (d, 166, 0, [some (.ref 20), some (.int v), none, none], [], 0, 0, (mSH, I, L)) Q := by
  refine mB 5 (s2 := (d, 166, 5, [some (.ref 20), some (.int v), some (.int 0), some (.int 154)], [], 0, 0, (mSH, I, L))) rfl ?_
  have h := w_fill_l20 (ro := ro) (d := d) hq 154 0 (by omega)
  rw [mFl_0] at h
  exact h
theorem w_fill_s21 {ro : Nat → Nat × (Nat → Int32)} {Q : mPo} {d : Nat} {I : Nat → Nat → Int32} {L : Nat → Nat → Int64} {v x : Int32}  (h1 : ((154 : Int32) ≤ x) → Q none (mSH, I, L)) (h2 : ¬ ((154 : Int32) ≤ x) → vp_in x 154) (h3 : ¬ ((154 : Int32) ≤ x) → mWP mTb_ mFT ro (d, 166, 5, [some (.ref 21), some (.int v), some (.int (x + 1)), some (.int 154)], [], 0, 0, (mSH, (mUp I 21 x.toNatClampNeg v), L)) Q) : mWP mTb_ mFT ro (d, 166, 5, [some (.ref 21), some (.int v), some (.int x), some (.int 154)], [], 0, 0, (mSH, I, L)) Q := by
  refine mB 2 (s2 := (d, 166, 7, [some (.ref 21), some (.int v), some (.int x), some (.int 154)], [.int 154, .int x], 0, 0, (mSH, I, L))) rfl ?_
  refine mBr (s2 := (d, 166, 20, [some (.ref 21), some (.int v), some (.int x), some (.int 154)], [], 0, 0, (mSH, I, L))) (s3 := (d, 166, 10, [some (.ref 21), some (.int v), some (.int x), some (.int 154)], [], 0, 0, (mSH, I, L))) rfl (fun c0 => ?_) (fun c0 => ?_)
  · refine mRt (r := none) (h := (mSH, I, L)) rfl rfl ?_
    exact h1 (of_decide_eq_true c0)
  · refine mB 3 (s2 := (d, 166, 13, [some (.ref 21), some (.int v), some (.int x), some (.int 154)], [.int v, .int x, .ref 21], 0, 0, (mSH, I, L))) rfl ?_
    refine mRq (s2 := (d, 166, 14, [some (.ref 21), some (.int v), some (.int x), some (.int 154)], [], 0, 0, (mSH, (mUp I 21 x.toNatClampNeg v), L))) rfl (mVp_of (h2 (of_decide_eq_false c0))) ?_
    refine mB 2 (s2 := (d, 166, 5, [some (.ref 21), some (.int v), some (.int (x + 1)), some (.int 154)], [], 0, 0, (mSH, (mUp I 21 x.toNatClampNeg v), L))) rfl ?_
    exact h3 (of_decide_eq_false c0)
theorem w_fill_l21 {ro : Nat → Nat × (Nat → Int32)} {Q : mPo} {d : Nat} {I : Nat → Nat → Int32} {L : Nat → Nat → Int64} {v : Int32} (hq : Q none (mSH, mFl I 21 154 v, L)) : ∀ (m k : Nat), k + m = 154 → mWP mTb_ mFT ro (d, 166, 5, [some (.ref 21), some (.int v), some (.int (nI k)), some (.int 154)], [], 0, 0, (mSH, mFl I 21 k v, L)) Q
  | 0, k, e => by
    have e : k = 154 := by omega
    subst e
    refine w_fill_s21 (fun _ => hq) (fun z => absurd (by decide) z) (fun z => absurd (by decide) z)
  | m + 1, k, e => by
    refine w_fill_s21 (fun z => absurd z (by show ¬ nI 154 ≤ nI k; exact nI_ge (by omega) (by omega))) (fun _ => vp_in_nI (by omega) (by omega)) (fun _ => ?_)
    rw [nI_clamp (by omega), mFl_up, nI_1]
    exact w_fill_l21 hq m (k + 1) (by omega)
theorem w_fill_21 {ro : Nat → Nat × (Nat → Int32)} {Q : mPo} {d : Nat} {I : Nat → Nat → Int32} {L : Nat → Nat → Int64} {v : Int32} (hq : Q none (mSH, mFl I 21 154 v, L)) : mWP mTb_ mFT ro (d, 166, 0, [some (.ref 21), some (.int v), none, none], [], 0, 0, (mSH, I, L)) Q := by
  refine mB 5 (s2 := (d, 166, 5, [some (.ref 21), some (.int v), some (.int 0), some (.int 154)], [], 0, 0, (mSH, I, L))) rfl ?_
  have h := w_fill_l21 (ro := ro) (d := d) hq 154 0 (by omega)
  rw [mFl_0] at h
  exact h
