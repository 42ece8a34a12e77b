/-! The reference reads a number, exactly. Written by a program (wip/mk_c.py). -/
def kVl (b : Nat → Int32) (a : Nat) : Nat → Int32
  | 0 => 0
  | i + 1 => 10 * kVl b a i + b (a + i) - 48
abbrev kDg (b : Nat → Int32) (t k : Nat) : Prop := k < t ∧ ¬ b k < 48 ∧ ¬ (57 : Int32) < b k
section YN
variable {b : Nat → Int32} {t a : Nat}
theorem kFg_eq : ∀ (m a n : Nat), n ≤ m → (∀ k, k < n → kDg b t (a + k)) → ¬ kDg b t (a + n) → kFg b t m a = a + n
  | m, a, 0, _, _, h => by
    cases m with
    | zero => rfl
    | succ m =>
      unfold kFg
      rw [if_neg (show ¬ (a < t ∧ ¬ b a < 48 ∧ ¬ (57 : Int32) < b a) from h)]
      rfl
  | 0, a, n + 1, hm, _, _ => absurd hm (by omega)
  | m + 1, a, n + 1, hm, h1, h2 => by
    unfold kFg
    rw [if_pos (show a < t ∧ ¬ b a < 48 ∧ ¬ (57 : Int32) < b a from h1 0 (by omega))]
    have e := kFg_eq m (a + 1) n (by omega) (fun k hk => by
      have z := h1 (k + 1) (by omega)
      rw [show a + (k + 1) = a + 1 + k by omega] at z
      exact z) (by rw [show a + 1 + n = a + (n + 1) by omega]; exact h2)
    rw [e]
    omega
theorem kFg_in : ∀ (m a n : Nat), n ≤ m → (∀ k, k < n → kDg b t (a + k)) → a + n ≤ kFg b t m a
  | m, a, 0, _, _ => kFg_ge m a
  | 0, a, n + 1, hm, _ => absurd hm (by omega)
  | m + 1, a, n + 1, hm, h1 => by
    unfold kFg
    rw [if_pos (show a < t ∧ ¬ b a < 48 ∧ ¬ (57 : Int32) < b a from h1 0 (by omega))]
    have e := kFg_in m (a + 1) n (by omega) (fun k hk => by
      have z := h1 (k + 1) (by omega)
      rw [show a + (k + 1) = a + 1 + k by omega] at z
      exact z)
    omega
theorem kVl_in : ∀ i, i ≤ 3 → (∀ k, k < i → kDg b t (a + k)) → 0 ≤ (kVl b a i).toInt ∧ (kVl b a i).toInt ≤ mTen i
  | 0, _, _ => ⟨show (0 : Int) ≤ (0 : Int32).toInt by decide, show (0 : Int32).toInt ≤ (0 : Int) by decide⟩
  | i + 1, hi, h => by
    obtain ⟨h1, h2⟩ := kVl_in i (by omega) (fun k hk => h k (by omega))
    have d := h i (by omega)
    have v99 : (kVl b a i).toInt ≤ 99 := by
      have c : i = 0 ∨ i = 1 ∨ i = 2 := by omega
      rcases c with e | e | e <;> subst e
      · have h2 : (kVl b a 0).toInt ≤ 0 := h2
        omega
      · have h2 : (kVl b a 1).toInt ≤ 9 := h2
        omega
      · exact h2
    have dg := mDig h1 v99 d.2.1 d.2.2
    refine ⟨dg.1, ?_⟩
    have c : i = 0 ∨ i = 1 ∨ i = 2 := by omega
    rcases c with e | e | e <;> subst e
    · have h2 : (kVl b a 0).toInt ≤ 0 := h2
      show _ ≤ (9 : Int)
      exact Int.le_trans dg.2 (by omega)
    · have h2 : (kVl b a 1).toInt ≤ 9 := h2
      show _ ≤ (99 : Int)
      exact Int.le_trans dg.2 (by omega)
    · show _ ≤ (999 : Int)
      exact Int.le_trans dg.2 (by omega)
theorem kNum_t {v : Int32} {e : Nat} (h : kNum b t a = some (v, e)) : e ≤ t := by
  unfold kNum at h
  split at h
  · rename_i g
    cases h
    have := kFg_le (b := b) (t := t) 200 a
    omega
  · cases h
/-- what the loop over the figures finds -/
theorem kNb_0 {i : Nat} (hi : i ≤ 3) (h : ∀ k, k < i → kDg b t (a + k)) (hx : ¬ kDg b t (a + i) ∨ 3 ≤ i) (hy : i = 0 ∨ 3 ≤ i ∨ kVl b a i ≤ 0) : kNum b t a = none := by
  rcases hx with hx | hx
  · have e := kFg_eq (b := b) (t := t) 200 a i (by omega) h hx
    have c : i = 0 ∨ i = 3 ∨ ((i = 1 ∨ i = 2) ∧ kVl b a i ≤ 0) := by
      rcases hy with y | y | y
      · exact Or.inl y
      · exact Or.inr (Or.inl (by omega))
      · have d : i = 0 ∨ i = 3 ∨ (i = 1 ∨ i = 2) := by omega
        rcases d with d | d | d
        · exact Or.inl d
        · exact Or.inr (Or.inl d)
        · exact Or.inr (Or.inr ⟨d, y⟩)
    rcases c with c | c | ⟨c, z⟩
    · exact kNum_no (by omega)
    · exact kNum_no (by omega)
    · have v := (kVl_in i hi h).1
      have v0 : kVl b a i = 0 := Int32.toInt_inj.mp (by rw [Int32.le_iff_toInt_le] at z; rw [mLi0] at z ⊢; omega)
      refine kNum_0 e ?_
      rcases c with c | c <;> subst c <;> exact v0
  · have c : i = 3 := by omega
    subst c
    have g := kFg_in (b := b) (t := t) 200 a 3 (by omega) h
    exact kNum_no (by omega)
theorem kNb_1 {i : Nat} (h : ∀ k, k < i → kDg b t (a + k)) (hx : ¬ kDg b t (a + i) ∨ 3 ≤ i) (h0 : i ≠ 0) (h3 : i < 3) (hv : ¬ kVl b a i ≤ 0) : kNum b t a = some (kVl b a i, a + i) ∧ mYR (kVl b a i) := by
  have c : i = 1 ∨ i = 2 := by omega
  have hx : ¬ kDg b t (a + i) := by
    rcases hx with z | z
    · exact z
    · omega
  have e := kFg_eq (b := b) (t := t) 200 a i (by omega) h hx
  have v := kVl_in i (by omega) h
  have ne : ¬ kVl b a i = 0 := fun z => hv (by rw [z]; decide)
  rw [Int32.le_iff_toInt_le, mLi0] at hv
  refine ⟨?_, ?_⟩
  · have k := kNum_1 (b := b) (t := t) (a := a) (f := i) c e
    rcases c with c | c <;> subst c <;> exact k ne
  · refine ⟨by omega, ?_⟩
    rcases c with c | c <;> subst c
    · exact Int.le_trans v.2 (by decide)
    · exact v.2
end YN
theorem z_nb {ro : Nat → Nat × (Nat → Int32)} {Q : mPo} {d : Nat} {I : Nat → Nat → Int32} {L : Nat → Nat → Int64} {s n t : Nat} {a i : Nat} {b : Nat → Int32} {v : Int32} {o3 : Option Value} (hm : mM s n t I) (hb : I 40 = b) (hk : a + i ≤ 2000) (q0 : (¬ kDg b t (a + i) ∨ (3 : Int32) ≤ nI (a + i) - I 34 12) → (nI (a + i) ≤ I 34 12 ∨ (3 : Int32) ≤ nI (a + i) - I 34 12 ∨ v ≤ 0) → Q (some (.int 0)) (mSH, mUp (mUp I 34 13 v) 34 12 (I 34 12), L)) (q1 : (¬ kDg b t (a + i) ∨ (3 : Int32) ≤ nI (a + i) - I 34 12) → ¬ (nI (a + i) ≤ I 34 12) → ¬ ((3 : Int32) ≤ nI (a + i) - I 34 12) → ¬ v ≤ 0 → Q (some (.int 1)) (mSH, mUp (mUp I 34 13 v) 34 12 (nI (a + i)), L)) (ih : kDg b t (a + i) → ¬ ((3 : Int32) ≤ nI (a + i) - I 34 12) → mWP mTb_ mFT ro (d + 2, 153, 11, [some (.ref 34), some (.int ((nI (a + i)) + 1)), some (.int (((10 * v) + (I 40 ((nI (a + i)).toNatClampNeg))) - 48)), o3], [], 0, 0, (mSH, I, L)) Q)   : mWP mTb_ mFT ro (d + 2, 153, 11, [some (.ref 34), some (.int (nI (a + i))), some (.int v), o3], [], 0, 0, (mSH, I, L)) Q := by
  refine mB 2 (s2 := (d + 2, 153, 13, [some (.ref 34), some (.int (nI (a + i))), some (.int v), o3], [.int (nI (a + i)), .ref 34], 0, 0, (mSH, I, L))) rfl ?_
  refine mCall (s2 := (d + 1, 151, 0, [some (.ref 34), some (.int (nI (a + i)))], [], 0, 0, (mSH, I, L))) rfl ?_
  refine y_byte (k := a + i) hb (hm) rfl (by omega) ?_ ?_
  · intro l1
    show mWP mTb_ mFT ro (d + 2, 153, 16, [some (.ref 34), some (.int (nI (a + i))), some (.int v), o3], [.int (-1)], 0, 0, (mSH, I, L)) _
    refine mB 2 (s2 := (d + 2, 153, 20, [some (.ref 34), some (.int (nI (a + i))), some (.int v), o3], [.int 57, .int 48, .int (-1)], 0, 0, (mSH, I, L))) rfl ?_
    refine mCall (s2 := (d + 1, 112, 0, [some (.int (-1)), some (.int 48), some (.int 57)], [], 0, 0, (mSH, I, L))) rfl ?_
    refine mB 2 (s2 := (d + 1, 112, 2, [some (.int (-1)), some (.int 48), some (.int 57)], [.int 48, .int (-1)], 0, 0, (mSH, I, L))) rfl ?_
    refine mBT (s2 := (d + 1, 112, 14, [some (.int (-1)), some (.int 48), some (.int 57)], [], 0, 0, (mSH, I, L))) rfl (by decide) ?_
    refine mB 1 (s2 := (d + 1, 112, 15, [some (.int (-1)), some (.int 48), some (.int 57)], [.int 0], 0, 0, (mSH, I, L))) rfl ?_
    refine mRt (r := (some (.int 0))) (h := (mSH, I, L)) rfl rfl ?_
    show mWP mTb_ mFT ro (d + 2, 153, 23, [some (.ref 34), some (.int (nI (a + i))), some (.int v), o3], [.int 0], 0, 0, (mSH, I, L)) _
    refine mBT (s2 := (d + 2, 153, 57, [some (.ref 34), some (.int (nI (a + i))), some (.int v), o3], [], 0, 0, (mSH, I, L))) rfl (by decide) ?_
    refine mB 3 (s2 := (d + 2, 153, 62, [some (.ref 34), some (.int (nI (a + i))), some (.int v), o3], [.int (I 34 12), .int (nI (a + i))], 0, 0, (mSH, I, L))) rfl ?_
    refine mBr (s2 := (d + 2, 153, 83, [some (.ref 34), some (.int (nI (a + i))), some (.int v), o3], [], 0, 0, (mSH, I, L))) (s3 := (d + 2, 153, 65, [some (.ref 34), some (.int (nI (a + i))), some (.int v), o3], [], 0, 0, (mSH, I, L))) rfl (fun c0 => ?_) (fun c0 => ?_)
    · refine mB 7 (s2 := (d + 2, 153, 92, [some (.ref 34), some (.int (nI (a + i))), some (.int v), some (.int 0)], [.int 0, .ref 34], 0, 0, (mSH, (mUp I 34 13 v), L))) rfl ?_
      refine mBT (s2 := (d + 2, 153, 99, [some (.ref 34), some (.int (nI (a + i))), some (.int v), some (.int 0)], [.ref 34], 0, 0, (mSH, (mUp I 34 13 v), L))) rfl (by decide) ?_
      refine mB 4 (s2 := (d + 2, 153, 107, [some (.ref 34), some (.int (nI (a + i))), some (.int v), some (.int 0)], [.int 0], 0, 0, (mSH, (mUp (mUp I 34 13 v) 34 12 (I 34 12)), L))) rfl ?_
      refine mRt (r := (some (.int 0))) (h := (mSH, (mUp (mUp I 34 13 v) 34 12 (I 34 12)), L)) rfl rfl ?_
      exact q0 (Or.inl (fun z => l1 z.1)) (Or.inl (of_decide_eq_true c0))
    · refine mB 5 (s2 := (d + 2, 153, 72, [some (.ref 34), some (.int (nI (a + i))), some (.int v), o3], [.int 3, .int ((nI (a + i)) - (I 34 12))], 0, 0, (mSH, I, L))) rfl ?_
      refine mBr (s2 := (d + 2, 153, 83, [some (.ref 34), some (.int (nI (a + i))), some (.int v), o3], [], 0, 0, (mSH, I, L))) (s3 := (d + 2, 153, 75, [some (.ref 34), some (.int (nI (a + i))), some (.int v), o3], [], 0, 0, (mSH, I, L))) rfl (fun c1 => ?_) (fun c1 => ?_)
      · refine mB 7 (s2 := (d + 2, 153, 92, [some (.ref 34), some (.int (nI (a + i))), some (.int v), some (.int 0)], [.int 0, .ref 34], 0, 0, (mSH, (mUp I 34 13 v), L))) rfl ?_
        refine mBT (s2 := (d + 2, 153, 99, [some (.ref 34), some (.int (nI (a + i))), some (.int v), some (.int 0)], [.ref 34], 0, 0, (mSH, (mUp I 34 13 v), L))) rfl (by decide) ?_
        refine mB 4 (s2 := (d + 2, 153, 107, [some (.ref 34), some (.int (nI (a + i))), some (.int v), some (.int 0)], [.int 0], 0, 0, (mSH, (mUp (mUp I 34 13 v) 34 12 (I 34 12)), L))) rfl ?_
        refine mRt (r := (some (.int 0))) (h := (mSH, (mUp (mUp I 34 13 v) 34 12 (I 34 12)), L)) rfl rfl ?_
        exact q0 (Or.inl (fun z => l1 z.1)) (Or.inr (Or.inl (of_decide_eq_true c1)))
      · refine mB 1 (s2 := (d + 2, 153, 76, [some (.ref 34), some (.int (nI (a + i))), some (.int v), o3], [.int v], 0, 0, (mSH, I, L))) rfl ?_
        refine mBr (s2 := (d + 2, 153, 83, [some (.ref 34), some (.int (nI (a + i))), some (.int v), o3], [], 0, 0, (mSH, I, L))) (s3 := (d + 2, 153, 79, [some (.ref 34), some (.int (nI (a + i))), some (.int v), o3], [], 0, 0, (mSH, I, L))) rfl (fun c2 => ?_) (fun c2 => ?_)
        · refine mB 7 (s2 := (d + 2, 153, 92, [some (.ref 34), some (.int (nI (a + i))), some (.int v), some (.int 0)], [.int 0, .ref 34], 0, 0, (mSH, (mUp I 34 13 v), L))) rfl ?_
          refine mBT (s2 := (d + 2, 153, 99, [some (.ref 34), some (.int (nI (a + i))), some (.int v), some (.int 0)], [.ref 34], 0, 0, (mSH, (mUp I 34 13 v), L))) rfl (by decide) ?_
          refine mB 4 (s2 := (d + 2, 153, 107, [some (.ref 34), some (.int (nI (a + i))), some (.int v), some (.int 0)], [.int 0], 0, 0, (mSH, (mUp (mUp I 34 13 v) 34 12 (I 34 12)), L))) rfl ?_
          refine mRt (r := (some (.int 0))) (h := (mSH, (mUp (mUp I 34 13 v) 34 12 (I 34 12)), L)) rfl rfl ?_
          exact q0 (Or.inl (fun z => l1 z.1)) (Or.inr (Or.inr (of_decide_eq_true c2)))
        · refine mB 8 (s2 := (d + 2, 153, 92, [some (.ref 34), some (.int (nI (a + i))), some (.int v), some (.int 1)], [.int 1, .ref 34], 0, 0, (mSH, (mUp I 34 13 v), L))) rfl ?_
          refine mBF (s3 := (d + 2, 153, 95, [some (.ref 34), some (.int (nI (a + i))), some (.int v), some (.int 1)], [.ref 34], 0, 0, (mSH, (mUp I 34 13 v), L))) rfl (by decide) ?_
          refine mB 4 (s2 := (d + 2, 153, 107, [some (.ref 34), some (.int (nI (a + i))), some (.int v), some (.int 1)], [.int 1], 0, 0, (mSH, (mUp (mUp I 34 13 v) 34 12 (nI (a + i))), L))) rfl ?_
          refine mRt (r := (some (.int 1))) (h := (mSH, (mUp (mUp I 34 13 v) 34 12 (nI (a + i))), L)) rfl rfl ?_
          exact q1 (Or.inl (fun z => l1 z.1)) (of_decide_eq_false c0) (of_decide_eq_false c1) (of_decide_eq_false c2)
  · intro l1
    show mWP mTb_ mFT ro (d + 2, 153, 16, [some (.ref 34), some (.int (nI (a + i))), some (.int v), o3], [.int (b (a + i))], 0, 0, (mSH, I, L)) _
    refine mB 2 (s2 := (d + 2, 153, 20, [some (.ref 34), some (.int (nI (a + i))), some (.int v), o3], [.int 57, .int 48, .int (b (a + i))], 0, 0, (mSH, I, L))) rfl ?_
    refine mCall (s2 := (d + 1, 112, 0, [some (.int (b (a + i))), some (.int 48), some (.int 57)], [], 0, 0, (mSH, I, L))) rfl ?_
    refine mB 2 (s2 := (d + 1, 112, 2, [some (.int (b (a + i))), some (.int 48), some (.int 57)], [.int 48, .int (b (a + i))], 0, 0, (mSH, I, L))) rfl ?_
    refine mBr (s2 := (d + 1, 112, 14, [some (.int (b (a + i))), some (.int 48), some (.int 57)], [], 0, 0, (mSH, I, L))) (s3 := (d + 1, 112, 5, [some (.int (b (a + i))), some (.int 48), some (.int 57)], [], 0, 0, (mSH, I, L))) rfl (fun c0 => ?_) (fun c0 => ?_)
    · refine mB 1 (s2 := (d + 1, 112, 15, [some (.int (b (a + i))), some (.int 48), some (.int 57)], [.int 0], 0, 0, (mSH, I, L))) rfl ?_
      refine mRt (r := (some (.int 0))) (h := (mSH, I, L)) rfl rfl ?_
      show mWP mTb_ mFT ro (d + 2, 153, 23, [some (.ref 34), some (.int (nI (a + i))), some (.int v), o3], [.int 0], 0, 0, (mSH, I, L)) _
      refine mBT (s2 := (d + 2, 153, 57, [some (.ref 34), some (.int (nI (a + i))), some (.int v), o3], [], 0, 0, (mSH, I, L))) rfl (by decide) ?_
      refine mB 3 (s2 := (d + 2, 153, 62, [some (.ref 34), some (.int (nI (a + i))), some (.int v), o3], [.int (I 34 12), .int (nI (a + i))], 0, 0, (mSH, I, L))) rfl ?_
      refine mBr (s2 := (d + 2, 153, 83, [some (.ref 34), some (.int (nI (a + i))), some (.int v), o3], [], 0, 0, (mSH, I, L))) (s3 := (d + 2, 153, 65, [some (.ref 34), some (.int (nI (a + i))), some (.int v), o3], [], 0, 0, (mSH, I, L))) rfl (fun c1 => ?_) (fun c1 => ?_)
      · refine mB 7 (s2 := (d + 2, 153, 92, [some (.ref 34), some (.int (nI (a + i))), some (.int v), some (.int 0)], [.int 0, .ref 34], 0, 0, (mSH, (mUp I 34 13 v), L))) rfl ?_
        refine mBT (s2 := (d + 2, 153, 99, [some (.ref 34), some (.int (nI (a + i))), some (.int v), some (.int 0)], [.ref 34], 0, 0, (mSH, (mUp I 34 13 v), L))) rfl (by decide) ?_
        refine mB 4 (s2 := (d + 2, 153, 107, [some (.ref 34), some (.int (nI (a + i))), some (.int v), some (.int 0)], [.int 0], 0, 0, (mSH, (mUp (mUp I 34 13 v) 34 12 (I 34 12)), L))) rfl ?_
        refine mRt (r := (some (.int 0))) (h := (mSH, (mUp (mUp I 34 13 v) 34 12 (I 34 12)), L)) rfl rfl ?_
        exact q0 (Or.inl (fun z => z.2.1 (of_decide_eq_true c0))) (Or.inl (of_decide_eq_true c1))
      · refine mB 5 (s2 := (d + 2, 153, 72, [some (.ref 34), some (.int (nI (a + i))), some (.int v), o3], [.int 3, .int ((nI (a + i)) - (I 34 12))], 0, 0, (mSH, I, L))) rfl ?_
        refine mBr (s2 := (d + 2, 153, 83, [some (.ref 34), some (.int (nI (a + i))), some (.int v), o3], [], 0, 0, (mSH, I, L))) (s3 := (d + 2, 153, 75, [some (.ref 34), some (.int (nI (a + i))), some (.int v), o3], [], 0, 0, (mSH, I, L))) rfl (fun c2 => ?_) (fun c2 => ?_)
        · refine mB 7 (s2 := (d + 2, 153, 92, [some (.ref 34), some (.int (nI (a + i))), some (.int v), some (.int 0)], [.int 0, .ref 34], 0, 0, (mSH, (mUp I 34 13 v), L))) rfl ?_
          refine mBT (s2 := (d + 2, 153, 99, [some (.ref 34), some (.int (nI (a + i))), some (.int v), some (.int 0)], [.ref 34], 0, 0, (mSH, (mUp I 34 13 v), L))) rfl (by decide) ?_
          refine mB 4 (s2 := (d + 2, 153, 107, [some (.ref 34), some (.int (nI (a + i))), some (.int v), some (.int 0)], [.int 0], 0, 0, (mSH, (mUp (mUp I 34 13 v) 34 12 (I 34 12)), L))) rfl ?_
          refine mRt (r := (some (.int 0))) (h := (mSH, (mUp (mUp I 34 13 v) 34 12 (I 34 12)), L)) rfl rfl ?_
          exact q0 (Or.inl (fun z => z.2.1 (of_decide_eq_true c0))) (Or.inr (Or.inl (of_decide_eq_true c2)))
        · refine mB 1 (s2 := (d + 2, 153, 76, [some (.ref 34), some (.int (nI (a + i))), some (.int v), o3], [.int v], 0, 0, (mSH, I, L))) rfl ?_
          refine mBr (s2 := (d + 2, 153, 83, [some (.ref 34), some (.int (nI (a + i))), some (.int v), o3], [], 0, 0, (mSH, I, L))) (s3 := (d + 2, 153, 79, [some (.ref 34), some (.int (nI (a + i))), some (.int v), o3], [], 0, 0, (mSH, I, L))) rfl (fun c3 => ?_) (fun c3 => ?_)
          · refine mB 7 (s2 := (d + 2, 153, 92, [some (.ref 34), some (.int (nI (a + i))), some (.int v), some (.int 0)], [.int 0, .ref 34], 0, 0, (mSH, (mUp I 34 13 v), L))) rfl ?_
            refine mBT (s2 := (d + 2, 153, 99, [some (.ref 34), some (.int (nI (a + i))), some (.int v), some (.int 0)], [.ref 34], 0, 0, (mSH, (mUp I 34 13 v), L))) rfl (by decide) ?_
            refine mB 4 (s2 := (d + 2, 153, 107, [some (.ref 34), some (.int (nI (a + i))), some (.int v), some (.int 0)], [.int 0], 0, 0, (mSH, (mUp (mUp I 34 13 v) 34 12 (I 34 12)), L))) rfl ?_
            refine mRt (r := (some (.int 0))) (h := (mSH, (mUp (mUp I 34 13 v) 34 12 (I 34 12)), L)) rfl rfl ?_
            exact q0 (Or.inl (fun z => z.2.1 (of_decide_eq_true c0))) (Or.inr (Or.inr (of_decide_eq_true c3)))
          · refine mB 8 (s2 := (d + 2, 153, 92, [some (.ref 34), some (.int (nI (a + i))), some (.int v), some (.int 1)], [.int 1, .ref 34], 0, 0, (mSH, (mUp I 34 13 v), L))) rfl ?_
            refine mBF (s3 := (d + 2, 153, 95, [some (.ref 34), some (.int (nI (a + i))), some (.int v), some (.int 1)], [.ref 34], 0, 0, (mSH, (mUp I 34 13 v), L))) rfl (by decide) ?_
            refine mB 4 (s2 := (d + 2, 153, 107, [some (.ref 34), some (.int (nI (a + i))), some (.int v), some (.int 1)], [.int 1], 0, 0, (mSH, (mUp (mUp I 34 13 v) 34 12 (nI (a + i))), L))) rfl ?_
            refine mRt (r := (some (.int 1))) (h := (mSH, (mUp (mUp I 34 13 v) 34 12 (nI (a + i))), L)) rfl rfl ?_
            exact q1 (Or.inl (fun z => z.2.1 (of_decide_eq_true c0))) (of_decide_eq_false c1) (of_decide_eq_false c2) (of_decide_eq_false c3)
    · refine mB 2 (s2 := (d + 1, 112, 7, [some (.int (b (a + i))), some (.int 48), some (.int 57)], [.int 57, .int (b (a + i))], 0, 0, (mSH, I, L))) rfl ?_
      refine mBr (s2 := (d + 1, 112, 14, [some (.int (b (a + i))), some (.int 48), some (.int 57)], [], 0, 0, (mSH, I, L))) (s3 := (d + 1, 112, 10, [some (.int (b (a + i))), some (.int 48), some (.int 57)], [], 0, 0, (mSH, I, L))) rfl (fun c1 => ?_) (fun c1 => ?_)
      · refine mB 1 (s2 := (d + 1, 112, 15, [some (.int (b (a + i))), some (.int 48), some (.int 57)], [.int 0], 0, 0, (mSH, I, L))) rfl ?_
        refine mRt (r := (some (.int 0))) (h := (mSH, I, L)) rfl rfl ?_
        show mWP mTb_ mFT ro (d + 2, 153, 23, [some (.ref 34), some (.int (nI (a + i))), some (.int v), o3], [.int 0], 0, 0, (mSH, I, L)) _
        refine mBT (s2 := (d + 2, 153, 57, [some (.ref 34), some (.int (nI (a + i))), some (.int v), o3], [], 0, 0, (mSH, I, L))) rfl (by decide) ?_
        refine mB 3 (s2 := (d + 2, 153, 62, [some (.ref 34), some (.int (nI (a + i))), some (.int v), o3], [.int (I 34 12), .int (nI (a + i))], 0, 0, (mSH, I, L))) rfl ?_
        refine mBr (s2 := (d + 2, 153, 83, [some (.ref 34), some (.int (nI (a + i))), some (.int v), o3], [], 0, 0, (mSH, I, L))) (s3 := (d + 2, 153, 65, [some (.ref 34), some (.int (nI (a + i))), some (.int v), o3], [], 0, 0, (mSH, I, L))) rfl (fun c2 => ?_) (fun c2 => ?_)
        · refine mB 7 (s2 := (d + 2, 153, 92, [some (.ref 34), some (.int (nI (a + i))), some (.int v), some (.int 0)], [.int 0, .ref 34], 0, 0, (mSH, (mUp I 34 13 v), L))) rfl ?_
          refine mBT (s2 := (d + 2, 153, 99, [some (.ref 34), some (.int (nI (a + i))), some (.int v), some (.int 0)], [.ref 34], 0, 0, (mSH, (mUp I 34 13 v), L))) rfl (by decide) ?_
          refine mB 4 (s2 := (d + 2, 153, 107, [some (.ref 34), some (.int (nI (a + i))), some (.int v), some (.int 0)], [.int 0], 0, 0, (mSH, (mUp (mUp I 34 13 v) 34 12 (I 34 12)), L))) rfl ?_
          refine mRt (r := (some (.int 0))) (h := (mSH, (mUp (mUp I 34 13 v) 34 12 (I 34 12)), L)) rfl rfl ?_
          exact q0 (Or.inl (fun z => z.2.2 (of_decide_eq_true c1))) (Or.inl (of_decide_eq_true c2))
        · refine mB 5 (s2 := (d + 2, 153, 72, [some (.ref 34), some (.int (nI (a + i))), some (.int v), o3], [.int 3, .int ((nI (a + i)) - (I 34 12))], 0, 0, (mSH, I, L))) rfl ?_
          refine mBr (s2 := (d + 2, 153, 83, [some (.ref 34), some (.int (nI (a + i))), some (.int v), o3], [], 0, 0, (mSH, I, L))) (s3 := (d + 2, 153, 75, [some (.ref 34), some (.int (nI (a + i))), some (.int v), o3], [], 0, 0, (mSH, I, L))) rfl (fun c3 => ?_) (fun c3 => ?_)
          · refine mB 7 (s2 := (d + 2, 153, 92, [some (.ref 34), some (.int (nI (a + i))), some (.int v), some (.int 0)], [.int 0, .ref 34], 0, 0, (mSH, (mUp I 34 13 v), L))) rfl ?_
            refine mBT (s2 := (d + 2, 153, 99, [some (.ref 34), some (.int (nI (a + i))), some (.int v), some (.int 0)], [.ref 34], 0, 0, (mSH, (mUp I 34 13 v), L))) rfl (by decide) ?_
            refine mB 4 (s2 := (d + 2, 153, 107, [some (.ref 34), some (.int (nI (a + i))), some (.int v), some (.int 0)], [.int 0], 0, 0, (mSH, (mUp (mUp I 34 13 v) 34 12 (I 34 12)), L))) rfl ?_
            refine mRt (r := (some (.int 0))) (h := (mSH, (mUp (mUp I 34 13 v) 34 12 (I 34 12)), L)) rfl rfl ?_
            exact q0 (Or.inl (fun z => z.2.2 (of_decide_eq_true c1))) (Or.inr (Or.inl (of_decide_eq_true c3)))
          · refine mB 1 (s2 := (d + 2, 153, 76, [some (.ref 34), some (.int (nI (a + i))), some (.int v), o3], [.int v], 0, 0, (mSH, I, L))) rfl ?_
            refine mBr (s2 := (d + 2, 153, 83, [some (.ref 34), some (.int (nI (a + i))), some (.int v), o3], [], 0, 0, (mSH, I, L))) (s3 := (d + 2, 153, 79, [some (.ref 34), some (.int (nI (a + i))), some (.int v), o3], [], 0, 0, (mSH, I, L))) rfl (fun c4 => ?_) (fun c4 => ?_)
            · refine mB 7 (s2 := (d + 2, 153, 92, [some (.ref 34), some (.int (nI (a + i))), some (.int v), some (.int 0)], [.int 0, .ref 34], 0, 0, (mSH, (mUp I 34 13 v), L))) rfl ?_
              refine mBT (s2 := (d + 2, 153, 99, [some (.ref 34), some (.int (nI (a + i))), some (.int v), some (.int 0)], [.ref 34], 0, 0, (mSH, (mUp I 34 13 v), L))) rfl (by decide) ?_
              refine mB 4 (s2 := (d + 2, 153, 107, [some (.ref 34), some (.int (nI (a + i))), some (.int v), some (.int 0)], [.int 0], 0, 0, (mSH, (mUp (mUp I 34 13 v) 34 12 (I 34 12)), L))) rfl ?_
              refine mRt (r := (some (.int 0))) (h := (mSH, (mUp (mUp I 34 13 v) 34 12 (I 34 12)), L)) rfl rfl ?_
              exact q0 (Or.inl (fun z => z.2.2 (of_decide_eq_true c1))) (Or.inr (Or.inr (of_decide_eq_true c4)))
            · refine mB 8 (s2 := (d + 2, 153, 92, [some (.ref 34), some (.int (nI (a + i))), some (.int v), some (.int 1)], [.int 1, .ref 34], 0, 0, (mSH, (mUp I 34 13 v), L))) rfl ?_
              refine mBF (s3 := (d + 2, 153, 95, [some (.ref 34), some (.int (nI (a + i))), some (.int v), some (.int 1)], [.ref 34], 0, 0, (mSH, (mUp I 34 13 v), L))) rfl (by decide) ?_
              refine mB 4 (s2 := (d + 2, 153, 107, [some (.ref 34), some (.int (nI (a + i))), some (.int v), some (.int 1)], [.int 1], 0, 0, (mSH, (mUp (mUp I 34 13 v) 34 12 (nI (a + i))), L))) rfl ?_
              refine mRt (r := (some (.int 1))) (h := (mSH, (mUp (mUp I 34 13 v) 34 12 (nI (a + i))), L)) rfl rfl ?_
              exact q1 (Or.inl (fun z => z.2.2 (of_decide_eq_true c1))) (of_decide_eq_false c2) (of_decide_eq_false c3) (of_decide_eq_false c4)
      · refine mB 2 (s2 := (d + 1, 112, 15, [some (.int (b (a + i))), some (.int 48), some (.int 57)], [.int 1], 0, 0, (mSH, I, L))) rfl ?_
        refine mRt (r := (some (.int 1))) (h := (mSH, I, L)) rfl rfl ?_
        show mWP mTb_ mFT ro (d + 2, 153, 23, [some (.ref 34), some (.int (nI (a + i))), some (.int v), o3], [.int 1], 0, 0, (mSH, I, L)) _
        refine mBF (s3 := (d + 2, 153, 26, [some (.ref 34), some (.int (nI (a + i))), some (.int v), o3], [], 0, 0, (mSH, I, L))) rfl (by decide) ?_
        refine mB 5 (s2 := (d + 2, 153, 33, [some (.ref 34), some (.int (nI (a + i))), some (.int v), o3], [.int 3, .int ((nI (a + i)) - (I 34 12))], 0, 0, (mSH, I, L))) rfl ?_
        refine mBr (s2 := (d + 2, 153, 57, [some (.ref 34), some (.int (nI (a + i))), some (.int v), o3], [], 0, 0, (mSH, I, L))) (s3 := (d + 2, 153, 36, [some (.ref 34), some (.int (nI (a + i))), some (.int v), o3], [], 0, 0, (mSH, I, L))) rfl (fun c2 => ?_) (fun c2 => ?_)
        · refine mB 3 (s2 := (d + 2, 153, 62, [some (.ref 34), some (.int (nI (a + i))), some (.int v), o3], [.int (I 34 12), .int (nI (a + i))], 0, 0, (mSH, I, L))) rfl ?_
          refine mBr (s2 := (d + 2, 153, 83, [some (.ref 34), some (.int (nI (a + i))), some (.int v), o3], [], 0, 0, (mSH, I, L))) (s3 := (d + 2, 153, 65, [some (.ref 34), some (.int (nI (a + i))), some (.int v), o3], [], 0, 0, (mSH, I, L))) rfl (fun c3 => ?_) (fun c3 => ?_)
          · refine mB 7 (s2 := (d + 2, 153, 92, [some (.ref 34), some (.int (nI (a + i))), some (.int v), some (.int 0)], [.int 0, .ref 34], 0, 0, (mSH, (mUp I 34 13 v), L))) rfl ?_
            refine mBT (s2 := (d + 2, 153, 99, [some (.ref 34), some (.int (nI (a + i))), some (.int v), some (.int 0)], [.ref 34], 0, 0, (mSH, (mUp I 34 13 v), L))) rfl (by decide) ?_
            refine mB 4 (s2 := (d + 2, 153, 107, [some (.ref 34), some (.int (nI (a + i))), some (.int v), some (.int 0)], [.int 0], 0, 0, (mSH, (mUp (mUp I 34 13 v) 34 12 (I 34 12)), L))) rfl ?_
            refine mRt (r := (some (.int 0))) (h := (mSH, (mUp (mUp I 34 13 v) 34 12 (I 34 12)), L)) rfl rfl ?_
            exact q0 (Or.inr (of_decide_eq_true c2)) (Or.inl (of_decide_eq_true c3))
          · refine mB 5 (s2 := (d + 2, 153, 72, [some (.ref 34), some (.int (nI (a + i))), some (.int v), o3], [.int 3, .int ((nI (a + i)) - (I 34 12))], 0, 0, (mSH, I, L))) rfl ?_
            refine mBT (c := decide ((3 : Int32) ≤ ((nI (a + i)) - (I 34 12)))) (s2 := (d + 2, 153, 83, [some (.ref 34), some (.int (nI (a + i))), some (.int v), o3], [], 0, 0, (mSH, I, L))) rfl (decide_eq_true (by have a0 := of_decide_eq_false c0; have a1 := of_decide_eq_false c1; have a2 := of_decide_eq_true c2; simp only [Int32.lt_iff_toInt_lt, Int32.le_iff_toInt_le, ← Int32.toInt_inj, mLi0, mLi1, mLi2, mLi3, mLi4, mLi5, mLi6, mLi7, mLi8, mLi9, mLi10, mLi16, mLi32, mLi48, mLi57, mLi59, mLi65, mLi90, mLi97, mLi99, mLi120, mLi122, mLi127, mLi1584, mLi999999, mLim] at a0 a1 a2 ⊢; omega)) ?_
            refine mB 7 (s2 := (d + 2, 153, 92, [some (.ref 34), some (.int (nI (a + i))), some (.int v), some (.int 0)], [.int 0, .ref 34], 0, 0, (mSH, (mUp I 34 13 v), L))) rfl ?_
            refine mBT (s2 := (d + 2, 153, 99, [some (.ref 34), some (.int (nI (a + i))), some (.int v), some (.int 0)], [.ref 34], 0, 0, (mSH, (mUp I 34 13 v), L))) rfl (by decide) ?_
            refine mB 4 (s2 := (d + 2, 153, 107, [some (.ref 34), some (.int (nI (a + i))), some (.int v), some (.int 0)], [.int 0], 0, 0, (mSH, (mUp (mUp I 34 13 v) 34 12 (I 34 12)), L))) rfl ?_
            refine mRt (r := (some (.int 0))) (h := (mSH, (mUp (mUp I 34 13 v) 34 12 (I 34 12)), L)) rfl rfl ?_
            exact q0 (Or.inr (of_decide_eq_true c2)) (Or.inr (Or.inl (of_decide_eq_true c2)))
        · refine mB 6 (s2 := (d + 2, 153, 45, [some (.ref 34), some (.int (nI (a + i))), some (.int v), o3], [.int (nI (a + i)), .ref 40, .int (10 * v)], 0, 0, (mSH, I, L))) rfl ?_
          refine mRq (s2 := (d + 2, 153, 46, [some (.ref 34), some (.int (nI (a + i))), some (.int v), o3], [.int (I 40 ((nI (a + i)).toNatClampNeg)), .int (10 * v)], 0, 0, (mSH, I, L))) rfl (mVp_of (vp_in_nI (by have := hm.2.2.1.2; omega) (by omega))) ?_
          refine mB 6 (s2 := (d + 2, 153, 11, [some (.ref 34), some (.int ((nI (a + i)) + 1)), some (.int (((10 * v) + (I 40 ((nI (a + i)).toNatClampNeg))) - 48)), o3], [], 0, 0, (mSH, I, L))) rfl ?_
          exact ih ⟨l1, (of_decide_eq_false c0), (of_decide_eq_false c1)⟩ (of_decide_eq_false c2)
theorem l_ynb {ro : Nat → Nat × (Nat → Int32)} {Q : mPo} {d : Nat} {I : Nat → Nat → Int32} {L : Nat → Nat → Int64} {s n t : Nat} {a : Nat} {b : Nat → Int32} (hm : mM s n t I) (hb : I 40 = b) (hat : I 34 12 = nI a) (ha : a ≤ 1000) (q0 : kNum b t a = none → ∀ v, Q (some (.int 0)) (mSH, mUp (mUp I 34 13 v) 34 12 (nI a), L)) (q1 : ∀ v e, kNum b t a = some (v, e) → mYR v → Q (some (.int 1)) (mSH, mUp (mUp I 34 13 v) 34 12 (nI e), L)) : ∀ (g i : Nat), i + g = 3 → ∀ (o3 : Option Value), (∀ k, k < i → kDg b t (a + k)) → mWP mTb_ mFT ro (d + 2, 153, 11, [some (.ref 34), some (.int (nI (a + i))), some (.int (kVl b a i)), o3], [], 0, 0, (mSH, I, L)) Q := by
  have sub : ∀ i, nI (a + i) - I 34 12 = nI i := fun i => by
    rw [hat, pk_sub (by omega)]
    congr 1
    omega
  have le3 : ∀ i, i ≤ 3 → ((3 : Int32) ≤ nI (a + i) - I 34 12 ↔ 3 ≤ i) := fun i hi => by
    rw [sub]
    exact nI_leI (a := 3) (b := i) (by omega) (by omega)
  have le0 : ∀ i, i ≤ 3 → (nI (a + i) ≤ I 34 12 ↔ i = 0) := fun i hi => by
    rw [hat, nI_leI (by omega) (by omega)]
    omega
  intro g
  induction g with
  | zero =>
    intro i hi o3 h
    refine z_nb hm hb (by omega) (fun x y => ?_) (fun x y z w => ?_) (fun x y => ?_)
    · rw [hat]
      refine q0 (kNb_0 (by omega) h (x.imp id (le3 i (by omega)).mp) ?_) _
      rcases y with y | y | y
      · exact Or.inl ((le0 i (by omega)).mp y)
      · exact Or.inr (Or.inl ((le3 i (by omega)).mp y))
      · exact Or.inr (Or.inr y)
    · have k := kNb_1 h (x.imp id (le3 i (by omega)).mp) (fun e => y ((le0 i (by omega)).mpr e)) (by have := mt (le3 i (by omega)).mpr z; omega) w
      exact q1 _ _ k.1 k.2
    · have := mt (le3 i (by omega)).mpr y
      omega
  | succ g ih =>
    intro i hi o3 h
    refine z_nb hm hb (by omega) (fun x y => ?_) (fun x y z w => ?_) (fun x y => ?_)
    · rw [hat]
      refine q0 (kNb_0 (by omega) h (x.imp id (le3 i (by omega)).mp) ?_) _
      rcases y with y | y | y
      · exact Or.inl ((le0 i (by omega)).mp y)
      · exact Or.inr (Or.inl ((le3 i (by omega)).mp y))
      · exact Or.inr (Or.inr y)
    · have k := kNb_1 h (x.imp id (le3 i (by omega)).mp) (fun e => y ((le0 i (by omega)).mpr e)) (by have := mt (le3 i (by omega)).mpr z; omega) w
      exact q1 _ _ k.1 k.2
    · rw [nI_clamp (by omega), nI_1, hb]
      exact ih (i + 1) (by omega) _ (fun k hk => by
        rcases Nat.lt_or_ge k i with z | z
        · exact h k z
        · have e : k = i := by omega
          rw [e]
          exact x)
theorem y_isn {ro : Nat → Nat × (Nat → Int32)} {Q : mPo} {d : Nat} {I : Nat → Nat → Int32} {L : Nat → Nat → Int64} {s n t : Nat} {a : Nat} {b : Nat → Int32} (hm : mM s n t I) (hb : I 40 = b) (hat : I 34 12 = nI a) (ha : a ≤ 200) (hS : kS b t a = a) (q0 : kNum b t a = none → ∀ v, Q (some (.int 0)) (mSH, mUp (mUp I 34 13 v) 34 12 (nI a), L)) (q1 : ∀ v e, kNum b t a = some (v, e) → mYR v → Q (some (.int 1)) (mSH, mUp (mUp I 34 13 v) 34 12 (nI e), L))   : mWP mTb_ mFT ro (d + 2, 153, 0, [some (.ref 34), none, none, none], [], 0, 0, (mSH, I, L)) Q := by
  refine mB 1 (s2 := (d + 2, 153, 1, [some (.ref 34), none, none, none], [.ref 34], 0, 0, (mSH, I, L))) rfl ?_
  refine mCall (s2 := (d + 1, 152, 0, [some (.ref 34)], [], 0, 0, (mSH, I, L))) rfl ?_
  refine y_skips (a := a) hm hb hat (by omega) ?_; rw [hS]
  show mWP mTb_ mFT ro (d + 2, 153, 4, [some (.ref 34), none, none, none], [], 0, 0, (mSH, (mUp I 34 12 (nI a)), L)) _
  refine mB 5 (s2 := (d + 2, 153, 11, [some (.ref 34), some (.int (nI a)), some (.int 0), none], [], 0, 0, (mSH, (mUp I 34 12 (nI a)), L))) rfl ?_
  exact l_ynb (I := mUp I 34 12 (nI a)) (a := a) hm hb rfl (by omega) (fun k v => by rw [mUp_312]; exact q0 k v) (fun v e k y => by rw [mUp_312]; exact q1 v e k y) 3 0 rfl _ (fun k hk => absurd hk (Nat.not_lt_zero k))
theorem x59c {n : Nat} (c : ¬ nI n ≤ 0) : 0 < n := by
  rcases Nat.eq_zero_or_pos n with e | e
  · subst e
    exact absurd (by decide) c
  · exact e
theorem z_ns_42 {ro : Nat → Nat × (Nat → Int32)} {Q : mPo} {d : Nat} {I : Nat → Nat → Int32} {L : Nat → Nat → Int64} {s n t : Nat} {a c : Nat} {b : Nat → Int32} (hm : mM s n t I) (hb : I 40 = b) (hat : I 34 12 = nI a) (ha : a ≤ 120) (hs : (kS b t a) ≤ 120) (h120 : t ≤ 120) (hc : c ≤ 16) (p1 : 0 < c → (kS b t a) < t → b (kS b t a) = 59 → Q (some (.int (nI c))) (mSH, mUp (mUp I 34 12 (nI (kS b t a))) 34 12 (nI (kS b t a) + 1), L)) (p0 : ¬ (0 < c ∧ (kS b t a) < t ∧ b (kS b t a) = 59) → (c = 16 ∨ kNum b t (kS b t a) = none) → ∀ I1, mNr 42 I I1 → I1 34 12 = nI (kS b t a) → Q (some (.int (-1))) (mSH, I1, L)) (ih : ¬ (0 < c ∧ (kS b t a) < t ∧ b (kS b t a) = 59) → c < 16 → ∀ v e, kNum b t (kS b t a) = some (v, e) → mYR v → mWP mTb_ mFT ro (d + 3, 155, 2, [some (.ref 34), some (.ref 42), some (.int 16), some (.int (nI c + 1))], [], 0, 0, (mSH, (mUp (mUp (mUp (mUp I 34 12 (nI (kS b t a))) 34 13 v) 34 12 (nI e)) 42 ((nI c).toNatClampNeg) v), L)) Q)   : mWP mTb_ mFT ro (d + 3, 155, 2, [some (.ref 34), some (.ref 42), some (.int 16), some (.int (nI c))], [], 0, 0, (mSH, I, L)) Q := by
  refine mB 1 (s2 := (d + 3, 155, 3, [some (.ref 34), some (.ref 42), some (.int 16), some (.int (nI c))], [.ref 34], 0, 0, (mSH, I, L))) rfl ?_
  refine mCall (s2 := (d + 2, 152, 0, [some (.ref 34)], [], 0, 0, (mSH, I, L))) rfl ?_
  refine y_skips (hm) hb hat (by omega) ?_
  show mWP mTb_ mFT ro (d + 3, 155, 6, [some (.ref 34), some (.ref 42), some (.int 16), some (.int (nI c))], [], 0, 0, (mSH, (mUp I 34 12 (nI (kS b t a))), L)) _
  refine mB 1 (s2 := (d + 3, 155, 7, [some (.ref 34), some (.ref 42), some (.int 16), some (.int (nI c))], [.int (nI c)], 0, 0, (mSH, (mUp I 34 12 (nI (kS b t a))), L))) rfl ?_
  refine mBr (s2 := (d + 3, 155, 35, [some (.ref 34), some (.ref 42), some (.int 16), some (.int (nI c))], [], 0, 0, (mSH, (mUp I 34 12 (nI (kS b t a))), L))) (s3 := (d + 3, 155, 10, [some (.ref 34), some (.ref 42), some (.int 16), some (.int (nI c))], [], 0, 0, (mSH, (mUp I 34 12 (nI (kS b t a))), L))) rfl (fun c0 => ?_) (fun c0 => ?_)
  · refine mB 2 (s2 := (d + 3, 155, 37, [some (.ref 34), some (.ref 42), some (.int 16), some (.int (nI c))], [.int 16, .int (nI c)], 0, 0, (mSH, (mUp I 34 12 (nI (kS b t a))), L))) rfl ?_
    refine mBF (c := decide ((nI c) = 16)) (s3 := (d + 3, 155, 40, [some (.ref 34), some (.ref 42), some (.int 16), some (.int (nI c))], [], 0, 0, (mSH, (mUp I 34 12 (nI (kS b t a))), L))) rfl (decide_eq_false (by have a0 := of_decide_eq_true c0; simp only [Int32.lt_iff_toInt_lt, Int32.le_iff_toInt_le, ← Int32.toInt_inj, mLi0, mLi1, mLi2, mLi3, mLi4, mLi5, mLi6, mLi7, mLi8, mLi9, mLi10, mLi16, mLi32, mLi48, mLi57, mLi59, mLi65, mLi90, mLi97, mLi99, mLi120, mLi122, mLi127, mLi1584, mLi999999, mLim] at a0 ⊢; omega)) ?_
    refine mB 1 (s2 := (d + 3, 155, 41, [some (.ref 34), some (.ref 42), some (.int 16), some (.int (nI c))], [.ref 34], 0, 0, (mSH, (mUp I 34 12 (nI (kS b t a))), L))) rfl ?_
    refine mCall (s2 := (d + 2, 153, 0, [some (.ref 34), none, none, none], [], 0, 0, (mSH, (mUp I 34 12 (nI (kS b t a))), L))) rfl ?_
    refine y_isn (a := (kS b t a)) hm hb rfl (by omega) (kS_idem (by omega)) ?_ ?_
    · intro kn v
      show mWP mTb_ mFT ro (d + 3, 155, 44, [some (.ref 34), some (.ref 42), some (.int 16), some (.int (nI c))], [.int 0], 0, 0, (mSH, (mUp (mUp (mUp I 34 12 (nI (kS b t a))) 34 13 v) 34 12 (nI (kS b t a))), L)) _
      refine mBT (s2 := (d + 3, 155, 47, [some (.ref 34), some (.ref 42), some (.int 16), some (.int (nI c))], [], 0, 0, (mSH, (mUp (mUp (mUp I 34 12 (nI (kS b t a))) 34 13 v) 34 12 (nI (kS b t a))), L))) rfl (by decide) ?_
      refine mB 1 (s2 := (d + 3, 155, 48, [some (.ref 34), some (.ref 42), some (.int 16), some (.int (nI c))], [.int (-1)], 0, 0, (mSH, (mUp (mUp (mUp I 34 12 (nI (kS b t a))) 34 13 v) 34 12 (nI (kS b t a))), L))) rfl ?_
      refine mRt (r := (some (.int (-1)))) (h := (mSH, (mUp (mUp (mUp I 34 12 (nI (kS b t a))) 34 13 v) 34 12 (nI (kS b t a))), L)) rfl (mRet_int rfl) ?_
      exact p0 (fun z => nI_nle z.1 (by omega) (of_decide_eq_true c0)) (Or.inr kn) _ (mNr.uf (by omega) (mNr.uf (by omega) (mNr.uf (by omega) mNr.rf))) rfl
    · intro v e kn yv
      show mWP mTb_ mFT ro (d + 3, 155, 44, [some (.ref 34), some (.ref 42), some (.int 16), some (.int (nI c))], [.int 1], 0, 0, (mSH, (mUp (mUp (mUp I 34 12 (nI (kS b t a))) 34 13 v) 34 12 (nI e)), L)) _
      refine mBF (s3 := (d + 3, 155, 49, [some (.ref 34), some (.ref 42), some (.int 16), some (.int (nI c))], [], 0, 0, (mSH, (mUp (mUp (mUp I 34 12 (nI (kS b t a))) 34 13 v) 34 12 (nI e)), L))) rfl (by decide) ?_
      refine mB 4 (s2 := (d + 3, 155, 55, [some (.ref 34), some (.ref 42), some (.int 16), some (.int (nI c))], [.int v, .int (nI c), .ref 42], 0, 0, (mSH, (mUp (mUp (mUp I 34 12 (nI (kS b t a))) 34 13 v) 34 12 (nI e)), L))) rfl ?_
      refine mRq (s2 := (d + 3, 155, 56, [some (.ref 34), some (.ref 42), some (.int 16), some (.int (nI c))], [], 0, 0, (mSH, (mUp (mUp (mUp (mUp I 34 12 (nI (kS b t a))) 34 13 v) 34 12 (nI e)) 42 ((nI c).toNatClampNeg) v), L))) rfl (mVp_of (vp_in_nI (Nat.lt_of_lt_of_le (mLt0 (by omega) (of_decide_eq_true c0)) (by omega)) (by omega))) ?_
      refine mB 2 (s2 := (d + 3, 155, 2, [some (.ref 34), some (.ref 42), some (.int 16), some (.int ((nI c) + 1))], [], 0, 0, (mSH, (mUp (mUp (mUp (mUp I 34 12 (nI (kS b t a))) 34 13 v) 34 12 (nI e)) 42 ((nI c).toNatClampNeg) v), L))) rfl ?_
      exact ih (fun z => nI_nle z.1 (by omega) (of_decide_eq_true c0)) (Nat.lt_of_lt_of_le (mLt0 (by omega) (of_decide_eq_true c0)) (by omega)) v e kn yv
  · refine mB 3 (s2 := (d + 3, 155, 15, [some (.ref 34), some (.ref 42), some (.int 16), some (.int (nI c))], [.int (nI (kS b t a)), .ref 34], 0, 0, (mSH, (mUp I 34 12 (nI (kS b t a))), L))) rfl ?_
    refine mCall (s2 := (d + 2, 151, 0, [some (.ref 34), some (.int (nI (kS b t a)))], [], 0, 0, (mSH, (mUp I 34 12 (nI (kS b t a))), L))) rfl ?_
    refine y_byte (k := kS b t a) hb (hm) rfl (by omega) ?_ ?_
    · intro l1
      show mWP mTb_ mFT ro (d + 3, 155, 18, [some (.ref 34), some (.ref 42), some (.int 16), some (.int (nI c))], [.int (-1)], 0, 0, (mSH, (mUp I 34 12 (nI (kS b t a))), L)) _
      refine mB 1 (s2 := (d + 3, 155, 20, [some (.ref 34), some (.ref 42), some (.int 16), some (.int (nI c))], [.int 59, .int (-1)], 0, 0, (mSH, (mUp I 34 12 (nI (kS b t a))), L))) rfl ?_
      refine mBF (s3 := (d + 3, 155, 35, [some (.ref 34), some (.ref 42), some (.int 16), some (.int (nI c))], [], 0, 0, (mSH, (mUp I 34 12 (nI (kS b t a))), L))) rfl (by decide) ?_
      refine mB 2 (s2 := (d + 3, 155, 37, [some (.ref 34), some (.ref 42), some (.int 16), some (.int (nI c))], [.int 16, .int (nI c)], 0, 0, (mSH, (mUp I 34 12 (nI (kS b t a))), L))) rfl ?_
      refine mBr (s2 := (d + 3, 155, 47, [some (.ref 34), some (.ref 42), some (.int 16), some (.int (nI c))], [], 0, 0, (mSH, (mUp I 34 12 (nI (kS b t a))), L))) (s3 := (d + 3, 155, 40, [some (.ref 34), some (.ref 42), some (.int 16), some (.int (nI c))], [], 0, 0, (mSH, (mUp I 34 12 (nI (kS b t a))), L))) rfl (fun c1 => ?_) (fun c1 => ?_)
      · refine mB 1 (s2 := (d + 3, 155, 48, [some (.ref 34), some (.ref 42), some (.int 16), some (.int (nI c))], [.int (-1)], 0, 0, (mSH, (mUp I 34 12 (nI (kS b t a))), L))) rfl ?_
        refine mRt (r := (some (.int (-1)))) (h := (mSH, (mUp I 34 12 (nI (kS b t a))), L)) rfl (mRet_int rfl) ?_
        exact p0 (fun z => l1 z.2.1) (Or.inl (by have := (nI_eq (a := c) (b := 16) (by omega) (by omega)).mp (of_decide_eq_true c1); exact this)) _ (mNr.uf (by omega) mNr.rf) rfl
      · refine mB 1 (s2 := (d + 3, 155, 41, [some (.ref 34), some (.ref 42), some (.int 16), some (.int (nI c))], [.ref 34], 0, 0, (mSH, (mUp I 34 12 (nI (kS b t a))), L))) rfl ?_
        refine mCall (s2 := (d + 2, 153, 0, [some (.ref 34), none, none, none], [], 0, 0, (mSH, (mUp I 34 12 (nI (kS b t a))), L))) rfl ?_
        refine y_isn (a := (kS b t a)) hm hb rfl (by omega) (kS_idem (by omega)) ?_ ?_
        · intro kn v
          show mWP mTb_ mFT ro (d + 3, 155, 44, [some (.ref 34), some (.ref 42), some (.int 16), some (.int (nI c))], [.int 0], 0, 0, (mSH, (mUp (mUp (mUp I 34 12 (nI (kS b t a))) 34 13 v) 34 12 (nI (kS b t a))), L)) _
          refine mBT (s2 := (d + 3, 155, 47, [some (.ref 34), some (.ref 42), some (.int 16), some (.int (nI c))], [], 0, 0, (mSH, (mUp (mUp (mUp I 34 12 (nI (kS b t a))) 34 13 v) 34 12 (nI (kS b t a))), L))) rfl (by decide) ?_
          refine mB 1 (s2 := (d + 3, 155, 48, [some (.ref 34), some (.ref 42), some (.int 16), some (.int (nI c))], [.int (-1)], 0, 0, (mSH, (mUp (mUp (mUp I 34 12 (nI (kS b t a))) 34 13 v) 34 12 (nI (kS b t a))), L))) rfl ?_
          refine mRt (r := (some (.int (-1)))) (h := (mSH, (mUp (mUp (mUp I 34 12 (nI (kS b t a))) 34 13 v) 34 12 (nI (kS b t a))), L)) rfl (mRet_int rfl) ?_
          exact p0 (fun z => l1 z.2.1) (Or.inr kn) _ (mNr.uf (by omega) (mNr.uf (by omega) (mNr.uf (by omega) mNr.rf))) rfl
        · intro v e kn yv
          show mWP mTb_ mFT ro (d + 3, 155, 44, [some (.ref 34), some (.ref 42), some (.int 16), some (.int (nI c))], [.int 1], 0, 0, (mSH, (mUp (mUp (mUp I 34 12 (nI (kS b t a))) 34 13 v) 34 12 (nI e)), L)) _
          refine mBF (s3 := (d + 3, 155, 49, [some (.ref 34), some (.ref 42), some (.int 16), some (.int (nI c))], [], 0, 0, (mSH, (mUp (mUp (mUp I 34 12 (nI (kS b t a))) 34 13 v) 34 12 (nI e)), L))) rfl (by decide) ?_
          refine mB 4 (s2 := (d + 3, 155, 55, [some (.ref 34), some (.ref 42), some (.int 16), some (.int (nI c))], [.int v, .int (nI c), .ref 42], 0, 0, (mSH, (mUp (mUp (mUp I 34 12 (nI (kS b t a))) 34 13 v) 34 12 (nI e)), L))) rfl ?_
          refine mRq (s2 := (d + 3, 155, 56, [some (.ref 34), some (.ref 42), some (.int 16), some (.int (nI c))], [], 0, 0, (mSH, (mUp (mUp (mUp (mUp I 34 12 (nI (kS b t a))) 34 13 v) 34 12 (nI e)) 42 ((nI c).toNatClampNeg) v), L))) rfl (mVp_of (vp_in_nI (mLtn (k := c) (N := 16) rfl hc (by omega) (of_decide_eq_false c1)) (by omega))) ?_
          refine mB 2 (s2 := (d + 3, 155, 2, [some (.ref 34), some (.ref 42), some (.int 16), some (.int ((nI c) + 1))], [], 0, 0, (mSH, (mUp (mUp (mUp (mUp I 34 12 (nI (kS b t a))) 34 13 v) 34 12 (nI e)) 42 ((nI c).toNatClampNeg) v), L))) rfl ?_
          exact ih (fun z => l1 z.2.1) (mLtn (k := c) (N := 16) rfl hc (by omega) (of_decide_eq_false c1)) v e kn yv
    · intro l1
      show mWP mTb_ mFT ro (d + 3, 155, 18, [some (.ref 34), some (.ref 42), some (.int 16), some (.int (nI c))], [.int (b (kS b t a))], 0, 0, (mSH, (mUp I 34 12 (nI (kS b t a))), L)) _
      refine mB 1 (s2 := (d + 3, 155, 20, [some (.ref 34), some (.ref 42), some (.int 16), some (.int (nI c))], [.int 59, .int (b (kS b t a))], 0, 0, (mSH, (mUp I 34 12 (nI (kS b t a))), L))) rfl ?_
      refine mBr (s2 := (d + 3, 155, 23, [some (.ref 34), some (.ref 42), some (.int 16), some (.int (nI c))], [], 0, 0, (mSH, (mUp I 34 12 (nI (kS b t a))), L))) (s3 := (d + 3, 155, 35, [some (.ref 34), some (.ref 42), some (.int 16), some (.int (nI c))], [], 0, 0, (mSH, (mUp I 34 12 (nI (kS b t a))), L))) rfl (fun c1 => ?_) (fun c1 => ?_)
      · refine mB 7 (s2 := (d + 3, 155, 34, [some (.ref 34), some (.ref 42), some (.int 16), some (.int (nI c))], [.int (nI c)], 0, 0, (mSH, (mUp (mUp I 34 12 (nI (kS b t a))) 34 12 ((nI (kS b t a)) + 1)), L))) rfl ?_
        refine mRt (r := (some (.int (nI c)))) (h := (mSH, (mUp (mUp I 34 12 (nI (kS b t a))) 34 12 ((nI (kS b t a)) + 1)), L)) rfl (mRet_int rfl) ?_
        exact p1 (x59c (of_decide_eq_false c0)) l1 (of_decide_eq_true c1)
      · refine mB 2 (s2 := (d + 3, 155, 37, [some (.ref 34), some (.ref 42), some (.int 16), some (.int (nI c))], [.int 16, .int (nI c)], 0, 0, (mSH, (mUp I 34 12 (nI (kS b t a))), L))) rfl ?_
        refine mBr (s2 := (d + 3, 155, 47, [some (.ref 34), some (.ref 42), some (.int 16), some (.int (nI c))], [], 0, 0, (mSH, (mUp I 34 12 (nI (kS b t a))), L))) (s3 := (d + 3, 155, 40, [some (.ref 34), some (.ref 42), some (.int 16), some (.int (nI c))], [], 0, 0, (mSH, (mUp I 34 12 (nI (kS b t a))), L))) rfl (fun c2 => ?_) (fun c2 => ?_)
        · refine mB 1 (s2 := (d + 3, 155, 48, [some (.ref 34), some (.ref 42), some (.int 16), some (.int (nI c))], [.int (-1)], 0, 0, (mSH, (mUp I 34 12 (nI (kS b t a))), L))) rfl ?_
          refine mRt (r := (some (.int (-1)))) (h := (mSH, (mUp I 34 12 (nI (kS b t a))), L)) rfl (mRet_int rfl) ?_
          exact p0 (fun z => (of_decide_eq_false c1) z.2.2) (Or.inl (by have := (nI_eq (a := c) (b := 16) (by omega) (by omega)).mp (of_decide_eq_true c2); exact this)) _ (mNr.uf (by omega) mNr.rf) rfl
        · refine mB 1 (s2 := (d + 3, 155, 41, [some (.ref 34), some (.ref 42), some (.int 16), some (.int (nI c))], [.ref 34], 0, 0, (mSH, (mUp I 34 12 (nI (kS b t a))), L))) rfl ?_
          refine mCall (s2 := (d + 2, 153, 0, [some (.ref 34), none, none, none], [], 0, 0, (mSH, (mUp I 34 12 (nI (kS b t a))), L))) rfl ?_
          refine y_isn (a := (kS b t a)) hm hb rfl (by omega) (kS_idem (by omega)) ?_ ?_
          · intro kn v
            show mWP mTb_ mFT ro (d + 3, 155, 44, [some (.ref 34), some (.ref 42), some (.int 16), some (.int (nI c))], [.int 0], 0, 0, (mSH, (mUp (mUp (mUp I 34 12 (nI (kS b t a))) 34 13 v) 34 12 (nI (kS b t a))), L)) _
            refine mBT (s2 := (d + 3, 155, 47, [some (.ref 34), some (.ref 42), some (.int 16), some (.int (nI c))], [], 0, 0, (mSH, (mUp (mUp (mUp I 34 12 (nI (kS b t a))) 34 13 v) 34 12 (nI (kS b t a))), L))) rfl (by decide) ?_
            refine mB 1 (s2 := (d + 3, 155, 48, [some (.ref 34), some (.ref 42), some (.int 16), some (.int (nI c))], [.int (-1)], 0, 0, (mSH, (mUp (mUp (mUp I 34 12 (nI (kS b t a))) 34 13 v) 34 12 (nI (kS b t a))), L))) rfl ?_
            refine mRt (r := (some (.int (-1)))) (h := (mSH, (mUp (mUp (mUp I 34 12 (nI (kS b t a))) 34 13 v) 34 12 (nI (kS b t a))), L)) rfl (mRet_int rfl) ?_
            exact p0 (fun z => (of_decide_eq_false c1) z.2.2) (Or.inr kn) _ (mNr.uf (by omega) (mNr.uf (by omega) (mNr.uf (by omega) mNr.rf))) rfl
          · intro v e kn yv
            show mWP mTb_ mFT ro (d + 3, 155, 44, [some (.ref 34), some (.ref 42), some (.int 16), some (.int (nI c))], [.int 1], 0, 0, (mSH, (mUp (mUp (mUp I 34 12 (nI (kS b t a))) 34 13 v) 34 12 (nI e)), L)) _
            refine mBF (s3 := (d + 3, 155, 49, [some (.ref 34), some (.ref 42), some (.int 16), some (.int (nI c))], [], 0, 0, (mSH, (mUp (mUp (mUp I 34 12 (nI (kS b t a))) 34 13 v) 34 12 (nI e)), L))) rfl (by decide) ?_
            refine mB 4 (s2 := (d + 3, 155, 55, [some (.ref 34), some (.ref 42), some (.int 16), some (.int (nI c))], [.int v, .int (nI c), .ref 42], 0, 0, (mSH, (mUp (mUp (mUp I 34 12 (nI (kS b t a))) 34 13 v) 34 12 (nI e)), L))) rfl ?_
            refine mRq (s2 := (d + 3, 155, 56, [some (.ref 34), some (.ref 42), some (.int 16), some (.int (nI c))], [], 0, 0, (mSH, (mUp (mUp (mUp (mUp I 34 12 (nI (kS b t a))) 34 13 v) 34 12 (nI e)) 42 ((nI c).toNatClampNeg) v), L))) rfl (mVp_of (vp_in_nI (mLtn (k := c) (N := 16) rfl hc (by omega) (of_decide_eq_false c2)) (by omega))) ?_
            refine mB 2 (s2 := (d + 3, 155, 2, [some (.ref 34), some (.ref 42), some (.int 16), some (.int ((nI c) + 1))], [], 0, 0, (mSH, (mUp (mUp (mUp (mUp I 34 12 (nI (kS b t a))) 34 13 v) 34 12 (nI e)) 42 ((nI c).toNatClampNeg) v), L))) rfl ?_
            exact ih (fun z => (of_decide_eq_false c1) z.2.2) (mLtn (k := c) (N := 16) rfl hc (by omega) (of_decide_eq_false c2)) v e kn yv
theorem l_yns_42 {ro : Nat → Nat × (Nat → Int32)} {Q : mPo} {d : Nat} {L : Nat → Nat → Int64} {s n t : Nat} {b : Nat → Int32} : ∀ (m : Nat) (l : List Int32) (I : Nat → Nat → Int32) (a : Nat), l.length + m = 17 → l.length ≤ 16 → mM s n t I → I 40 = b → I 34 12 = nI a → a ≤ 120 → (∀ j, j < l.length → I 42 j = l.getD j 0) → (∀ j, j < l.length → mYR (I 42 j)) → (kNums b t 16 m a l = none → ∀ I1 a', mNr 42 I I1 → a' ≤ 120 → I1 34 12 = nI a' → Q (some (.int (-1))) (mSH, I1, L)) → (∀ l' e, kNums b t 16 m a l = some (l', e) → e ≤ 120 → l'.length ≤ 16 → ∀ I1, mNr 42 I I1 → I1 34 12 = nI e → (∀ j, j < l'.length → I1 42 j = l'.getD j 0) → (∀ j, j < l'.length → mYR (I1 42 j)) → Q (some (.int (nI l'.length))) (mSH, I1, L)) → mWP mTb_ mFT ro (d + 3, 155, 2, [some (.ref 34), some (.ref 42), some (.int 16), some (.int (nI l.length))], [], 0, 0, (mSH, I, L)) Q := by
  intro m
  induction m with
  | zero =>
    intro l I a h1 h2
    omega
  | succ m ih =>
    intro l I a h1 h2 hm hb hat ha hl hy q0 q1
    have h120 := hm.2.2.1.2
    have hS : kS b t a ≤ 120 := by
      have := kSk_le (b := b) (t := t) 200 a
      rw [kS_e]
      omega
    refine z_ns_42 hm hb hat ha hS h120 h2 (fun c1 c2 c3 => ?_) (fun n5 h I1 f1 f2 => q0 ?_ I1 _ f1 hS f2) (fun n5 lt v e kn yv => ?_)
    · refine q1 l (kS b t a + 1) ?_ (by omega) h2 _ (mNr.uf (by omega) (mNr.uf (by omega) mNr.rf)) ?_ hl hy
      · unfold kNums
        rw [if_pos ⟨c1, c2, c3⟩]
      · rw [mUp_same, nI_1]
    · unfold kNums
      rw [if_neg n5]
      rcases h with h | h
      · rw [if_pos h]
      · rw [h]
        split <;> rfl
    · have un : kNums b t 16 (m + 1) a l = kNums b t 16 m e (l ++ [v]) := by
        conv => lhs; unfold kNums
        rw [if_neg n5, if_neg (by omega), kn]
      have ele : e ≤ t := kNum_t kn
      have ll : (l ++ [v]).length = l.length + 1 := by rw [List.length_append]; rfl
      rw [nI_1, ← ll, nI_clamp (n := l.length) (by omega)]
      have fr : mNr 42 I (mUp (mUp (mUp (mUp I 34 12 (nI (kS b t a))) 34 13 v) 34 12 (nI e)) 42 l.length v) := mNr.uq (by omega) (mNr.uf (by omega) (mNr.uf (by omega) (mNr.uf (by omega) mNr.rf)))
      refine ih (l ++ [v]) _ e (by rw [ll]; omega) (by rw [ll]; exact lt) hm hb rfl (by omega) (fun j hj => ?_) (fun j hj => ?_) (fun k I1 a' f1 f2 f3 => q0 (un.trans k) I1 a' (fr.tr f1) f2 f3) (fun l' e' k h3 h4 I1 f1 f2 f3 f4 => q1 l' e' (un.trans k) h3 h4 I1 (fr.tr f1) f2 f3 f4)
      · rw [ll] at hj
        rcases Nat.lt_or_ge j l.length with z | z
        · rw [mUp_oth (by omega)]
          simp only [List.getD_eq_getElem?_getD]
          rw [List.getElem?_append_left z]
          have h := hl j z
          simp only [List.getD_eq_getElem?_getD] at h
          exact h
        · have ej : j = l.length := by omega
          rw [ej, mUp_same]
          simp only [List.getD_eq_getElem?_getD]
          rw [List.getElem?_append_right (Nat.le_refl _), Nat.sub_self]
          rfl
      · rw [ll] at hj
        rcases Nat.lt_or_ge j l.length with z | z
        · rw [mUp_oth (by omega)]
          exact hy j z
        · have ej : j = l.length := by omega
          rw [ej, mUp_same]
          exact yv
theorem y_ns_42 {ro : Nat → Nat × (Nat → Int32)} {Q : mPo} {d : Nat} {L : Nat → Nat → Int64} {s n t : Nat} {I : Nat → Nat → Int32} {a : Nat} {b : Nat → Int32} (hm : mM s n t I) (hb : I 40 = b) (hat : I 34 12 = nI a) (ha : a ≤ 120) (q0 : kNums b t 16 17 a [] = none → ∀ I1 a', mNr 42 I I1 → a' ≤ 120 → I1 34 12 = nI a' → Q (some (.int (-1))) (mSH, I1, L)) (q1 : ∀ l' e, kNums b t 16 17 a [] = some (l', e) → e ≤ 120 → l'.length ≤ 16 → ∀ I1, mNr 42 I I1 → I1 34 12 = nI e → (∀ j, j < l'.length → I1 42 j = l'.getD j 0) → (∀ j, j < l'.length → mYR (I1 42 j)) → Q (some (.int (nI l'.length))) (mSH, I1, L)) : mWP mTb_ mFT ro (d + 3, 155, 0, [some (.ref 34), some (.ref 42), some (.int 16), none], [], 0, 0, (mSH, I, L)) Q :=
  mB 2 (s2 := (d + 3, 155, 2, [some (.ref 34), some (.ref 42), some (.int 16), some (.int (nI ([] : List Int32).length))], [], 0, 0, (mSH, I, L))) rfl (l_yns_42 17 [] I a rfl (Nat.zero_le _) hm hb hat ha (fun j hj => absurd hj (Nat.not_lt_zero j)) (fun j hj => absurd hj (Nat.not_lt_zero j)) q0 q1)
theorem z_ns_43 {ro : Nat → Nat × (Nat → Int32)} {Q : mPo} {d : Nat} {I : Nat → Nat → Int32} {L : Nat → Nat → Int64} {s n t : Nat} {a c : Nat} {b : Nat → Int32} (hm : mM s n t I) (hb : I 40 = b) (hat : I 34 12 = nI a) (ha : a ≤ 120) (hs : (kS b t a) ≤ 120) (h120 : t ≤ 120) (hc : c ≤ 8) (p1 : 0 < c → (kS b t a) < t → b (kS b t a) = 59 → Q (some (.int (nI c))) (mSH, mUp (mUp I 34 12 (nI (kS b t a))) 34 12 (nI (kS b t a) + 1), L)) (p0 : ¬ (0 < c ∧ (kS b t a) < t ∧ b (kS b t a) = 59) → (c = 8 ∨ kNum b t (kS b t a) = none) → ∀ I1, mNr 43 I I1 → I1 34 12 = nI (kS b t a) → Q (some (.int (-1))) (mSH, I1, L)) (ih : ¬ (0 < c ∧ (kS b t a) < t ∧ b (kS b t a) = 59) → c < 8 → ∀ v e, kNum b t (kS b t a) = some (v, e) → mYR v → mWP mTb_ mFT ro (d + 3, 155, 2, [some (.ref 34), some (.ref 43), some (.int 8), some (.int (nI c + 1))], [], 0, 0, (mSH, (mUp (mUp (mUp (mUp I 34 12 (nI (kS b t a))) 34 13 v) 34 12 (nI e)) 43 ((nI c).toNatClampNeg) v), L)) Q)   : mWP mTb_ mFT ro (d + 3, 155, 2, [some (.ref 34), some (.ref 43), some (.int 8), some (.int (nI c))], [], 0, 0, (mSH, I, L)) Q := by
  refine mB 1 (s2 := (d + 3, 155, 3, [some (.ref 34), some (.ref 43), some (.int 8), some (.int (nI c))], [.ref 34], 0, 0, (mSH, I, L))) rfl ?_
  refine mCall (s2 := (d + 2, 152, 0, [some (.ref 34)], [], 0, 0, (mSH, I, L))) rfl ?_
  refine y_skips (hm) hb hat (by omega) ?_
  show mWP mTb_ mFT ro (d + 3, 155, 6, [some (.ref 34), some (.ref 43), some (.int 8), some (.int (nI c))], [], 0, 0, (mSH, (mUp I 34 12 (nI (kS b t a))), L)) _
  refine mB 1 (s2 := (d + 3, 155, 7, [some (.ref 34), some (.ref 43), some (.int 8), some (.int (nI c))], [.int (nI c)], 0, 0, (mSH, (mUp I 34 12 (nI (kS b t a))), L))) rfl ?_
  refine mBr (s2 := (d + 3, 155, 35, [some (.ref 34), some (.ref 43), some (.int 8), some (.int (nI c))], [], 0, 0, (mSH, (mUp I 34 12 (nI (kS b t a))), L))) (s3 := (d + 3, 155, 10, [some (.ref 34), some (.ref 43), some (.int 8), some (.int (nI c))], [], 0, 0, (mSH, (mUp I 34 12 (nI (kS b t a))), L))) rfl (fun c0 => ?_) (fun c0 => ?_)
  · refine mB 2 (s2 := (d + 3, 155, 37, [some (.ref 34), some (.ref 43), some (.int 8), some (.int (nI c))], [.int 8, .int (nI c)], 0, 0, (mSH, (mUp I 34 12 (nI (kS b t a))), L))) rfl ?_
    refine mBF (c := decide ((nI c) = 8)) (s3 := (d + 3, 155, 40, [some (.ref 34), some (.ref 43), some (.int 8), some (.int (nI c))], [], 0, 0, (mSH, (mUp I 34 12 (nI (kS b t a))), L))) rfl (decide_eq_false (by have a0 := of_decide_eq_true c0; simp only [Int32.lt_iff_toInt_lt, Int32.le_iff_toInt_le, ← Int32.toInt_inj, mLi0, mLi1, mLi2, mLi3, mLi4, mLi5, mLi6, mLi7, mLi8, mLi9, mLi10, mLi16, mLi32, mLi48, mLi57, mLi59, mLi65, mLi90, mLi97, mLi99, mLi120, mLi122, mLi127, mLi1584, mLi999999, mLim] at a0 ⊢; omega)) ?_
    refine mB 1 (s2 := (d + 3, 155, 41, [some (.ref 34), some (.ref 43), some (.int 8), some (.int (nI c))], [.ref 34], 0, 0, (mSH, (mUp I 34 12 (nI (kS b t a))), L))) rfl ?_
    refine mCall (s2 := (d + 2, 153, 0, [some (.ref 34), none, none, none], [], 0, 0, (mSH, (mUp I 34 12 (nI (kS b t a))), L))) rfl ?_
    refine y_isn (a := (kS b t a)) hm hb rfl (by omega) (kS_idem (by omega)) ?_ ?_
    · intro kn v
      show mWP mTb_ mFT ro (d + 3, 155, 44, [some (.ref 34), some (.ref 43), some (.int 8), some (.int (nI c))], [.int 0], 0, 0, (mSH, (mUp (mUp (mUp I 34 12 (nI (kS b t a))) 34 13 v) 34 12 (nI (kS b t a))), L)) _
      refine mBT (s2 := (d + 3, 155, 47, [some (.ref 34), some (.ref 43), some (.int 8), some (.int (nI c))], [], 0, 0, (mSH, (mUp (mUp (mUp I 34 12 (nI (kS b t a))) 34 13 v) 34 12 (nI (kS b t a))), L))) rfl (by decide) ?_
      refine mB 1 (s2 := (d + 3, 155, 48, [some (.ref 34), some (.ref 43), some (.int 8), some (.int (nI c))], [.int (-1)], 0, 0, (mSH, (mUp (mUp (mUp I 34 12 (nI (kS b t a))) 34 13 v) 34 12 (nI (kS b t a))), L))) rfl ?_
      refine mRt (r := (some (.int (-1)))) (h := (mSH, (mUp (mUp (mUp I 34 12 (nI (kS b t a))) 34 13 v) 34 12 (nI (kS b t a))), L)) rfl (mRet_int rfl) ?_
      exact p0 (fun z => nI_nle z.1 (by omega) (of_decide_eq_true c0)) (Or.inr kn) _ (mNr.uf (by omega) (mNr.uf (by omega) (mNr.uf (by omega) mNr.rf))) rfl
    · intro v e kn yv
      show mWP mTb_ mFT ro (d + 3, 155, 44, [some (.ref 34), some (.ref 43), some (.int 8), some (.int (nI c))], [.int 1], 0, 0, (mSH, (mUp (mUp (mUp I 34 12 (nI (kS b t a))) 34 13 v) 34 12 (nI e)), L)) _
      refine mBF (s3 := (d + 3, 155, 49, [some (.ref 34), some (.ref 43), some (.int 8), some (.int (nI c))], [], 0, 0, (mSH, (mUp (mUp (mUp I 34 12 (nI (kS b t a))) 34 13 v) 34 12 (nI e)), L))) rfl (by decide) ?_
      refine mB 4 (s2 := (d + 3, 155, 55, [some (.ref 34), some (.ref 43), some (.int 8), some (.int (nI c))], [.int v, .int (nI c), .ref 43], 0, 0, (mSH, (mUp (mUp (mUp I 34 12 (nI (kS b t a))) 34 13 v) 34 12 (nI e)), L))) rfl ?_
      refine mRq (s2 := (d + 3, 155, 56, [some (.ref 34), some (.ref 43), some (.int 8), some (.int (nI c))], [], 0, 0, (mSH, (mUp (mUp (mUp (mUp I 34 12 (nI (kS b t a))) 34 13 v) 34 12 (nI e)) 43 ((nI c).toNatClampNeg) v), L))) rfl (mVp_of (vp_in_nI (Nat.lt_of_lt_of_le (mLt0 (by omega) (of_decide_eq_true c0)) (by omega)) (by omega))) ?_
      refine mB 2 (s2 := (d + 3, 155, 2, [some (.ref 34), some (.ref 43), some (.int 8), some (.int ((nI c) + 1))], [], 0, 0, (mSH, (mUp (mUp (mUp (mUp I 34 12 (nI (kS b t a))) 34 13 v) 34 12 (nI e)) 43 ((nI c).toNatClampNeg) v), L))) rfl ?_
      exact ih (fun z => nI_nle z.1 (by omega) (of_decide_eq_true c0)) (Nat.lt_of_lt_of_le (mLt0 (by omega) (of_decide_eq_true c0)) (by omega)) v e kn yv
  · refine mB 3 (s2 := (d + 3, 155, 15, [some (.ref 34), some (.ref 43), some (.int 8), some (.int (nI c))], [.int (nI (kS b t a)), .ref 34], 0, 0, (mSH, (mUp I 34 12 (nI (kS b t a))), L))) rfl ?_
    refine mCall (s2 := (d + 2, 151, 0, [some (.ref 34), some (.int (nI (kS b t a)))], [], 0, 0, (mSH, (mUp I 34 12 (nI (kS b t a))), L))) rfl ?_
    refine y_byte (k := kS b t a) hb (hm) rfl (by omega) ?_ ?_
    · intro l1
      show mWP mTb_ mFT ro (d + 3, 155, 18, [some (.ref 34), some (.ref 43), some (.int 8), some (.int (nI c))], [.int (-1)], 0, 0, (mSH, (mUp I 34 12 (nI (kS b t a))), L)) _
      refine mB 1 (s2 := (d + 3, 155, 20, [some (.ref 34), some (.ref 43), some (.int 8), some (.int (nI c))], [.int 59, .int (-1)], 0, 0, (mSH, (mUp I 34 12 (nI (kS b t a))), L))) rfl ?_
      refine mBF (s3 := (d + 3, 155, 35, [some (.ref 34), some (.ref 43), some (.int 8), some (.int (nI c))], [], 0, 0, (mSH, (mUp I 34 12 (nI (kS b t a))), L))) rfl (by decide) ?_
      refine mB 2 (s2 := (d + 3, 155, 37, [some (.ref 34), some (.ref 43), some (.int 8), some (.int (nI c))], [.int 8, .int (nI c)], 0, 0, (mSH, (mUp I 34 12 (nI (kS b t a))), L))) rfl ?_
      refine mBr (s2 := (d + 3, 155, 47, [some (.ref 34), some (.ref 43), some (.int 8), some (.int (nI c))], [], 0, 0, (mSH, (mUp I 34 12 (nI (kS b t a))), L))) (s3 := (d + 3, 155, 40, [some (.ref 34), some (.ref 43), some (.int 8), some (.int (nI c))], [], 0, 0, (mSH, (mUp I 34 12 (nI (kS b t a))), L))) rfl (fun c1 => ?_) (fun c1 => ?_)
      · refine mB 1 (s2 := (d + 3, 155, 48, [some (.ref 34), some (.ref 43), some (.int 8), some (.int (nI c))], [.int (-1)], 0, 0, (mSH, (mUp I 34 12 (nI (kS b t a))), L))) rfl ?_
        refine mRt (r := (some (.int (-1)))) (h := (mSH, (mUp I 34 12 (nI (kS b t a))), L)) rfl (mRet_int rfl) ?_
        exact p0 (fun z => l1 z.2.1) (Or.inl (by have := (nI_eq (a := c) (b := 8) (by omega) (by omega)).mp (of_decide_eq_true c1); exact this)) _ (mNr.uf (by omega) mNr.rf) rfl
      · refine mB 1 (s2 := (d + 3, 155, 41, [some (.ref 34), some (.ref 43), some (.int 8), some (.int (nI c))], [.ref 34], 0, 0, (mSH, (mUp I 34 12 (nI (kS b t a))), L))) rfl ?_
        refine mCall (s2 := (d + 2, 153, 0, [some (.ref 34), none, none, none], [], 0, 0, (mSH, (mUp I 34 12 (nI (kS b t a))), L))) rfl ?_
        refine y_isn (a := (kS b t a)) hm hb rfl (by omega) (kS_idem (by omega)) ?_ ?_
        · intro kn v
          show mWP mTb_ mFT ro (d + 3, 155, 44, [some (.ref 34), some (.ref 43), some (.int 8), some (.int (nI c))], [.int 0], 0, 0, (mSH, (mUp (mUp (mUp I 34 12 (nI (kS b t a))) 34 13 v) 34 12 (nI (kS b t a))), L)) _
          refine mBT (s2 := (d + 3, 155, 47, [some (.ref 34), some (.ref 43), some (.int 8), some (.int (nI c))], [], 0, 0, (mSH, (mUp (mUp (mUp I 34 12 (nI (kS b t a))) 34 13 v) 34 12 (nI (kS b t a))), L))) rfl (by decide) ?_
          refine mB 1 (s2 := (d + 3, 155, 48, [some (.ref 34), some (.ref 43), some (.int 8), some (.int (nI c))], [.int (-1)], 0, 0, (mSH, (mUp (mUp (mUp I 34 12 (nI (kS b t a))) 34 13 v) 34 12 (nI (kS b t a))), L))) rfl ?_
          refine mRt (r := (some (.int (-1)))) (h := (mSH, (mUp (mUp (mUp I 34 12 (nI (kS b t a))) 34 13 v) 34 12 (nI (kS b t a))), L)) rfl (mRet_int rfl) ?_
          exact p0 (fun z => l1 z.2.1) (Or.inr kn) _ (mNr.uf (by omega) (mNr.uf (by omega) (mNr.uf (by omega) mNr.rf))) rfl
        · intro v e kn yv
          show mWP mTb_ mFT ro (d + 3, 155, 44, [some (.ref 34), some (.ref 43), some (.int 8), some (.int (nI c))], [.int 1], 0, 0, (mSH, (mUp (mUp (mUp I 34 12 (nI (kS b t a))) 34 13 v) 34 12 (nI e)), L)) _
          refine mBF (s3 := (d + 3, 155, 49, [some (.ref 34), some (.ref 43), some (.int 8), some (.int (nI c))], [], 0, 0, (mSH, (mUp (mUp (mUp I 34 12 (nI (kS b t a))) 34 13 v) 34 12 (nI e)), L))) rfl (by decide) ?_
          refine mB 4 (s2 := (d + 3, 155, 55, [some (.ref 34), some (.ref 43), some (.int 8), some (.int (nI c))], [.int v, .int (nI c), .ref 43], 0, 0, (mSH, (mUp (mUp (mUp I 34 12 (nI (kS b t a))) 34 13 v) 34 12 (nI e)), L))) rfl ?_
          refine mRq (s2 := (d + 3, 155, 56, [some (.ref 34), some (.ref 43), some (.int 8), some (.int (nI c))], [], 0, 0, (mSH, (mUp (mUp (mUp (mUp I 34 12 (nI (kS b t a))) 34 13 v) 34 12 (nI e)) 43 ((nI c).toNatClampNeg) v), L))) rfl (mVp_of (vp_in_nI (mLtn (k := c) (N := 8) rfl hc (by omega) (of_decide_eq_false c1)) (by omega))) ?_
          refine mB 2 (s2 := (d + 3, 155, 2, [some (.ref 34), some (.ref 43), some (.int 8), some (.int ((nI c) + 1))], [], 0, 0, (mSH, (mUp (mUp (mUp (mUp I 34 12 (nI (kS b t a))) 34 13 v) 34 12 (nI e)) 43 ((nI c).toNatClampNeg) v), L))) rfl ?_
          exact ih (fun z => l1 z.2.1) (mLtn (k := c) (N := 8) rfl hc (by omega) (of_decide_eq_false c1)) v e kn yv
    · intro l1
      show mWP mTb_ mFT ro (d + 3, 155, 18, [some (.ref 34), some (.ref 43), some (.int 8), some (.int (nI c))], [.int (b (kS b t a))], 0, 0, (mSH, (mUp I 34 12 (nI (kS b t a))), L)) _
      refine mB 1 (s2 := (d + 3, 155, 20, [some (.ref 34), some (.ref 43), some (.int 8), some (.int (nI c))], [.int 59, .int (b (kS b t a))], 0, 0, (mSH, (mUp I 34 12 (nI (kS b t a))), L))) rfl ?_
      refine mBr (s2 := (d + 3, 155, 23, [some (.ref 34), some (.ref 43), some (.int 8), some (.int (nI c))], [], 0, 0, (mSH, (mUp I 34 12 (nI (kS b t a))), L))) (s3 := (d + 3, 155, 35, [some (.ref 34), some (.ref 43), some (.int 8), some (.int (nI c))], [], 0, 0, (mSH, (mUp I 34 12 (nI (kS b t a))), L))) rfl (fun c1 => ?_) (fun c1 => ?_)
      · refine mB 7 (s2 := (d + 3, 155, 34, [some (.ref 34), some (.ref 43), some (.int 8), some (.int (nI c))], [.int (nI c)], 0, 0, (mSH, (mUp (mUp I 34 12 (nI (kS b t a))) 34 12 ((nI (kS b t a)) + 1)), L))) rfl ?_
        refine mRt (r := (some (.int (nI c)))) (h := (mSH, (mUp (mUp I 34 12 (nI (kS b t a))) 34 12 ((nI (kS b t a)) + 1)), L)) rfl (mRet_int rfl) ?_
        exact p1 (x59c (of_decide_eq_false c0)) l1 (of_decide_eq_true c1)
      · refine mB 2 (s2 := (d + 3, 155, 37, [some (.ref 34), some (.ref 43), some (.int 8), some (.int (nI c))], [.int 8, .int (nI c)], 0, 0, (mSH, (mUp I 34 12 (nI (kS b t a))), L))) rfl ?_
        refine mBr (s2 := (d + 3, 155, 47, [some (.ref 34), some (.ref 43), some (.int 8), some (.int (nI c))], [], 0, 0, (mSH, (mUp I 34 12 (nI (kS b t a))), L))) (s3 := (d + 3, 155, 40, [some (.ref 34), some (.ref 43), some (.int 8), some (.int (nI c))], [], 0, 0, (mSH, (mUp I 34 12 (nI (kS b t a))), L))) rfl (fun c2 => ?_) (fun c2 => ?_)
        · refine mB 1 (s2 := (d + 3, 155, 48, [some (.ref 34), some (.ref 43), some (.int 8), some (.int (nI c))], [.int (-1)], 0, 0, (mSH, (mUp I 34 12 (nI (kS b t a))), L))) rfl ?_
          refine mRt (r := (some (.int (-1)))) (h := (mSH, (mUp I 34 12 (nI (kS b t a))), L)) rfl (mRet_int rfl) ?_
          exact p0 (fun z => (of_decide_eq_false c1) z.2.2) (Or.inl (by have := (nI_eq (a := c) (b := 8) (by omega) (by omega)).mp (of_decide_eq_true c2); exact this)) _ (mNr.uf (by omega) mNr.rf) rfl
        · refine mB 1 (s2 := (d + 3, 155, 41, [some (.ref 34), some (.ref 43), some (.int 8), some (.int (nI c))], [.ref 34], 0, 0, (mSH, (mUp I 34 12 (nI (kS b t a))), L))) rfl ?_
          refine mCall (s2 := (d + 2, 153, 0, [some (.ref 34), none, none, none], [], 0, 0, (mSH, (mUp I 34 12 (nI (kS b t a))), L))) rfl ?_
          refine y_isn (a := (kS b t a)) hm hb rfl (by omega) (kS_idem (by omega)) ?_ ?_
          · intro kn v
            show mWP mTb_ mFT ro (d + 3, 155, 44, [some (.ref 34), some (.ref 43), some (.int 8), some (.int (nI c))], [.int 0], 0, 0, (mSH, (mUp (mUp (mUp I 34 12 (nI (kS b t a))) 34 13 v) 34 12 (nI (kS b t a))), L)) _
            refine mBT (s2 := (d + 3, 155, 47, [some (.ref 34), some (.ref 43), some (.int 8), some (.int (nI c))], [], 0, 0, (mSH, (mUp (mUp (mUp I 34 12 (nI (kS b t a))) 34 13 v) 34 12 (nI (kS b t a))), L))) rfl (by decide) ?_
            refine mB 1 (s2 := (d + 3, 155, 48, [some (.ref 34), some (.ref 43), some (.int 8), some (.int (nI c))], [.int (-1)], 0, 0, (mSH, (mUp (mUp (mUp I 34 12 (nI (kS b t a))) 34 13 v) 34 12 (nI (kS b t a))), L))) rfl ?_
            refine mRt (r := (some (.int (-1)))) (h := (mSH, (mUp (mUp (mUp I 34 12 (nI (kS b t a))) 34 13 v) 34 12 (nI (kS b t a))), L)) rfl (mRet_int rfl) ?_
            exact p0 (fun z => (of_decide_eq_false c1) z.2.2) (Or.inr kn) _ (mNr.uf (by omega) (mNr.uf (by omega) (mNr.uf (by omega) mNr.rf))) rfl
          · intro v e kn yv
            show mWP mTb_ mFT ro (d + 3, 155, 44, [some (.ref 34), some (.ref 43), some (.int 8), some (.int (nI c))], [.int 1], 0, 0, (mSH, (mUp (mUp (mUp I 34 12 (nI (kS b t a))) 34 13 v) 34 12 (nI e)), L)) _
            refine mBF (s3 := (d + 3, 155, 49, [some (.ref 34), some (.ref 43), some (.int 8), some (.int (nI c))], [], 0, 0, (mSH, (mUp (mUp (mUp I 34 12 (nI (kS b t a))) 34 13 v) 34 12 (nI e)), L))) rfl (by decide) ?_
            refine mB 4 (s2 := (d + 3, 155, 55, [some (.ref 34), some (.ref 43), some (.int 8), some (.int (nI c))], [.int v, .int (nI c), .ref 43], 0, 0, (mSH, (mUp (mUp (mUp I 34 12 (nI (kS b t a))) 34 13 v) 34 12 (nI e)), L))) rfl ?_
            refine mRq (s2 := (d + 3, 155, 56, [some (.ref 34), some (.ref 43), some (.int 8), some (.int (nI c))], [], 0, 0, (mSH, (mUp (mUp (mUp (mUp I 34 12 (nI (kS b t a))) 34 13 v) 34 12 (nI e)) 43 ((nI c).toNatClampNeg) v), L))) rfl (mVp_of (vp_in_nI (mLtn (k := c) (N := 8) rfl hc (by omega) (of_decide_eq_false c2)) (by omega))) ?_
            refine mB 2 (s2 := (d + 3, 155, 2, [some (.ref 34), some (.ref 43), some (.int 8), some (.int ((nI c) + 1))], [], 0, 0, (mSH, (mUp (mUp (mUp (mUp I 34 12 (nI (kS b t a))) 34 13 v) 34 12 (nI e)) 43 ((nI c).toNatClampNeg) v), L))) rfl ?_
            exact ih (fun z => (of_decide_eq_false c1) z.2.2) (mLtn (k := c) (N := 8) rfl hc (by omega) (of_decide_eq_false c2)) v e kn yv
theorem l_yns_43 {ro : Nat → Nat × (Nat → Int32)} {Q : mPo} {d : Nat} {L : Nat → Nat → Int64} {s n t : Nat} {b : Nat → Int32} : ∀ (m : Nat) (l : List Int32) (I : Nat → Nat → Int32) (a : Nat), l.length + m = 17 → l.length ≤ 8 → mM s n t I → I 40 = b → I 34 12 = nI a → a ≤ 120 → (∀ j, j < l.length → I 43 j = l.getD j 0) → (∀ j, j < l.length → mYR (I 43 j)) → (kNums b t 8 m a l = none → ∀ I1 a', mNr 43 I I1 → a' ≤ 120 → I1 34 12 = nI a' → Q (some (.int (-1))) (mSH, I1, L)) → (∀ l' e, kNums b t 8 m a l = some (l', e) → e ≤ 120 → l'.length ≤ 8 → ∀ I1, mNr 43 I I1 → I1 34 12 = nI e → (∀ j, j < l'.length → I1 43 j = l'.getD j 0) → (∀ j, j < l'.length → mYR (I1 43 j)) → Q (some (.int (nI l'.length))) (mSH, I1, L)) → mWP mTb_ mFT ro (d + 3, 155, 2, [some (.ref 34), some (.ref 43), some (.int 8), some (.int (nI l.length))], [], 0, 0, (mSH, I, L)) Q := by
  intro m
  induction m with
  | zero =>
    intro l I a h1 h2
    omega
  | succ m ih =>
    intro l I a h1 h2 hm hb hat ha hl hy q0 q1
    have h120 := hm.2.2.1.2
    have hS : kS b t a ≤ 120 := by
      have := kSk_le (b := b) (t := t) 200 a
      rw [kS_e]
      omega
    refine z_ns_43 hm hb hat ha hS h120 h2 (fun c1 c2 c3 => ?_) (fun n5 h I1 f1 f2 => q0 ?_ I1 _ f1 hS f2) (fun n5 lt v e kn yv => ?_)
    · refine q1 l (kS b t a + 1) ?_ (by omega) h2 _ (mNr.uf (by omega) (mNr.uf (by omega) mNr.rf)) ?_ hl hy
      · unfold kNums
        rw [if_pos ⟨c1, c2, c3⟩]
      · rw [mUp_same, nI_1]
    · unfold kNums
      rw [if_neg n5]
      rcases h with h | h
      · rw [if_pos h]
      · rw [h]
        split <;> rfl
    · have un : kNums b t 8 (m + 1) a l = kNums b t 8 m e (l ++ [v]) := by
        conv => lhs; unfold kNums
        rw [if_neg n5, if_neg (by omega), kn]
      have ele : e ≤ t := kNum_t kn
      have ll : (l ++ [v]).length = l.length + 1 := by rw [List.length_append]; rfl
      rw [nI_1, ← ll, nI_clamp (n := l.length) (by omega)]
      have fr : mNr 43 I (mUp (mUp (mUp (mUp I 34 12 (nI (kS b t a))) 34 13 v) 34 12 (nI e)) 43 l.length v) := mNr.uq (by omega) (mNr.uf (by omega) (mNr.uf (by omega) (mNr.uf (by omega) mNr.rf)))
      refine ih (l ++ [v]) _ e (by rw [ll]; omega) (by rw [ll]; exact lt) hm hb rfl (by omega) (fun j hj => ?_) (fun j hj => ?_) (fun k I1 a' f1 f2 f3 => q0 (un.trans k) I1 a' (fr.tr f1) f2 f3) (fun l' e' k h3 h4 I1 f1 f2 f3 f4 => q1 l' e' (un.trans k) h3 h4 I1 (fr.tr f1) f2 f3 f4)
      · rw [ll] at hj
        rcases Nat.lt_or_ge j l.length with z | z
        · rw [mUp_oth (by omega)]
          simp only [List.getD_eq_getElem?_getD]
          rw [List.getElem?_append_left z]
          have h := hl j z
          simp only [List.getD_eq_getElem?_getD] at h
          exact h
        · have ej : j = l.length := by omega
          rw [ej, mUp_same]
          simp only [List.getD_eq_getElem?_getD]
          rw [List.getElem?_append_right (Nat.le_refl _), Nat.sub_self]
          rfl
      · rw [ll] at hj
        rcases Nat.lt_or_ge j l.length with z | z
        · rw [mUp_oth (by omega)]
          exact hy j z
        · have ej : j = l.length := by omega
          rw [ej, mUp_same]
          exact yv
theorem y_ns_43 {ro : Nat → Nat × (Nat → Int32)} {Q : mPo} {d : Nat} {L : Nat → Nat → Int64} {s n t : Nat} {I : Nat → Nat → Int32} {a : Nat} {b : Nat → Int32} (hm : mM s n t I) (hb : I 40 = b) (hat : I 34 12 = nI a) (ha : a ≤ 120) (q0 : kNums b t 8 17 a [] = none → ∀ I1 a', mNr 43 I I1 → a' ≤ 120 → I1 34 12 = nI a' → Q (some (.int (-1))) (mSH, I1, L)) (q1 : ∀ l' e, kNums b t 8 17 a [] = some (l', e) → e ≤ 120 → l'.length ≤ 8 → ∀ I1, mNr 43 I I1 → I1 34 12 = nI e → (∀ j, j < l'.length → I1 43 j = l'.getD j 0) → (∀ j, j < l'.length → mYR (I1 43 j)) → Q (some (.int (nI l'.length))) (mSH, I1, L)) : mWP mTb_ mFT ro (d + 3, 155, 0, [some (.ref 34), some (.ref 43), some (.int 8), none], [], 0, 0, (mSH, I, L)) Q :=
  mB 2 (s2 := (d + 3, 155, 2, [some (.ref 34), some (.ref 43), some (.int 8), some (.int (nI ([] : List Int32).length))], [], 0, 0, (mSH, I, L))) rfl (l_yns_43 17 [] I a rfl (Nat.zero_le _) hm hb hat ha (fun j hj => absurd hj (Nat.not_lt_zero j)) (fun j hj => absurd hj (Nat.not_lt_zero j)) q0 q1)
