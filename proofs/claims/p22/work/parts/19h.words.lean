/-! The model reads words. Written by a program (wip/mk_c.py). -/
theorem s_byte {ro : Nat → Nat × (Nat → Int32)} {Q : mPo} {d : Nat} {I : Nat → Nat → Int32} {L : Nat → Nat → Int64} {x : Int32}  (h1 : ((I 34 11) ≤ x) → Q (some (.int (-1))) (mSH, I, L)) (h2 : ¬ ((I 34 11) ≤ x) → vp_in x 120) (h3 : ¬ ((I 34 11) ≤ x) → Q (some (.int (I 40 x.toNatClampNeg))) (mSH, I, L)) : mWP mTb_ mFT ro (d, 151, 0, [some (.ref 34), some (.int x)], [], 0, 0, (mSH, I, L)) Q := by
  refine mB 3 (s2 := (d, 151, 5, [some (.ref 34), some (.int x)], [.int (I 34 11), .int x], 0, 0, (mSH, I, L))) rfl ?_
  refine mBr (s2 := (d, 151, 17, [some (.ref 34), some (.int x)], [], 0, 0, (mSH, I, L))) (s3 := (d, 151, 8, [some (.ref 34), some (.int x)], [], 0, 0, (mSH, I, L))) rfl (fun c0 => ?_) (fun c0 => ?_)
  · refine mB 1 (s2 := (d, 151, 18, [some (.ref 34), some (.int x)], [.int (-1)], 0, 0, (mSH, I, L))) rfl ?_
    refine mRt (r := (some (.int (-1)))) (h := (mSH, I, L)) rfl (mRet_int rfl) ?_
    exact h1 (of_decide_eq_true c0)
  · refine mB 3 (s2 := (d, 151, 13, [some (.ref 34), some (.int x)], [.int x, .ref 40], 0, 0, (mSH, I, L))) rfl ?_
    refine mRq (s2 := (d, 151, 14, [some (.ref 34), some (.int x)], [.int (I 40 x.toNatClampNeg)], 0, 0, (mSH, I, L))) rfl (mVp_of (h2 (of_decide_eq_false c0))) ?_
    refine mB 1 (s2 := (d, 151, 18, [some (.ref 34), some (.int x)], [.int (I 40 x.toNatClampNeg)], 0, 0, (mSH, I, L))) rfl ?_
    refine mRt (r := (some (.int (I 40 x.toNatClampNeg)))) (h := (mSH, I, L)) rfl (mRet_int rfl) ?_
    exact h3 (of_decide_eq_false c0)
section RE
variable {I : Nat → Nat → Int32} {c j : Nat} {v w x : Int32}
theorem mUp_idem : mUp I c j (I c j) = I := by
  funext r i
  unfold mUp
  by_cases e : r = c
  · subst e
    rw [if_pos rfl]
    by_cases g : i = j
    · subst g
      rw [if_pos rfl]
    · rw [if_neg g]
  · rw [if_neg e]
theorem mUp_312 : mUp (mUp (mUp I 34 12 x) 34 13 v) 34 12 w = mUp (mUp I 34 13 v) 34 12 w := by
  funext r i
  unfold mUp
  by_cases e : r = 34
  · by_cases g : i = 12
    · simp only [if_pos e, if_pos g]
    · by_cases k : i = 13
      · simp only [if_pos e, if_neg g, if_pos k]
      · simp only [if_pos e, if_neg g, if_neg k]
  · simp only [if_neg e]
end RE
theorem w_byte {ro : Nat → Nat × (Nat → Int32)} {Q : mPo} {d : Nat} {I : Nat → Nat → Int32} {L : Nat → Nat → Int64} {s n t : Nat} {x : Int32} {k : Nat} (hm : mM s n t I) (e : x = nI k) (hk : k < 2 ^ 31) (q0 : Q (some (.int (-1))) (mSH, I, L)) (q1 : k < t → Q (some (.int (I 40 k))) (mSH, I, L)) : mWP mTb_ mFT ro (d, 151, 0, [some (.ref 34), some (.int x)], [], 0, 0, (mSH, I, L)) Q := by
  have lt : ¬ I 34 11 ≤ nI k → k < t := fun z => by
    rw [hm.2.2.1.1, nI_leI (by have := hm.2.2.1.2; omega) hk] at z
    omega
  subst e
  refine s_byte (fun _ => q0) (fun z => vp_in_nI (by have := lt z; have := hm.2.2.1.2; omega) (by omega)) (fun z => ?_)
  have h := q1 (lt z)
  rw [nI_clamp hk]
  exact h
theorem s_sk {ro : Nat → Nat × (Nat → Int32)} {Q : mPo} {d : Nat} {I : Nat → Nat → Int32} {L : Nat → Nat → Int64} {s n t : Nat} {a : Nat} (hm : mM s n t I) (hat : I 34 12 = nI a) (hal : a ≤ 1000) (q0 : Q none (mSH, I, L)) (ih : a < t → mWP mTb_ mFT ro (d + 1, 152, 0, [some (.ref 34)], [], 0, 0, (mSH, mUp I 34 12 ((I 34 12) + 1), L)) Q)   : mWP mTb_ mFT ro (d + 1, 152, 0, [some (.ref 34)], [], 0, 0, (mSH, I, L)) Q := by
  refine mB 3 (s2 := (d + 1, 152, 5, [some (.ref 34)], [.int (I 34 12), .ref 34], 0, 0, (mSH, I, L))) rfl ?_
  refine mCall (s2 := (d, 151, 0, [some (.ref 34), some (.int (I 34 12))], [], 0, 0, (mSH, I, L))) rfl ?_
  refine w_byte (k := a) (hm) hat (by omega) ?_ ?_
  · show mWP mTb_ mFT ro (d + 1, 152, 8, [some (.ref 34)], [.int (-1)], 0, 0, (mSH, I, L)) _
    refine mB 1 (s2 := (d + 1, 152, 10, [some (.ref 34)], [.int 32, .int (-1)], 0, 0, (mSH, I, L))) rfl ?_
    refine mBF (s3 := (d + 1, 152, 26, [some (.ref 34)], [], 0, 0, (mSH, I, L))) rfl (by decide) ?_
    refine mRt (r := none) (h := (mSH, I, L)) rfl rfl ?_
    exact q0
  · intro l1
    show mWP mTb_ mFT ro (d + 1, 152, 8, [some (.ref 34)], [.int (I 40 (a))], 0, 0, (mSH, I, L)) _
    refine mB 1 (s2 := (d + 1, 152, 10, [some (.ref 34)], [.int 32, .int (I 40 (a))], 0, 0, (mSH, I, L))) rfl ?_
    refine mBr (s2 := (d + 1, 152, 13, [some (.ref 34)], [], 0, 0, (mSH, I, L))) (s3 := (d + 1, 152, 26, [some (.ref 34)], [], 0, 0, (mSH, I, L))) rfl (fun c0 => ?_) (fun c0 => ?_)
    · refine mB 7 (s2 := (d + 1, 152, 0, [some (.ref 34)], [], 0, 0, (mSH, (mUp I 34 12 ((I 34 12) + 1)), L))) rfl ?_
      exact ih l1
    · refine mRt (r := none) (h := (mSH, I, L)) rfl rfl ?_
      exact q0
theorem l_skips {ro : Nat → Nat × (Nat → Int32)} {Q : mPo} {d : Nat} {L : Nat → Nat → Int64} {s n t B : Nat} (hB : 120 ≤ B) (hB2 : B ≤ 1000) : ∀ (m a : Nat) (I : Nat → Nat → Int32), mM s n t I → I 34 12 = nI a → a ≤ B → 120 ≤ a + m → (∀ a', a' ≤ B → Q none (mSH, mUp I 34 12 (nI a'), L)) → mWP mTb_ mFT ro (d + 1, 152, 0, [some (.ref 34)], [], 0, 0, (mSH, I, L)) Q := by
  intro m
  induction m with
  | zero =>
    intro a I hm hat ha h0 hq
    refine s_sk hm hat (by omega) ?_ (fun z => absurd z (by have := hm.2.2.1.2; omega))
    have z := hq a ha
    rw [← hat, mUp_idem] at z
    exact z
  | succ m ih =>
    intro a I hm hat ha h0 hq
    refine s_sk hm hat (by omega) ?_ (fun z => ?_)
    · have z := hq a ha
      rw [← hat, mUp_idem] at z
      exact z
    · rw [hat, nI_1]
      have := hm.2.2.1.2
      refine ih (a + 1) _ hm rfl (by omega) (by omega) (fun a' ha' => ?_)
      rw [mUp_2]
      exact hq a' ha'
theorem w_skips {ro : Nat → Nat × (Nat → Int32)} {Q : mPo} {d : Nat} {I : Nat → Nat → Int32} {L : Nat → Nat → Int64} {s n t : Nat} {B : Nat} (hB : 120 ≤ B) (hB2 : B ≤ 1000) {a : Nat} (hm : mM s n t I) (hat : I 34 12 = nI a) (ha : a ≤ B) (hq : ∀ a', a' ≤ B → Q none (mSH, mUp I 34 12 (nI a'), L)) : mWP mTb_ mFT ro (d + 1, 152, 0, [some (.ref 34)], [], 0, 0, (mSH, I, L)) Q := l_skips hB hB2 120 a I hm hat ha (by omega) hq
theorem mWq {I : Nat → Nat → Int32} {L : Nat → Nat → Int64} {Q : mPo} {r : Option Value} {B a c : Nat} {x : Int32} (q : ∀ a', a' ≤ B + 5 → Q r (mSH, mUp I 34 12 (nI a'), L)) (ha : a ≤ B) (e : x = nI (a + c)) (hc : c ≤ 5) : Q r (mSH, mUp (mUp I 34 12 (nI a)) 34 12 x, L) := by
  rw [mUp_2, e]
  exact q (a + c) (by omega)
theorem w_isw_0 {ro : Nat → Nat × (Nat → Int32)} {Q : mPo} {d : Nat} {I : Nat → Nat → Int32} {L : Nat → Nat → Int64} {s n t : Nat} {a : Nat} {B : Nat} (hB : 120 ≤ B) (hB2 : B ≤ 1000) (hm : mM s n t I) (hat : I 34 12 = nI a) (ha : a ≤ B) (q0 : ∀ a', a' ≤ B + 5 → Q (some (.int 0)) (mSH, mUp I 34 12 (nI a'), L)) (q1 : ∀ a', a' ≤ B + 5 → Q (some (.int 1)) (mSH, mUp I 34 12 (nI a'), L))   : mWP mTb_ mFT ro (d + 2, 154, 0, [some (.ref 34), some (.int 0), none, none], [], 0, 0, (mSH, I, L)) Q := by
  obtain ⟨f41_0, f41_1, f41_2, f41_3, f41_4, f41_5, f41_6, f41_7, f41_8, f41_9, f41_10, f41_11, f41_12, f41_13, f41_14, f41_15, f41_16, f41_17, f41_18, f41_19, f41_20, f41_21, f41_22⟩ : I 41 0 = 121 ∧ I 41 1 = 101 ∧ I 41 2 = 97 ∧ I 41 3 = 114 ∧ I 41 4 = 115 ∧ I 41 5 = 32 ∧ I 41 6 = 99 ∧ I 41 7 = 111 ∧ I 41 8 = 114 ∧ I 41 9 = 101 ∧ I 41 10 = 32 ∧ I 41 11 = 110 ∧ I 41 12 = 111 ∧ I 41 13 = 114 ∧ I 41 14 = 116 ∧ I 41 15 = 104 ∧ I 41 16 = 32 ∧ I 41 17 = 115 ∧ I 41 18 = 111 ∧ I 41 19 = 117 ∧ I 41 20 = 116 ∧ I 41 21 = 104 ∧ I 41 22 = 32 := ⟨hm.2.2.2.2.2 0 (by omega), hm.2.2.2.2.2 1 (by omega), hm.2.2.2.2.2 2 (by omega), hm.2.2.2.2.2 3 (by omega), hm.2.2.2.2.2 4 (by omega), hm.2.2.2.2.2 5 (by omega), hm.2.2.2.2.2 6 (by omega), hm.2.2.2.2.2 7 (by omega), hm.2.2.2.2.2 8 (by omega), hm.2.2.2.2.2 9 (by omega), hm.2.2.2.2.2 10 (by omega), hm.2.2.2.2.2 11 (by omega), hm.2.2.2.2.2 12 (by omega), hm.2.2.2.2.2 13 (by omega), hm.2.2.2.2.2 14 (by omega), hm.2.2.2.2.2 15 (by omega), hm.2.2.2.2.2 16 (by omega), hm.2.2.2.2.2 17 (by omega), hm.2.2.2.2.2 18 (by omega), hm.2.2.2.2.2 19 (by omega), hm.2.2.2.2.2 20 (by omega), hm.2.2.2.2.2 21 (by omega), hm.2.2.2.2.2 22 (by omega)⟩
  refine mB 1 (s2 := (d + 2, 154, 1, [some (.ref 34), some (.int 0), none, none], [.ref 34], 0, 0, (mSH, I, L))) rfl ?_
  refine mCall (s2 := (d + 1, 152, 0, [some (.ref 34)], [], 0, 0, (mSH, I, L))) rfl ?_
  refine w_skips hB hB2 (hm) hat ha (fun a1 hla1 => ?_)
  show mWP mTb_ mFT ro (d + 2, 154, 4, [some (.ref 34), some (.int 0), none, none], [], 0, 0, (mSH, (mUp I 34 12 (nI a1)), L)) _
  refine mB 9 (s2 := (d + 2, 154, 15, [some (.ref 34), some (.int 0), some (.int 0), some (.int 1)], [.int 0, .ref 41], 0, 0, (mSH, (mUp I 34 12 (nI a1)), L))) rfl ?_
  refine mRq (s2 := (d + 2, 154, 16, [some (.ref 34), some (.int 0), some (.int 0), some (.int 1)], [.int (I 41 0)], 0, 0, (mSH, (mUp I 34 12 (nI a1)), L))) rfl (by decide) ?_
  refine mB 1 (s2 := (d + 2, 154, 18, [some (.ref 34), some (.int 0), some (.int 0), some (.int 1)], [.int 32, .int (I 41 0)], 0, 0, (mSH, (mUp I 34 12 (nI a1)), L))) rfl ?_
  refine mBF (s3 := (d + 2, 154, 21, [some (.ref 34), some (.int 0), some (.int 0), some (.int 1)], [], 0, 0, (mSH, (mUp I 34 12 (nI a1)), L))) rfl (by first | (simp only [f41_0, f41_1, f41_2, f41_3, f41_4, f41_5, f41_6, f41_7, f41_8, f41_9, f41_10, f41_11, f41_12, f41_13, f41_14, f41_15, f41_16, f41_17, f41_18, f41_19, f41_20, f41_21, f41_22]; first | decide | rfl) | decide | rfl) ?_
  refine mB 1 (s2 := (d + 2, 154, 22, [some (.ref 34), some (.int 0), some (.int 0), some (.int 1)], [.int 1], 0, 0, (mSH, (mUp I 34 12 (nI a1)), L))) rfl ?_
  refine mBF (s3 := (d + 2, 154, 25, [some (.ref 34), some (.int 0), some (.int 0), some (.int 1)], [], 0, 0, (mSH, (mUp I 34 12 (nI a1)), L))) rfl (by decide) ?_
  refine mB 5 (s2 := (d + 2, 154, 32, [some (.ref 34), some (.int 0), some (.int 0), some (.int 1)], [.int ((nI a1) + 0), .ref 34], 0, 0, (mSH, (mUp I 34 12 (nI a1)), L))) rfl ?_
  refine mCall (s2 := (d + 1, 151, 0, [some (.ref 34), some (.int ((nI a1) + 0))], [], 0, 0, (mSH, (mUp I 34 12 (nI a1)), L))) rfl ?_
  refine w_byte (k := a1 + 0) (hm) (nI_add a1 0) (by omega) ?_ ?_
  · show mWP mTb_ mFT ro (d + 2, 154, 35, [some (.ref 34), some (.int 0), some (.int 0), some (.int 1)], [.int (-1)], 0, 0, (mSH, (mUp I 34 12 (nI a1)), L)) _
    refine mB 5 (s2 := (d + 2, 154, 42, [some (.ref 34), some (.int 0), some (.int 0), some (.int 1)], [.int 0, .ref 41, .int (-1)], 0, 0, (mSH, (mUp I 34 12 (nI a1)), L))) rfl ?_
    refine mRq (s2 := (d + 2, 154, 43, [some (.ref 34), some (.int 0), some (.int 0), some (.int 1)], [.int (I 41 0), .int (-1)], 0, 0, (mSH, (mUp I 34 12 (nI a1)), L))) rfl (by decide) ?_
    refine mBF (s3 := (d + 2, 154, 50, [some (.ref 34), some (.int 0), some (.int 0), some (.int 1)], [], 0, 0, (mSH, (mUp I 34 12 (nI a1)), L))) rfl (by first | (simp only [f41_0, f41_1, f41_2, f41_3, f41_4, f41_5, f41_6, f41_7, f41_8, f41_9, f41_10, f41_11, f41_12, f41_13, f41_14, f41_15, f41_16, f41_17, f41_18, f41_19, f41_20, f41_21, f41_22]; first | decide | rfl) | decide | rfl) ?_
    refine mB 9 (s2 := (d + 2, 154, 15, [some (.ref 34), some (.int 0), some (.int 1), some (.int 0)], [.int 1, .ref 41], 0, 0, (mSH, (mUp I 34 12 (nI a1)), L))) rfl ?_
    refine mRq (s2 := (d + 2, 154, 16, [some (.ref 34), some (.int 0), some (.int 1), some (.int 0)], [.int (I 41 1)], 0, 0, (mSH, (mUp I 34 12 (nI a1)), L))) rfl (by decide) ?_
    refine mB 1 (s2 := (d + 2, 154, 18, [some (.ref 34), some (.int 0), some (.int 1), some (.int 0)], [.int 32, .int (I 41 1)], 0, 0, (mSH, (mUp I 34 12 (nI a1)), L))) rfl ?_
    refine mBF (s3 := (d + 2, 154, 21, [some (.ref 34), some (.int 0), some (.int 1), some (.int 0)], [], 0, 0, (mSH, (mUp I 34 12 (nI a1)), L))) rfl (by first | (simp only [f41_0, f41_1, f41_2, f41_3, f41_4, f41_5, f41_6, f41_7, f41_8, f41_9, f41_10, f41_11, f41_12, f41_13, f41_14, f41_15, f41_16, f41_17, f41_18, f41_19, f41_20, f41_21, f41_22]; first | decide | rfl) | decide | rfl) ?_
    refine mB 1 (s2 := (d + 2, 154, 22, [some (.ref 34), some (.int 0), some (.int 1), some (.int 0)], [.int 0], 0, 0, (mSH, (mUp I 34 12 (nI a1)), L))) rfl ?_
    refine mBT (s2 := (d + 2, 154, 50, [some (.ref 34), some (.int 0), some (.int 1), some (.int 0)], [], 0, 0, (mSH, (mUp I 34 12 (nI a1)), L))) rfl (by decide) ?_
    refine mB 9 (s2 := (d + 2, 154, 15, [some (.ref 34), some (.int 0), some (.int 2), some (.int 0)], [.int 2, .ref 41], 0, 0, (mSH, (mUp I 34 12 (nI a1)), L))) rfl ?_
    refine mRq (s2 := (d + 2, 154, 16, [some (.ref 34), some (.int 0), some (.int 2), some (.int 0)], [.int (I 41 2)], 0, 0, (mSH, (mUp I 34 12 (nI a1)), L))) rfl (by decide) ?_
    refine mB 1 (s2 := (d + 2, 154, 18, [some (.ref 34), some (.int 0), some (.int 2), some (.int 0)], [.int 32, .int (I 41 2)], 0, 0, (mSH, (mUp I 34 12 (nI a1)), L))) rfl ?_
    refine mBF (s3 := (d + 2, 154, 21, [some (.ref 34), some (.int 0), some (.int 2), some (.int 0)], [], 0, 0, (mSH, (mUp I 34 12 (nI a1)), L))) rfl (by first | (simp only [f41_0, f41_1, f41_2, f41_3, f41_4, f41_5, f41_6, f41_7, f41_8, f41_9, f41_10, f41_11, f41_12, f41_13, f41_14, f41_15, f41_16, f41_17, f41_18, f41_19, f41_20, f41_21, f41_22]; first | decide | rfl) | decide | rfl) ?_
    refine mB 1 (s2 := (d + 2, 154, 22, [some (.ref 34), some (.int 0), some (.int 2), some (.int 0)], [.int 0], 0, 0, (mSH, (mUp I 34 12 (nI a1)), L))) rfl ?_
    refine mBT (s2 := (d + 2, 154, 50, [some (.ref 34), some (.int 0), some (.int 2), some (.int 0)], [], 0, 0, (mSH, (mUp I 34 12 (nI a1)), L))) rfl (by decide) ?_
    refine mB 9 (s2 := (d + 2, 154, 15, [some (.ref 34), some (.int 0), some (.int 3), some (.int 0)], [.int 3, .ref 41], 0, 0, (mSH, (mUp I 34 12 (nI a1)), L))) rfl ?_
    refine mRq (s2 := (d + 2, 154, 16, [some (.ref 34), some (.int 0), some (.int 3), some (.int 0)], [.int (I 41 3)], 0, 0, (mSH, (mUp I 34 12 (nI a1)), L))) rfl (by decide) ?_
    refine mB 1 (s2 := (d + 2, 154, 18, [some (.ref 34), some (.int 0), some (.int 3), some (.int 0)], [.int 32, .int (I 41 3)], 0, 0, (mSH, (mUp I 34 12 (nI a1)), L))) rfl ?_
    refine mBF (s3 := (d + 2, 154, 21, [some (.ref 34), some (.int 0), some (.int 3), some (.int 0)], [], 0, 0, (mSH, (mUp I 34 12 (nI a1)), L))) rfl (by first | (simp only [f41_0, f41_1, f41_2, f41_3, f41_4, f41_5, f41_6, f41_7, f41_8, f41_9, f41_10, f41_11, f41_12, f41_13, f41_14, f41_15, f41_16, f41_17, f41_18, f41_19, f41_20, f41_21, f41_22]; first | decide | rfl) | decide | rfl) ?_
    refine mB 1 (s2 := (d + 2, 154, 22, [some (.ref 34), some (.int 0), some (.int 3), some (.int 0)], [.int 0], 0, 0, (mSH, (mUp I 34 12 (nI a1)), L))) rfl ?_
    refine mBT (s2 := (d + 2, 154, 50, [some (.ref 34), some (.int 0), some (.int 3), some (.int 0)], [], 0, 0, (mSH, (mUp I 34 12 (nI a1)), L))) rfl (by decide) ?_
    refine mB 9 (s2 := (d + 2, 154, 15, [some (.ref 34), some (.int 0), some (.int 4), some (.int 0)], [.int 4, .ref 41], 0, 0, (mSH, (mUp I 34 12 (nI a1)), L))) rfl ?_
    refine mRq (s2 := (d + 2, 154, 16, [some (.ref 34), some (.int 0), some (.int 4), some (.int 0)], [.int (I 41 4)], 0, 0, (mSH, (mUp I 34 12 (nI a1)), L))) rfl (by decide) ?_
    refine mB 1 (s2 := (d + 2, 154, 18, [some (.ref 34), some (.int 0), some (.int 4), some (.int 0)], [.int 32, .int (I 41 4)], 0, 0, (mSH, (mUp I 34 12 (nI a1)), L))) rfl ?_
    refine mBF (s3 := (d + 2, 154, 21, [some (.ref 34), some (.int 0), some (.int 4), some (.int 0)], [], 0, 0, (mSH, (mUp I 34 12 (nI a1)), L))) rfl (by first | (simp only [f41_0, f41_1, f41_2, f41_3, f41_4, f41_5, f41_6, f41_7, f41_8, f41_9, f41_10, f41_11, f41_12, f41_13, f41_14, f41_15, f41_16, f41_17, f41_18, f41_19, f41_20, f41_21, f41_22]; first | decide | rfl) | decide | rfl) ?_
    refine mB 1 (s2 := (d + 2, 154, 22, [some (.ref 34), some (.int 0), some (.int 4), some (.int 0)], [.int 0], 0, 0, (mSH, (mUp I 34 12 (nI a1)), L))) rfl ?_
    refine mBT (s2 := (d + 2, 154, 50, [some (.ref 34), some (.int 0), some (.int 4), some (.int 0)], [], 0, 0, (mSH, (mUp I 34 12 (nI a1)), L))) rfl (by decide) ?_
    refine mB 9 (s2 := (d + 2, 154, 15, [some (.ref 34), some (.int 0), some (.int 5), some (.int 0)], [.int 5, .ref 41], 0, 0, (mSH, (mUp I 34 12 (nI a1)), L))) rfl ?_
    refine mRq (s2 := (d + 2, 154, 16, [some (.ref 34), some (.int 0), some (.int 5), some (.int 0)], [.int (I 41 5)], 0, 0, (mSH, (mUp I 34 12 (nI a1)), L))) rfl (by decide) ?_
    refine mB 1 (s2 := (d + 2, 154, 18, [some (.ref 34), some (.int 0), some (.int 5), some (.int 0)], [.int 32, .int (I 41 5)], 0, 0, (mSH, (mUp I 34 12 (nI a1)), L))) rfl ?_
    refine mBT (s2 := (d + 2, 154, 58, [some (.ref 34), some (.int 0), some (.int 5), some (.int 0)], [], 0, 0, (mSH, (mUp I 34 12 (nI a1)), L))) rfl (by first | (simp only [f41_0, f41_1, f41_2, f41_3, f41_4, f41_5, f41_6, f41_7, f41_8, f41_9, f41_10, f41_11, f41_12, f41_13, f41_14, f41_15, f41_16, f41_17, f41_18, f41_19, f41_20, f41_21, f41_22]; first | decide | rfl) | decide | rfl) ?_
    refine mB 1 (s2 := (d + 2, 154, 59, [some (.ref 34), some (.int 0), some (.int 5), some (.int 0)], [.int 0], 0, 0, (mSH, (mUp I 34 12 (nI a1)), L))) rfl ?_
    refine mBT (s2 := (d + 2, 154, 86, [some (.ref 34), some (.int 0), some (.int 5), some (.int 0)], [], 0, 0, (mSH, (mUp I 34 12 (nI a1)), L))) rfl (by decide) ?_
    refine mB 6 (s2 := (d + 2, 154, 94, [some (.ref 34), some (.int 0), some (.int 5), some (.int 0)], [.int 0, .int (nI a1), .ref 34], 0, 0, (mSH, (mUp I 34 12 (nI a1)), L))) rfl ?_
    refine mBT (s2 := (d + 2, 154, 101, [some (.ref 34), some (.int 0), some (.int 5), some (.int 0)], [.int (nI a1), .ref 34], 0, 0, (mSH, (mUp I 34 12 (nI a1)), L))) rfl (by decide) ?_
    refine mB 4 (s2 := (d + 2, 154, 107, [some (.ref 34), some (.int 0), some (.int 5), some (.int 0)], [.int 0], 0, 0, (mSH, (mUp (mUp I 34 12 (nI a1)) 34 12 ((nI a1) + 0)), L))) rfl ?_
    refine mRt (r := (some (.int 0))) (h := (mSH, (mUp (mUp I 34 12 (nI a1)) 34 12 ((nI a1) + 0)), L)) rfl rfl ?_
    exact mWq q0 hla1 (nI_add a1 0) (by omega)
  · intro l2
    show mWP mTb_ mFT ro (d + 2, 154, 35, [some (.ref 34), some (.int 0), some (.int 0), some (.int 1)], [.int (I 40 (a1 + 0))], 0, 0, (mSH, (mUp I 34 12 (nI a1)), L)) _
    refine mB 5 (s2 := (d + 2, 154, 42, [some (.ref 34), some (.int 0), some (.int 0), some (.int 1)], [.int 0, .ref 41, .int (I 40 (a1 + 0))], 0, 0, (mSH, (mUp I 34 12 (nI a1)), L))) rfl ?_
    refine mRq (s2 := (d + 2, 154, 43, [some (.ref 34), some (.int 0), some (.int 0), some (.int 1)], [.int (I 41 0), .int (I 40 (a1 + 0))], 0, 0, (mSH, (mUp I 34 12 (nI a1)), L))) rfl (by decide) ?_
    refine mBr (s2 := (d + 2, 154, 46, [some (.ref 34), some (.int 0), some (.int 0), some (.int 1)], [], 0, 0, (mSH, (mUp I 34 12 (nI a1)), L))) (s3 := (d + 2, 154, 50, [some (.ref 34), some (.int 0), some (.int 0), some (.int 1)], [], 0, 0, (mSH, (mUp I 34 12 (nI a1)), L))) rfl (fun c1 => ?_) (fun c1 => ?_)
    · refine mB 10 (s2 := (d + 2, 154, 15, [some (.ref 34), some (.int 0), some (.int 1), some (.int 1)], [.int 1, .ref 41], 0, 0, (mSH, (mUp I 34 12 (nI a1)), L))) rfl ?_
      refine mRq (s2 := (d + 2, 154, 16, [some (.ref 34), some (.int 0), some (.int 1), some (.int 1)], [.int (I 41 1)], 0, 0, (mSH, (mUp I 34 12 (nI a1)), L))) rfl (by decide) ?_
      refine mB 1 (s2 := (d + 2, 154, 18, [some (.ref 34), some (.int 0), some (.int 1), some (.int 1)], [.int 32, .int (I 41 1)], 0, 0, (mSH, (mUp I 34 12 (nI a1)), L))) rfl ?_
      refine mBF (s3 := (d + 2, 154, 21, [some (.ref 34), some (.int 0), some (.int 1), some (.int 1)], [], 0, 0, (mSH, (mUp I 34 12 (nI a1)), L))) rfl (by first | (simp only [f41_0, f41_1, f41_2, f41_3, f41_4, f41_5, f41_6, f41_7, f41_8, f41_9, f41_10, f41_11, f41_12, f41_13, f41_14, f41_15, f41_16, f41_17, f41_18, f41_19, f41_20, f41_21, f41_22]; first | decide | rfl) | decide | rfl) ?_
      refine mB 1 (s2 := (d + 2, 154, 22, [some (.ref 34), some (.int 0), some (.int 1), some (.int 1)], [.int 1], 0, 0, (mSH, (mUp I 34 12 (nI a1)), L))) rfl ?_
      refine mBF (s3 := (d + 2, 154, 25, [some (.ref 34), some (.int 0), some (.int 1), some (.int 1)], [], 0, 0, (mSH, (mUp I 34 12 (nI a1)), L))) rfl (by decide) ?_
      refine mB 5 (s2 := (d + 2, 154, 32, [some (.ref 34), some (.int 0), some (.int 1), some (.int 1)], [.int ((nI a1) + 1), .ref 34], 0, 0, (mSH, (mUp I 34 12 (nI a1)), L))) rfl ?_
      refine mCall (s2 := (d + 1, 151, 0, [some (.ref 34), some (.int ((nI a1) + 1))], [], 0, 0, (mSH, (mUp I 34 12 (nI a1)), L))) rfl ?_
      refine w_byte (k := a1 + 1) (hm) (nI_add a1 1) (by omega) ?_ ?_
      · show mWP mTb_ mFT ro (d + 2, 154, 35, [some (.ref 34), some (.int 0), some (.int 1), some (.int 1)], [.int (-1)], 0, 0, (mSH, (mUp I 34 12 (nI a1)), L)) _
        refine mB 5 (s2 := (d + 2, 154, 42, [some (.ref 34), some (.int 0), some (.int 1), some (.int 1)], [.int 1, .ref 41, .int (-1)], 0, 0, (mSH, (mUp I 34 12 (nI a1)), L))) rfl ?_
        refine mRq (s2 := (d + 2, 154, 43, [some (.ref 34), some (.int 0), some (.int 1), some (.int 1)], [.int (I 41 1), .int (-1)], 0, 0, (mSH, (mUp I 34 12 (nI a1)), L))) rfl (by decide) ?_
        refine mBF (s3 := (d + 2, 154, 50, [some (.ref 34), some (.int 0), some (.int 1), some (.int 1)], [], 0, 0, (mSH, (mUp I 34 12 (nI a1)), L))) rfl (by first | (simp only [f41_0, f41_1, f41_2, f41_3, f41_4, f41_5, f41_6, f41_7, f41_8, f41_9, f41_10, f41_11, f41_12, f41_13, f41_14, f41_15, f41_16, f41_17, f41_18, f41_19, f41_20, f41_21, f41_22]; first | decide | rfl) | decide | rfl) ?_
        refine mB 9 (s2 := (d + 2, 154, 15, [some (.ref 34), some (.int 0), some (.int 2), some (.int 0)], [.int 2, .ref 41], 0, 0, (mSH, (mUp I 34 12 (nI a1)), L))) rfl ?_
        refine mRq (s2 := (d + 2, 154, 16, [some (.ref 34), some (.int 0), some (.int 2), some (.int 0)], [.int (I 41 2)], 0, 0, (mSH, (mUp I 34 12 (nI a1)), L))) rfl (by decide) ?_
        refine mB 1 (s2 := (d + 2, 154, 18, [some (.ref 34), some (.int 0), some (.int 2), some (.int 0)], [.int 32, .int (I 41 2)], 0, 0, (mSH, (mUp I 34 12 (nI a1)), L))) rfl ?_
        refine mBF (s3 := (d + 2, 154, 21, [some (.ref 34), some (.int 0), some (.int 2), some (.int 0)], [], 0, 0, (mSH, (mUp I 34 12 (nI a1)), L))) rfl (by first | (simp only [f41_0, f41_1, f41_2, f41_3, f41_4, f41_5, f41_6, f41_7, f41_8, f41_9, f41_10, f41_11, f41_12, f41_13, f41_14, f41_15, f41_16, f41_17, f41_18, f41_19, f41_20, f41_21, f41_22]; first | decide | rfl) | decide | rfl) ?_
        refine mB 1 (s2 := (d + 2, 154, 22, [some (.ref 34), some (.int 0), some (.int 2), some (.int 0)], [.int 0], 0, 0, (mSH, (mUp I 34 12 (nI a1)), L))) rfl ?_
        refine mBT (s2 := (d + 2, 154, 50, [some (.ref 34), some (.int 0), some (.int 2), some (.int 0)], [], 0, 0, (mSH, (mUp I 34 12 (nI a1)), L))) rfl (by decide) ?_
        refine mB 9 (s2 := (d + 2, 154, 15, [some (.ref 34), some (.int 0), some (.int 3), some (.int 0)], [.int 3, .ref 41], 0, 0, (mSH, (mUp I 34 12 (nI a1)), L))) rfl ?_
        refine mRq (s2 := (d + 2, 154, 16, [some (.ref 34), some (.int 0), some (.int 3), some (.int 0)], [.int (I 41 3)], 0, 0, (mSH, (mUp I 34 12 (nI a1)), L))) rfl (by decide) ?_
        refine mB 1 (s2 := (d + 2, 154, 18, [some (.ref 34), some (.int 0), some (.int 3), some (.int 0)], [.int 32, .int (I 41 3)], 0, 0, (mSH, (mUp I 34 12 (nI a1)), L))) rfl ?_
        refine mBF (s3 := (d + 2, 154, 21, [some (.ref 34), some (.int 0), some (.int 3), some (.int 0)], [], 0, 0, (mSH, (mUp I 34 12 (nI a1)), L))) rfl (by first | (simp only [f41_0, f41_1, f41_2, f41_3, f41_4, f41_5, f41_6, f41_7, f41_8, f41_9, f41_10, f41_11, f41_12, f41_13, f41_14, f41_15, f41_16, f41_17, f41_18, f41_19, f41_20, f41_21, f41_22]; first | decide | rfl) | decide | rfl) ?_
        refine mB 1 (s2 := (d + 2, 154, 22, [some (.ref 34), some (.int 0), some (.int 3), some (.int 0)], [.int 0], 0, 0, (mSH, (mUp I 34 12 (nI a1)), L))) rfl ?_
        refine mBT (s2 := (d + 2, 154, 50, [some (.ref 34), some (.int 0), some (.int 3), some (.int 0)], [], 0, 0, (mSH, (mUp I 34 12 (nI a1)), L))) rfl (by decide) ?_
        refine mB 9 (s2 := (d + 2, 154, 15, [some (.ref 34), some (.int 0), some (.int 4), some (.int 0)], [.int 4, .ref 41], 0, 0, (mSH, (mUp I 34 12 (nI a1)), L))) rfl ?_
        refine mRq (s2 := (d + 2, 154, 16, [some (.ref 34), some (.int 0), some (.int 4), some (.int 0)], [.int (I 41 4)], 0, 0, (mSH, (mUp I 34 12 (nI a1)), L))) rfl (by decide) ?_
        refine mB 1 (s2 := (d + 2, 154, 18, [some (.ref 34), some (.int 0), some (.int 4), some (.int 0)], [.int 32, .int (I 41 4)], 0, 0, (mSH, (mUp I 34 12 (nI a1)), L))) rfl ?_
        refine mBF (s3 := (d + 2, 154, 21, [some (.ref 34), some (.int 0), some (.int 4), some (.int 0)], [], 0, 0, (mSH, (mUp I 34 12 (nI a1)), L))) rfl (by first | (simp only [f41_0, f41_1, f41_2, f41_3, f41_4, f41_5, f41_6, f41_7, f41_8, f41_9, f41_10, f41_11, f41_12, f41_13, f41_14, f41_15, f41_16, f41_17, f41_18, f41_19, f41_20, f41_21, f41_22]; first | decide | rfl) | decide | rfl) ?_
        refine mB 1 (s2 := (d + 2, 154, 22, [some (.ref 34), some (.int 0), some (.int 4), some (.int 0)], [.int 0], 0, 0, (mSH, (mUp I 34 12 (nI a1)), L))) rfl ?_
        refine mBT (s2 := (d + 2, 154, 50, [some (.ref 34), some (.int 0), some (.int 4), some (.int 0)], [], 0, 0, (mSH, (mUp I 34 12 (nI a1)), L))) rfl (by decide) ?_
        refine mB 9 (s2 := (d + 2, 154, 15, [some (.ref 34), some (.int 0), some (.int 5), some (.int 0)], [.int 5, .ref 41], 0, 0, (mSH, (mUp I 34 12 (nI a1)), L))) rfl ?_
        refine mRq (s2 := (d + 2, 154, 16, [some (.ref 34), some (.int 0), some (.int 5), some (.int 0)], [.int (I 41 5)], 0, 0, (mSH, (mUp I 34 12 (nI a1)), L))) rfl (by decide) ?_
        refine mB 1 (s2 := (d + 2, 154, 18, [some (.ref 34), some (.int 0), some (.int 5), some (.int 0)], [.int 32, .int (I 41 5)], 0, 0, (mSH, (mUp I 34 12 (nI a1)), L))) rfl ?_
        refine mBT (s2 := (d + 2, 154, 58, [some (.ref 34), some (.int 0), some (.int 5), some (.int 0)], [], 0, 0, (mSH, (mUp I 34 12 (nI a1)), L))) rfl (by first | (simp only [f41_0, f41_1, f41_2, f41_3, f41_4, f41_5, f41_6, f41_7, f41_8, f41_9, f41_10, f41_11, f41_12, f41_13, f41_14, f41_15, f41_16, f41_17, f41_18, f41_19, f41_20, f41_21, f41_22]; first | decide | rfl) | decide | rfl) ?_
        refine mB 1 (s2 := (d + 2, 154, 59, [some (.ref 34), some (.int 0), some (.int 5), some (.int 0)], [.int 0], 0, 0, (mSH, (mUp I 34 12 (nI a1)), L))) rfl ?_
        refine mBT (s2 := (d + 2, 154, 86, [some (.ref 34), some (.int 0), some (.int 5), some (.int 0)], [], 0, 0, (mSH, (mUp I 34 12 (nI a1)), L))) rfl (by decide) ?_
        refine mB 6 (s2 := (d + 2, 154, 94, [some (.ref 34), some (.int 0), some (.int 5), some (.int 0)], [.int 0, .int (nI a1), .ref 34], 0, 0, (mSH, (mUp I 34 12 (nI a1)), L))) rfl ?_
        refine mBT (s2 := (d + 2, 154, 101, [some (.ref 34), some (.int 0), some (.int 5), some (.int 0)], [.int (nI a1), .ref 34], 0, 0, (mSH, (mUp I 34 12 (nI a1)), L))) rfl (by decide) ?_
        refine mB 4 (s2 := (d + 2, 154, 107, [some (.ref 34), some (.int 0), some (.int 5), some (.int 0)], [.int 0], 0, 0, (mSH, (mUp (mUp I 34 12 (nI a1)) 34 12 ((nI a1) + 0)), L))) rfl ?_
        refine mRt (r := (some (.int 0))) (h := (mSH, (mUp (mUp I 34 12 (nI a1)) 34 12 ((nI a1) + 0)), L)) rfl rfl ?_
        exact mWq q0 hla1 (nI_add a1 0) (by omega)
      · intro l3
        show mWP mTb_ mFT ro (d + 2, 154, 35, [some (.ref 34), some (.int 0), some (.int 1), some (.int 1)], [.int (I 40 (a1 + 1))], 0, 0, (mSH, (mUp I 34 12 (nI a1)), L)) _
        refine mB 5 (s2 := (d + 2, 154, 42, [some (.ref 34), some (.int 0), some (.int 1), some (.int 1)], [.int 1, .ref 41, .int (I 40 (a1 + 1))], 0, 0, (mSH, (mUp I 34 12 (nI a1)), L))) rfl ?_
        refine mRq (s2 := (d + 2, 154, 43, [some (.ref 34), some (.int 0), some (.int 1), some (.int 1)], [.int (I 41 1), .int (I 40 (a1 + 1))], 0, 0, (mSH, (mUp I 34 12 (nI a1)), L))) rfl (by decide) ?_
        refine mBr (s2 := (d + 2, 154, 46, [some (.ref 34), some (.int 0), some (.int 1), some (.int 1)], [], 0, 0, (mSH, (mUp I 34 12 (nI a1)), L))) (s3 := (d + 2, 154, 50, [some (.ref 34), some (.int 0), some (.int 1), some (.int 1)], [], 0, 0, (mSH, (mUp I 34 12 (nI a1)), L))) rfl (fun c2 => ?_) (fun c2 => ?_)
        · refine mB 10 (s2 := (d + 2, 154, 15, [some (.ref 34), some (.int 0), some (.int 2), some (.int 1)], [.int 2, .ref 41], 0, 0, (mSH, (mUp I 34 12 (nI a1)), L))) rfl ?_
          refine mRq (s2 := (d + 2, 154, 16, [some (.ref 34), some (.int 0), some (.int 2), some (.int 1)], [.int (I 41 2)], 0, 0, (mSH, (mUp I 34 12 (nI a1)), L))) rfl (by decide) ?_
          refine mB 1 (s2 := (d + 2, 154, 18, [some (.ref 34), some (.int 0), some (.int 2), some (.int 1)], [.int 32, .int (I 41 2)], 0, 0, (mSH, (mUp I 34 12 (nI a1)), L))) rfl ?_
          refine mBF (s3 := (d + 2, 154, 21, [some (.ref 34), some (.int 0), some (.int 2), some (.int 1)], [], 0, 0, (mSH, (mUp I 34 12 (nI a1)), L))) rfl (by first | (simp only [f41_0, f41_1, f41_2, f41_3, f41_4, f41_5, f41_6, f41_7, f41_8, f41_9, f41_10, f41_11, f41_12, f41_13, f41_14, f41_15, f41_16, f41_17, f41_18, f41_19, f41_20, f41_21, f41_22]; first | decide | rfl) | decide | rfl) ?_
          refine mB 1 (s2 := (d + 2, 154, 22, [some (.ref 34), some (.int 0), some (.int 2), some (.int 1)], [.int 1], 0, 0, (mSH, (mUp I 34 12 (nI a1)), L))) rfl ?_
          refine mBF (s3 := (d + 2, 154, 25, [some (.ref 34), some (.int 0), some (.int 2), some (.int 1)], [], 0, 0, (mSH, (mUp I 34 12 (nI a1)), L))) rfl (by decide) ?_
          refine mB 5 (s2 := (d + 2, 154, 32, [some (.ref 34), some (.int 0), some (.int 2), some (.int 1)], [.int ((nI a1) + 2), .ref 34], 0, 0, (mSH, (mUp I 34 12 (nI a1)), L))) rfl ?_
          refine mCall (s2 := (d + 1, 151, 0, [some (.ref 34), some (.int ((nI a1) + 2))], [], 0, 0, (mSH, (mUp I 34 12 (nI a1)), L))) rfl ?_
          refine w_byte (k := a1 + 2) (hm) (nI_add a1 2) (by omega) ?_ ?_
          · show mWP mTb_ mFT ro (d + 2, 154, 35, [some (.ref 34), some (.int 0), some (.int 2), some (.int 1)], [.int (-1)], 0, 0, (mSH, (mUp I 34 12 (nI a1)), L)) _
            refine mB 5 (s2 := (d + 2, 154, 42, [some (.ref 34), some (.int 0), some (.int 2), some (.int 1)], [.int 2, .ref 41, .int (-1)], 0, 0, (mSH, (mUp I 34 12 (nI a1)), L))) rfl ?_
            refine mRq (s2 := (d + 2, 154, 43, [some (.ref 34), some (.int 0), some (.int 2), some (.int 1)], [.int (I 41 2), .int (-1)], 0, 0, (mSH, (mUp I 34 12 (nI a1)), L))) rfl (by decide) ?_
            refine mBF (s3 := (d + 2, 154, 50, [some (.ref 34), some (.int 0), some (.int 2), some (.int 1)], [], 0, 0, (mSH, (mUp I 34 12 (nI a1)), L))) rfl (by first | (simp only [f41_0, f41_1, f41_2, f41_3, f41_4, f41_5, f41_6, f41_7, f41_8, f41_9, f41_10, f41_11, f41_12, f41_13, f41_14, f41_15, f41_16, f41_17, f41_18, f41_19, f41_20, f41_21, f41_22]; first | decide | rfl) | decide | rfl) ?_
            refine mB 9 (s2 := (d + 2, 154, 15, [some (.ref 34), some (.int 0), some (.int 3), some (.int 0)], [.int 3, .ref 41], 0, 0, (mSH, (mUp I 34 12 (nI a1)), L))) rfl ?_
            refine mRq (s2 := (d + 2, 154, 16, [some (.ref 34), some (.int 0), some (.int 3), some (.int 0)], [.int (I 41 3)], 0, 0, (mSH, (mUp I 34 12 (nI a1)), L))) rfl (by decide) ?_
            refine mB 1 (s2 := (d + 2, 154, 18, [some (.ref 34), some (.int 0), some (.int 3), some (.int 0)], [.int 32, .int (I 41 3)], 0, 0, (mSH, (mUp I 34 12 (nI a1)), L))) rfl ?_
            refine mBF (s3 := (d + 2, 154, 21, [some (.ref 34), some (.int 0), some (.int 3), some (.int 0)], [], 0, 0, (mSH, (mUp I 34 12 (nI a1)), L))) rfl (by first | (simp only [f41_0, f41_1, f41_2, f41_3, f41_4, f41_5, f41_6, f41_7, f41_8, f41_9, f41_10, f41_11, f41_12, f41_13, f41_14, f41_15, f41_16, f41_17, f41_18, f41_19, f41_20, f41_21, f41_22]; first | decide | rfl) | decide | rfl) ?_
            refine mB 1 (s2 := (d + 2, 154, 22, [some (.ref 34), some (.int 0), some (.int 3), some (.int 0)], [.int 0], 0, 0, (mSH, (mUp I 34 12 (nI a1)), L))) rfl ?_
            refine mBT (s2 := (d + 2, 154, 50, [some (.ref 34), some (.int 0), some (.int 3), some (.int 0)], [], 0, 0, (mSH, (mUp I 34 12 (nI a1)), L))) rfl (by decide) ?_
            refine mB 9 (s2 := (d + 2, 154, 15, [some (.ref 34), some (.int 0), some (.int 4), some (.int 0)], [.int 4, .ref 41], 0, 0, (mSH, (mUp I 34 12 (nI a1)), L))) rfl ?_
            refine mRq (s2 := (d + 2, 154, 16, [some (.ref 34), some (.int 0), some (.int 4), some (.int 0)], [.int (I 41 4)], 0, 0, (mSH, (mUp I 34 12 (nI a1)), L))) rfl (by decide) ?_
            refine mB 1 (s2 := (d + 2, 154, 18, [some (.ref 34), some (.int 0), some (.int 4), some (.int 0)], [.int 32, .int (I 41 4)], 0, 0, (mSH, (mUp I 34 12 (nI a1)), L))) rfl ?_
            refine mBF (s3 := (d + 2, 154, 21, [some (.ref 34), some (.int 0), some (.int 4), some (.int 0)], [], 0, 0, (mSH, (mUp I 34 12 (nI a1)), L))) rfl (by first | (simp only [f41_0, f41_1, f41_2, f41_3, f41_4, f41_5, f41_6, f41_7, f41_8, f41_9, f41_10, f41_11, f41_12, f41_13, f41_14, f41_15, f41_16, f41_17, f41_18, f41_19, f41_20, f41_21, f41_22]; first | decide | rfl) | decide | rfl) ?_
            refine mB 1 (s2 := (d + 2, 154, 22, [some (.ref 34), some (.int 0), some (.int 4), some (.int 0)], [.int 0], 0, 0, (mSH, (mUp I 34 12 (nI a1)), L))) rfl ?_
            refine mBT (s2 := (d + 2, 154, 50, [some (.ref 34), some (.int 0), some (.int 4), some (.int 0)], [], 0, 0, (mSH, (mUp I 34 12 (nI a1)), L))) rfl (by decide) ?_
            refine mB 9 (s2 := (d + 2, 154, 15, [some (.ref 34), some (.int 0), some (.int 5), some (.int 0)], [.int 5, .ref 41], 0, 0, (mSH, (mUp I 34 12 (nI a1)), L))) rfl ?_
            refine mRq (s2 := (d + 2, 154, 16, [some (.ref 34), some (.int 0), some (.int 5), some (.int 0)], [.int (I 41 5)], 0, 0, (mSH, (mUp I 34 12 (nI a1)), L))) rfl (by decide) ?_
            refine mB 1 (s2 := (d + 2, 154, 18, [some (.ref 34), some (.int 0), some (.int 5), some (.int 0)], [.int 32, .int (I 41 5)], 0, 0, (mSH, (mUp I 34 12 (nI a1)), L))) rfl ?_
            refine mBT (s2 := (d + 2, 154, 58, [some (.ref 34), some (.int 0), some (.int 5), some (.int 0)], [], 0, 0, (mSH, (mUp I 34 12 (nI a1)), L))) rfl (by first | (simp only [f41_0, f41_1, f41_2, f41_3, f41_4, f41_5, f41_6, f41_7, f41_8, f41_9, f41_10, f41_11, f41_12, f41_13, f41_14, f41_15, f41_16, f41_17, f41_18, f41_19, f41_20, f41_21, f41_22]; first | decide | rfl) | decide | rfl) ?_
            refine mB 1 (s2 := (d + 2, 154, 59, [some (.ref 34), some (.int 0), some (.int 5), some (.int 0)], [.int 0], 0, 0, (mSH, (mUp I 34 12 (nI a1)), L))) rfl ?_
            refine mBT (s2 := (d + 2, 154, 86, [some (.ref 34), some (.int 0), some (.int 5), some (.int 0)], [], 0, 0, (mSH, (mUp I 34 12 (nI a1)), L))) rfl (by decide) ?_
            refine mB 6 (s2 := (d + 2, 154, 94, [some (.ref 34), some (.int 0), some (.int 5), some (.int 0)], [.int 0, .int (nI a1), .ref 34], 0, 0, (mSH, (mUp I 34 12 (nI a1)), L))) rfl ?_
            refine mBT (s2 := (d + 2, 154, 101, [some (.ref 34), some (.int 0), some (.int 5), some (.int 0)], [.int (nI a1), .ref 34], 0, 0, (mSH, (mUp I 34 12 (nI a1)), L))) rfl (by decide) ?_
            refine mB 4 (s2 := (d + 2, 154, 107, [some (.ref 34), some (.int 0), some (.int 5), some (.int 0)], [.int 0], 0, 0, (mSH, (mUp (mUp I 34 12 (nI a1)) 34 12 ((nI a1) + 0)), L))) rfl ?_
            refine mRt (r := (some (.int 0))) (h := (mSH, (mUp (mUp I 34 12 (nI a1)) 34 12 ((nI a1) + 0)), L)) rfl rfl ?_
            exact mWq q0 hla1 (nI_add a1 0) (by omega)
          · intro l4
            show mWP mTb_ mFT ro (d + 2, 154, 35, [some (.ref 34), some (.int 0), some (.int 2), some (.int 1)], [.int (I 40 (a1 + 2))], 0, 0, (mSH, (mUp I 34 12 (nI a1)), L)) _
            refine mB 5 (s2 := (d + 2, 154, 42, [some (.ref 34), some (.int 0), some (.int 2), some (.int 1)], [.int 2, .ref 41, .int (I 40 (a1 + 2))], 0, 0, (mSH, (mUp I 34 12 (nI a1)), L))) rfl ?_
            refine mRq (s2 := (d + 2, 154, 43, [some (.ref 34), some (.int 0), some (.int 2), some (.int 1)], [.int (I 41 2), .int (I 40 (a1 + 2))], 0, 0, (mSH, (mUp I 34 12 (nI a1)), L))) rfl (by decide) ?_
            refine mBr (s2 := (d + 2, 154, 46, [some (.ref 34), some (.int 0), some (.int 2), some (.int 1)], [], 0, 0, (mSH, (mUp I 34 12 (nI a1)), L))) (s3 := (d + 2, 154, 50, [some (.ref 34), some (.int 0), some (.int 2), some (.int 1)], [], 0, 0, (mSH, (mUp I 34 12 (nI a1)), L))) rfl (fun c3 => ?_) (fun c3 => ?_)
            · refine mB 10 (s2 := (d + 2, 154, 15, [some (.ref 34), some (.int 0), some (.int 3), some (.int 1)], [.int 3, .ref 41], 0, 0, (mSH, (mUp I 34 12 (nI a1)), L))) rfl ?_
              refine mRq (s2 := (d + 2, 154, 16, [some (.ref 34), some (.int 0), some (.int 3), some (.int 1)], [.int (I 41 3)], 0, 0, (mSH, (mUp I 34 12 (nI a1)), L))) rfl (by decide) ?_
              refine mB 1 (s2 := (d + 2, 154, 18, [some (.ref 34), some (.int 0), some (.int 3), some (.int 1)], [.int 32, .int (I 41 3)], 0, 0, (mSH, (mUp I 34 12 (nI a1)), L))) rfl ?_
              refine mBF (s3 := (d + 2, 154, 21, [some (.ref 34), some (.int 0), some (.int 3), some (.int 1)], [], 0, 0, (mSH, (mUp I 34 12 (nI a1)), L))) rfl (by first | (simp only [f41_0, f41_1, f41_2, f41_3, f41_4, f41_5, f41_6, f41_7, f41_8, f41_9, f41_10, f41_11, f41_12, f41_13, f41_14, f41_15, f41_16, f41_17, f41_18, f41_19, f41_20, f41_21, f41_22]; first | decide | rfl) | decide | rfl) ?_
              refine mB 1 (s2 := (d + 2, 154, 22, [some (.ref 34), some (.int 0), some (.int 3), some (.int 1)], [.int 1], 0, 0, (mSH, (mUp I 34 12 (nI a1)), L))) rfl ?_
              refine mBF (s3 := (d + 2, 154, 25, [some (.ref 34), some (.int 0), some (.int 3), some (.int 1)], [], 0, 0, (mSH, (mUp I 34 12 (nI a1)), L))) rfl (by decide) ?_
              refine mB 5 (s2 := (d + 2, 154, 32, [some (.ref 34), some (.int 0), some (.int 3), some (.int 1)], [.int ((nI a1) + 3), .ref 34], 0, 0, (mSH, (mUp I 34 12 (nI a1)), L))) rfl ?_
              refine mCall (s2 := (d + 1, 151, 0, [some (.ref 34), some (.int ((nI a1) + 3))], [], 0, 0, (mSH, (mUp I 34 12 (nI a1)), L))) rfl ?_
              refine w_byte (k := a1 + 3) (hm) (nI_add a1 3) (by omega) ?_ ?_
              · show mWP mTb_ mFT ro (d + 2, 154, 35, [some (.ref 34), some (.int 0), some (.int 3), some (.int 1)], [.int (-1)], 0, 0, (mSH, (mUp I 34 12 (nI a1)), L)) _
                refine mB 5 (s2 := (d + 2, 154, 42, [some (.ref 34), some (.int 0), some (.int 3), some (.int 1)], [.int 3, .ref 41, .int (-1)], 0, 0, (mSH, (mUp I 34 12 (nI a1)), L))) rfl ?_
                refine mRq (s2 := (d + 2, 154, 43, [some (.ref 34), some (.int 0), some (.int 3), some (.int 1)], [.int (I 41 3), .int (-1)], 0, 0, (mSH, (mUp I 34 12 (nI a1)), L))) rfl (by decide) ?_
                refine mBF (s3 := (d + 2, 154, 50, [some (.ref 34), some (.int 0), some (.int 3), some (.int 1)], [], 0, 0, (mSH, (mUp I 34 12 (nI a1)), L))) rfl (by first | (simp only [f41_0, f41_1, f41_2, f41_3, f41_4, f41_5, f41_6, f41_7, f41_8, f41_9, f41_10, f41_11, f41_12, f41_13, f41_14, f41_15, f41_16, f41_17, f41_18, f41_19, f41_20, f41_21, f41_22]; first | decide | rfl) | decide | rfl) ?_
                refine mB 9 (s2 := (d + 2, 154, 15, [some (.ref 34), some (.int 0), some (.int 4), some (.int 0)], [.int 4, .ref 41], 0, 0, (mSH, (mUp I 34 12 (nI a1)), L))) rfl ?_
                refine mRq (s2 := (d + 2, 154, 16, [some (.ref 34), some (.int 0), some (.int 4), some (.int 0)], [.int (I 41 4)], 0, 0, (mSH, (mUp I 34 12 (nI a1)), L))) rfl (by decide) ?_
                refine mB 1 (s2 := (d + 2, 154, 18, [some (.ref 34), some (.int 0), some (.int 4), some (.int 0)], [.int 32, .int (I 41 4)], 0, 0, (mSH, (mUp I 34 12 (nI a1)), L))) rfl ?_
                refine mBF (s3 := (d + 2, 154, 21, [some (.ref 34), some (.int 0), some (.int 4), some (.int 0)], [], 0, 0, (mSH, (mUp I 34 12 (nI a1)), L))) rfl (by first | (simp only [f41_0, f41_1, f41_2, f41_3, f41_4, f41_5, f41_6, f41_7, f41_8, f41_9, f41_10, f41_11, f41_12, f41_13, f41_14, f41_15, f41_16, f41_17, f41_18, f41_19, f41_20, f41_21, f41_22]; first | decide | rfl) | decide | rfl) ?_
                refine mB 1 (s2 := (d + 2, 154, 22, [some (.ref 34), some (.int 0), some (.int 4), some (.int 0)], [.int 0], 0, 0, (mSH, (mUp I 34 12 (nI a1)), L))) rfl ?_
                refine mBT (s2 := (d + 2, 154, 50, [some (.ref 34), some (.int 0), some (.int 4), some (.int 0)], [], 0, 0, (mSH, (mUp I 34 12 (nI a1)), L))) rfl (by decide) ?_
                refine mB 9 (s2 := (d + 2, 154, 15, [some (.ref 34), some (.int 0), some (.int 5), some (.int 0)], [.int 5, .ref 41], 0, 0, (mSH, (mUp I 34 12 (nI a1)), L))) rfl ?_
                refine mRq (s2 := (d + 2, 154, 16, [some (.ref 34), some (.int 0), some (.int 5), some (.int 0)], [.int (I 41 5)], 0, 0, (mSH, (mUp I 34 12 (nI a1)), L))) rfl (by decide) ?_
                refine mB 1 (s2 := (d + 2, 154, 18, [some (.ref 34), some (.int 0), some (.int 5), some (.int 0)], [.int 32, .int (I 41 5)], 0, 0, (mSH, (mUp I 34 12 (nI a1)), L))) rfl ?_
                refine mBT (s2 := (d + 2, 154, 58, [some (.ref 34), some (.int 0), some (.int 5), some (.int 0)], [], 0, 0, (mSH, (mUp I 34 12 (nI a1)), L))) rfl (by first | (simp only [f41_0, f41_1, f41_2, f41_3, f41_4, f41_5, f41_6, f41_7, f41_8, f41_9, f41_10, f41_11, f41_12, f41_13, f41_14, f41_15, f41_16, f41_17, f41_18, f41_19, f41_20, f41_21, f41_22]; first | decide | rfl) | decide | rfl) ?_
                refine mB 1 (s2 := (d + 2, 154, 59, [some (.ref 34), some (.int 0), some (.int 5), some (.int 0)], [.int 0], 0, 0, (mSH, (mUp I 34 12 (nI a1)), L))) rfl ?_
                refine mBT (s2 := (d + 2, 154, 86, [some (.ref 34), some (.int 0), some (.int 5), some (.int 0)], [], 0, 0, (mSH, (mUp I 34 12 (nI a1)), L))) rfl (by decide) ?_
                refine mB 6 (s2 := (d + 2, 154, 94, [some (.ref 34), some (.int 0), some (.int 5), some (.int 0)], [.int 0, .int (nI a1), .ref 34], 0, 0, (mSH, (mUp I 34 12 (nI a1)), L))) rfl ?_
                refine mBT (s2 := (d + 2, 154, 101, [some (.ref 34), some (.int 0), some (.int 5), some (.int 0)], [.int (nI a1), .ref 34], 0, 0, (mSH, (mUp I 34 12 (nI a1)), L))) rfl (by decide) ?_
                refine mB 4 (s2 := (d + 2, 154, 107, [some (.ref 34), some (.int 0), some (.int 5), some (.int 0)], [.int 0], 0, 0, (mSH, (mUp (mUp I 34 12 (nI a1)) 34 12 ((nI a1) + 0)), L))) rfl ?_
                refine mRt (r := (some (.int 0))) (h := (mSH, (mUp (mUp I 34 12 (nI a1)) 34 12 ((nI a1) + 0)), L)) rfl rfl ?_
                exact mWq q0 hla1 (nI_add a1 0) (by omega)
              · intro l5
                show mWP mTb_ mFT ro (d + 2, 154, 35, [some (.ref 34), some (.int 0), some (.int 3), some (.int 1)], [.int (I 40 (a1 + 3))], 0, 0, (mSH, (mUp I 34 12 (nI a1)), L)) _
                refine mB 5 (s2 := (d + 2, 154, 42, [some (.ref 34), some (.int 0), some (.int 3), some (.int 1)], [.int 3, .ref 41, .int (I 40 (a1 + 3))], 0, 0, (mSH, (mUp I 34 12 (nI a1)), L))) rfl ?_
                refine mRq (s2 := (d + 2, 154, 43, [some (.ref 34), some (.int 0), some (.int 3), some (.int 1)], [.int (I 41 3), .int (I 40 (a1 + 3))], 0, 0, (mSH, (mUp I 34 12 (nI a1)), L))) rfl (by decide) ?_
                refine mBr (s2 := (d + 2, 154, 46, [some (.ref 34), some (.int 0), some (.int 3), some (.int 1)], [], 0, 0, (mSH, (mUp I 34 12 (nI a1)), L))) (s3 := (d + 2, 154, 50, [some (.ref 34), some (.int 0), some (.int 3), some (.int 1)], [], 0, 0, (mSH, (mUp I 34 12 (nI a1)), L))) rfl (fun c4 => ?_) (fun c4 => ?_)
                · refine mB 10 (s2 := (d + 2, 154, 15, [some (.ref 34), some (.int 0), some (.int 4), some (.int 1)], [.int 4, .ref 41], 0, 0, (mSH, (mUp I 34 12 (nI a1)), L))) rfl ?_
                  refine mRq (s2 := (d + 2, 154, 16, [some (.ref 34), some (.int 0), some (.int 4), some (.int 1)], [.int (I 41 4)], 0, 0, (mSH, (mUp I 34 12 (nI a1)), L))) rfl (by decide) ?_
                  refine mB 1 (s2 := (d + 2, 154, 18, [some (.ref 34), some (.int 0), some (.int 4), some (.int 1)], [.int 32, .int (I 41 4)], 0, 0, (mSH, (mUp I 34 12 (nI a1)), L))) rfl ?_
                  refine mBF (s3 := (d + 2, 154, 21, [some (.ref 34), some (.int 0), some (.int 4), some (.int 1)], [], 0, 0, (mSH, (mUp I 34 12 (nI a1)), L))) rfl (by first | (simp only [f41_0, f41_1, f41_2, f41_3, f41_4, f41_5, f41_6, f41_7, f41_8, f41_9, f41_10, f41_11, f41_12, f41_13, f41_14, f41_15, f41_16, f41_17, f41_18, f41_19, f41_20, f41_21, f41_22]; first | decide | rfl) | decide | rfl) ?_
                  refine mB 1 (s2 := (d + 2, 154, 22, [some (.ref 34), some (.int 0), some (.int 4), some (.int 1)], [.int 1], 0, 0, (mSH, (mUp I 34 12 (nI a1)), L))) rfl ?_
                  refine mBF (s3 := (d + 2, 154, 25, [some (.ref 34), some (.int 0), some (.int 4), some (.int 1)], [], 0, 0, (mSH, (mUp I 34 12 (nI a1)), L))) rfl (by decide) ?_
                  refine mB 5 (s2 := (d + 2, 154, 32, [some (.ref 34), some (.int 0), some (.int 4), some (.int 1)], [.int ((nI a1) + 4), .ref 34], 0, 0, (mSH, (mUp I 34 12 (nI a1)), L))) rfl ?_
                  refine mCall (s2 := (d + 1, 151, 0, [some (.ref 34), some (.int ((nI a1) + 4))], [], 0, 0, (mSH, (mUp I 34 12 (nI a1)), L))) rfl ?_
                  refine w_byte (k := a1 + 4) (hm) (nI_add a1 4) (by omega) ?_ ?_
                  · show mWP mTb_ mFT ro (d + 2, 154, 35, [some (.ref 34), some (.int 0), some (.int 4), some (.int 1)], [.int (-1)], 0, 0, (mSH, (mUp I 34 12 (nI a1)), L)) _
                    refine mB 5 (s2 := (d + 2, 154, 42, [some (.ref 34), some (.int 0), some (.int 4), some (.int 1)], [.int 4, .ref 41, .int (-1)], 0, 0, (mSH, (mUp I 34 12 (nI a1)), L))) rfl ?_
                    refine mRq (s2 := (d + 2, 154, 43, [some (.ref 34), some (.int 0), some (.int 4), some (.int 1)], [.int (I 41 4), .int (-1)], 0, 0, (mSH, (mUp I 34 12 (nI a1)), L))) rfl (by decide) ?_
                    refine mBF (s3 := (d + 2, 154, 50, [some (.ref 34), some (.int 0), some (.int 4), some (.int 1)], [], 0, 0, (mSH, (mUp I 34 12 (nI a1)), L))) rfl (by first | (simp only [f41_0, f41_1, f41_2, f41_3, f41_4, f41_5, f41_6, f41_7, f41_8, f41_9, f41_10, f41_11, f41_12, f41_13, f41_14, f41_15, f41_16, f41_17, f41_18, f41_19, f41_20, f41_21, f41_22]; first | decide | rfl) | decide | rfl) ?_
                    refine mB 9 (s2 := (d + 2, 154, 15, [some (.ref 34), some (.int 0), some (.int 5), some (.int 0)], [.int 5, .ref 41], 0, 0, (mSH, (mUp I 34 12 (nI a1)), L))) rfl ?_
                    refine mRq (s2 := (d + 2, 154, 16, [some (.ref 34), some (.int 0), some (.int 5), some (.int 0)], [.int (I 41 5)], 0, 0, (mSH, (mUp I 34 12 (nI a1)), L))) rfl (by decide) ?_
                    refine mB 1 (s2 := (d + 2, 154, 18, [some (.ref 34), some (.int 0), some (.int 5), some (.int 0)], [.int 32, .int (I 41 5)], 0, 0, (mSH, (mUp I 34 12 (nI a1)), L))) rfl ?_
                    refine mBT (s2 := (d + 2, 154, 58, [some (.ref 34), some (.int 0), some (.int 5), some (.int 0)], [], 0, 0, (mSH, (mUp I 34 12 (nI a1)), L))) rfl (by first | (simp only [f41_0, f41_1, f41_2, f41_3, f41_4, f41_5, f41_6, f41_7, f41_8, f41_9, f41_10, f41_11, f41_12, f41_13, f41_14, f41_15, f41_16, f41_17, f41_18, f41_19, f41_20, f41_21, f41_22]; first | decide | rfl) | decide | rfl) ?_
                    refine mB 1 (s2 := (d + 2, 154, 59, [some (.ref 34), some (.int 0), some (.int 5), some (.int 0)], [.int 0], 0, 0, (mSH, (mUp I 34 12 (nI a1)), L))) rfl ?_
                    refine mBT (s2 := (d + 2, 154, 86, [some (.ref 34), some (.int 0), some (.int 5), some (.int 0)], [], 0, 0, (mSH, (mUp I 34 12 (nI a1)), L))) rfl (by decide) ?_
                    refine mB 6 (s2 := (d + 2, 154, 94, [some (.ref 34), some (.int 0), some (.int 5), some (.int 0)], [.int 0, .int (nI a1), .ref 34], 0, 0, (mSH, (mUp I 34 12 (nI a1)), L))) rfl ?_
                    refine mBT (s2 := (d + 2, 154, 101, [some (.ref 34), some (.int 0), some (.int 5), some (.int 0)], [.int (nI a1), .ref 34], 0, 0, (mSH, (mUp I 34 12 (nI a1)), L))) rfl (by decide) ?_
                    refine mB 4 (s2 := (d + 2, 154, 107, [some (.ref 34), some (.int 0), some (.int 5), some (.int 0)], [.int 0], 0, 0, (mSH, (mUp (mUp I 34 12 (nI a1)) 34 12 ((nI a1) + 0)), L))) rfl ?_
                    refine mRt (r := (some (.int 0))) (h := (mSH, (mUp (mUp I 34 12 (nI a1)) 34 12 ((nI a1) + 0)), L)) rfl rfl ?_
                    exact mWq q0 hla1 (nI_add a1 0) (by omega)
                  · intro l6
                    show mWP mTb_ mFT ro (d + 2, 154, 35, [some (.ref 34), some (.int 0), some (.int 4), some (.int 1)], [.int (I 40 (a1 + 4))], 0, 0, (mSH, (mUp I 34 12 (nI a1)), L)) _
                    refine mB 5 (s2 := (d + 2, 154, 42, [some (.ref 34), some (.int 0), some (.int 4), some (.int 1)], [.int 4, .ref 41, .int (I 40 (a1 + 4))], 0, 0, (mSH, (mUp I 34 12 (nI a1)), L))) rfl ?_
                    refine mRq (s2 := (d + 2, 154, 43, [some (.ref 34), some (.int 0), some (.int 4), some (.int 1)], [.int (I 41 4), .int (I 40 (a1 + 4))], 0, 0, (mSH, (mUp I 34 12 (nI a1)), L))) rfl (by decide) ?_
                    refine mBr (s2 := (d + 2, 154, 46, [some (.ref 34), some (.int 0), some (.int 4), some (.int 1)], [], 0, 0, (mSH, (mUp I 34 12 (nI a1)), L))) (s3 := (d + 2, 154, 50, [some (.ref 34), some (.int 0), some (.int 4), some (.int 1)], [], 0, 0, (mSH, (mUp I 34 12 (nI a1)), L))) rfl (fun c5 => ?_) (fun c5 => ?_)
                    · refine mB 10 (s2 := (d + 2, 154, 15, [some (.ref 34), some (.int 0), some (.int 5), some (.int 1)], [.int 5, .ref 41], 0, 0, (mSH, (mUp I 34 12 (nI a1)), L))) rfl ?_
                      refine mRq (s2 := (d + 2, 154, 16, [some (.ref 34), some (.int 0), some (.int 5), some (.int 1)], [.int (I 41 5)], 0, 0, (mSH, (mUp I 34 12 (nI a1)), L))) rfl (by decide) ?_
                      refine mB 1 (s2 := (d + 2, 154, 18, [some (.ref 34), some (.int 0), some (.int 5), some (.int 1)], [.int 32, .int (I 41 5)], 0, 0, (mSH, (mUp I 34 12 (nI a1)), L))) rfl ?_
                      refine mBT (s2 := (d + 2, 154, 58, [some (.ref 34), some (.int 0), some (.int 5), some (.int 1)], [], 0, 0, (mSH, (mUp I 34 12 (nI a1)), L))) rfl (by first | (simp only [f41_0, f41_1, f41_2, f41_3, f41_4, f41_5, f41_6, f41_7, f41_8, f41_9, f41_10, f41_11, f41_12, f41_13, f41_14, f41_15, f41_16, f41_17, f41_18, f41_19, f41_20, f41_21, f41_22]; first | decide | rfl) | decide | rfl) ?_
                      refine mB 1 (s2 := (d + 2, 154, 59, [some (.ref 34), some (.int 0), some (.int 5), some (.int 1)], [.int 1], 0, 0, (mSH, (mUp I 34 12 (nI a1)), L))) rfl ?_
                      refine mBF (s3 := (d + 2, 154, 62, [some (.ref 34), some (.int 0), some (.int 5), some (.int 1)], [], 0, 0, (mSH, (mUp I 34 12 (nI a1)), L))) rfl (by decide) ?_
                      refine mB 5 (s2 := (d + 2, 154, 69, [some (.ref 34), some (.int 0), some (.int 5), some (.int 1)], [.int ((nI a1) + 5), .ref 34], 0, 0, (mSH, (mUp I 34 12 (nI a1)), L))) rfl ?_
                      refine mCall (s2 := (d + 1, 151, 0, [some (.ref 34), some (.int ((nI a1) + 5))], [], 0, 0, (mSH, (mUp I 34 12 (nI a1)), L))) rfl ?_
                      refine w_byte (k := a1 + 5) (hm) (nI_add a1 5) (by omega) ?_ ?_
                      · show mWP mTb_ mFT ro (d + 2, 154, 72, [some (.ref 34), some (.int 0), some (.int 5), some (.int 1)], [.int (-1)], 0, 0, (mSH, (mUp I 34 12 (nI a1)), L)) _
                        refine mB 2 (s2 := (d + 2, 154, 76, [some (.ref 34), some (.int 0), some (.int 5), some (.int 1)], [.int 122, .int 97, .int (-1)], 0, 0, (mSH, (mUp I 34 12 (nI a1)), L))) rfl ?_
                        refine mCall (s2 := (d + 1, 112, 0, [some (.int (-1)), some (.int 97), some (.int 122)], [], 0, 0, (mSH, (mUp I 34 12 (nI a1)), L))) rfl ?_
                        refine mB 2 (s2 := (d + 1, 112, 2, [some (.int (-1)), some (.int 97), some (.int 122)], [.int 97, .int (-1)], 0, 0, (mSH, (mUp I 34 12 (nI a1)), L))) rfl ?_
                        refine mBT (s2 := (d + 1, 112, 14, [some (.int (-1)), some (.int 97), some (.int 122)], [], 0, 0, (mSH, (mUp I 34 12 (nI a1)), L))) rfl (by decide) ?_
                        refine mB 1 (s2 := (d + 1, 112, 15, [some (.int (-1)), some (.int 97), some (.int 122)], [.int 0], 0, 0, (mSH, (mUp I 34 12 (nI a1)), L))) rfl ?_
                        refine mRt (r := (some (.int 0))) (h := (mSH, (mUp I 34 12 (nI a1)), L)) rfl rfl ?_
                        show mWP mTb_ mFT ro (d + 2, 154, 79, [some (.ref 34), some (.int 0), some (.int 5), some (.int 1)], [.int 0], 0, 0, (mSH, (mUp I 34 12 (nI a1)), L)) _
                        refine mBT (s2 := (d + 2, 154, 82, [some (.ref 34), some (.int 0), some (.int 5), some (.int 1)], [], 0, 0, (mSH, (mUp I 34 12 (nI a1)), L))) rfl (by decide) ?_
                        refine mB 7 (s2 := (d + 2, 154, 94, [some (.ref 34), some (.int 0), some (.int 5), some (.int 1)], [.int 1, .int (nI a1), .ref 34], 0, 0, (mSH, (mUp I 34 12 (nI a1)), L))) rfl ?_
                        refine mBF (s3 := (d + 2, 154, 97, [some (.ref 34), some (.int 0), some (.int 5), some (.int 1)], [.int (nI a1), .ref 34], 0, 0, (mSH, (mUp I 34 12 (nI a1)), L))) rfl (by decide) ?_
                        refine mB 5 (s2 := (d + 2, 154, 107, [some (.ref 34), some (.int 0), some (.int 5), some (.int 1)], [.int 1], 0, 0, (mSH, (mUp (mUp I 34 12 (nI a1)) 34 12 ((nI a1) + 5)), L))) rfl ?_
                        refine mRt (r := (some (.int 1))) (h := (mSH, (mUp (mUp I 34 12 (nI a1)) 34 12 ((nI a1) + 5)), L)) rfl rfl ?_
                        exact mWq q1 hla1 (nI_add a1 5) (by omega)
                      · intro l7
                        show mWP mTb_ mFT ro (d + 2, 154, 72, [some (.ref 34), some (.int 0), some (.int 5), some (.int 1)], [.int (I 40 (a1 + 5))], 0, 0, (mSH, (mUp I 34 12 (nI a1)), L)) _
                        refine mB 2 (s2 := (d + 2, 154, 76, [some (.ref 34), some (.int 0), some (.int 5), some (.int 1)], [.int 122, .int 97, .int (I 40 (a1 + 5))], 0, 0, (mSH, (mUp I 34 12 (nI a1)), L))) rfl ?_
                        refine mCall (s2 := (d + 1, 112, 0, [some (.int (I 40 (a1 + 5))), some (.int 97), some (.int 122)], [], 0, 0, (mSH, (mUp I 34 12 (nI a1)), L))) rfl ?_
                        refine mB 2 (s2 := (d + 1, 112, 2, [some (.int (I 40 (a1 + 5))), some (.int 97), some (.int 122)], [.int 97, .int (I 40 (a1 + 5))], 0, 0, (mSH, (mUp I 34 12 (nI a1)), L))) rfl ?_
                        refine mBr (s2 := (d + 1, 112, 14, [some (.int (I 40 (a1 + 5))), some (.int 97), some (.int 122)], [], 0, 0, (mSH, (mUp I 34 12 (nI a1)), L))) (s3 := (d + 1, 112, 5, [some (.int (I 40 (a1 + 5))), some (.int 97), some (.int 122)], [], 0, 0, (mSH, (mUp I 34 12 (nI a1)), L))) rfl (fun c6 => ?_) (fun c6 => ?_)
                        · refine mB 1 (s2 := (d + 1, 112, 15, [some (.int (I 40 (a1 + 5))), some (.int 97), some (.int 122)], [.int 0], 0, 0, (mSH, (mUp I 34 12 (nI a1)), L))) rfl ?_
                          refine mRt (r := (some (.int 0))) (h := (mSH, (mUp I 34 12 (nI a1)), L)) rfl rfl ?_
                          show mWP mTb_ mFT ro (d + 2, 154, 79, [some (.ref 34), some (.int 0), some (.int 5), some (.int 1)], [.int 0], 0, 0, (mSH, (mUp I 34 12 (nI a1)), L)) _
                          refine mBT (s2 := (d + 2, 154, 82, [some (.ref 34), some (.int 0), some (.int 5), some (.int 1)], [], 0, 0, (mSH, (mUp I 34 12 (nI a1)), L))) rfl (by decide) ?_
                          refine mB 7 (s2 := (d + 2, 154, 94, [some (.ref 34), some (.int 0), some (.int 5), some (.int 1)], [.int 1, .int (nI a1), .ref 34], 0, 0, (mSH, (mUp I 34 12 (nI a1)), L))) rfl ?_
                          refine mBF (s3 := (d + 2, 154, 97, [some (.ref 34), some (.int 0), some (.int 5), some (.int 1)], [.int (nI a1), .ref 34], 0, 0, (mSH, (mUp I 34 12 (nI a1)), L))) rfl (by decide) ?_
                          refine mB 5 (s2 := (d + 2, 154, 107, [some (.ref 34), some (.int 0), some (.int 5), some (.int 1)], [.int 1], 0, 0, (mSH, (mUp (mUp I 34 12 (nI a1)) 34 12 ((nI a1) + 5)), L))) rfl ?_
                          refine mRt (r := (some (.int 1))) (h := (mSH, (mUp (mUp I 34 12 (nI a1)) 34 12 ((nI a1) + 5)), L)) rfl rfl ?_
                          exact mWq q1 hla1 (nI_add a1 5) (by omega)
                        · refine mB 2 (s2 := (d + 1, 112, 7, [some (.int (I 40 (a1 + 5))), some (.int 97), some (.int 122)], [.int 122, .int (I 40 (a1 + 5))], 0, 0, (mSH, (mUp I 34 12 (nI a1)), L))) rfl ?_
                          refine mBr (s2 := (d + 1, 112, 14, [some (.int (I 40 (a1 + 5))), some (.int 97), some (.int 122)], [], 0, 0, (mSH, (mUp I 34 12 (nI a1)), L))) (s3 := (d + 1, 112, 10, [some (.int (I 40 (a1 + 5))), some (.int 97), some (.int 122)], [], 0, 0, (mSH, (mUp I 34 12 (nI a1)), L))) rfl (fun c7 => ?_) (fun c7 => ?_)
                          · refine mB 1 (s2 := (d + 1, 112, 15, [some (.int (I 40 (a1 + 5))), some (.int 97), some (.int 122)], [.int 0], 0, 0, (mSH, (mUp I 34 12 (nI a1)), L))) rfl ?_
                            refine mRt (r := (some (.int 0))) (h := (mSH, (mUp I 34 12 (nI a1)), L)) rfl rfl ?_
                            show mWP mTb_ mFT ro (d + 2, 154, 79, [some (.ref 34), some (.int 0), some (.int 5), some (.int 1)], [.int 0], 0, 0, (mSH, (mUp I 34 12 (nI a1)), L)) _
                            refine mBT (s2 := (d + 2, 154, 82, [some (.ref 34), some (.int 0), some (.int 5), some (.int 1)], [], 0, 0, (mSH, (mUp I 34 12 (nI a1)), L))) rfl (by decide) ?_
                            refine mB 7 (s2 := (d + 2, 154, 94, [some (.ref 34), some (.int 0), some (.int 5), some (.int 1)], [.int 1, .int (nI a1), .ref 34], 0, 0, (mSH, (mUp I 34 12 (nI a1)), L))) rfl ?_
                            refine mBF (s3 := (d + 2, 154, 97, [some (.ref 34), some (.int 0), some (.int 5), some (.int 1)], [.int (nI a1), .ref 34], 0, 0, (mSH, (mUp I 34 12 (nI a1)), L))) rfl (by decide) ?_
                            refine mB 5 (s2 := (d + 2, 154, 107, [some (.ref 34), some (.int 0), some (.int 5), some (.int 1)], [.int 1], 0, 0, (mSH, (mUp (mUp I 34 12 (nI a1)) 34 12 ((nI a1) + 5)), L))) rfl ?_
                            refine mRt (r := (some (.int 1))) (h := (mSH, (mUp (mUp I 34 12 (nI a1)) 34 12 ((nI a1) + 5)), L)) rfl rfl ?_
                            exact mWq q1 hla1 (nI_add a1 5) (by omega)
                          · refine mB 2 (s2 := (d + 1, 112, 15, [some (.int (I 40 (a1 + 5))), some (.int 97), some (.int 122)], [.int 1], 0, 0, (mSH, (mUp I 34 12 (nI a1)), L))) rfl ?_
                            refine mRt (r := (some (.int 1))) (h := (mSH, (mUp I 34 12 (nI a1)), L)) rfl rfl ?_
                            show mWP mTb_ mFT ro (d + 2, 154, 79, [some (.ref 34), some (.int 0), some (.int 5), some (.int 1)], [.int 1], 0, 0, (mSH, (mUp I 34 12 (nI a1)), L)) _
                            refine mBF (s3 := (d + 2, 154, 86, [some (.ref 34), some (.int 0), some (.int 5), some (.int 1)], [], 0, 0, (mSH, (mUp I 34 12 (nI a1)), L))) rfl (by decide) ?_
                            refine mB 6 (s2 := (d + 2, 154, 94, [some (.ref 34), some (.int 0), some (.int 5), some (.int 0)], [.int 0, .int (nI a1), .ref 34], 0, 0, (mSH, (mUp I 34 12 (nI a1)), L))) rfl ?_
                            refine mBT (s2 := (d + 2, 154, 101, [some (.ref 34), some (.int 0), some (.int 5), some (.int 0)], [.int (nI a1), .ref 34], 0, 0, (mSH, (mUp I 34 12 (nI a1)), L))) rfl (by decide) ?_
                            refine mB 4 (s2 := (d + 2, 154, 107, [some (.ref 34), some (.int 0), some (.int 5), some (.int 0)], [.int 0], 0, 0, (mSH, (mUp (mUp I 34 12 (nI a1)) 34 12 ((nI a1) + 0)), L))) rfl ?_
                            refine mRt (r := (some (.int 0))) (h := (mSH, (mUp (mUp I 34 12 (nI a1)) 34 12 ((nI a1) + 0)), L)) rfl rfl ?_
                            exact mWq q0 hla1 (nI_add a1 0) (by omega)
                    · refine mB 9 (s2 := (d + 2, 154, 15, [some (.ref 34), some (.int 0), some (.int 5), some (.int 0)], [.int 5, .ref 41], 0, 0, (mSH, (mUp I 34 12 (nI a1)), L))) rfl ?_
                      refine mRq (s2 := (d + 2, 154, 16, [some (.ref 34), some (.int 0), some (.int 5), some (.int 0)], [.int (I 41 5)], 0, 0, (mSH, (mUp I 34 12 (nI a1)), L))) rfl (by decide) ?_
                      refine mB 1 (s2 := (d + 2, 154, 18, [some (.ref 34), some (.int 0), some (.int 5), some (.int 0)], [.int 32, .int (I 41 5)], 0, 0, (mSH, (mUp I 34 12 (nI a1)), L))) rfl ?_
                      refine mBT (s2 := (d + 2, 154, 58, [some (.ref 34), some (.int 0), some (.int 5), some (.int 0)], [], 0, 0, (mSH, (mUp I 34 12 (nI a1)), L))) rfl (by first | (simp only [f41_0, f41_1, f41_2, f41_3, f41_4, f41_5, f41_6, f41_7, f41_8, f41_9, f41_10, f41_11, f41_12, f41_13, f41_14, f41_15, f41_16, f41_17, f41_18, f41_19, f41_20, f41_21, f41_22]; first | decide | rfl) | decide | rfl) ?_
                      refine mB 1 (s2 := (d + 2, 154, 59, [some (.ref 34), some (.int 0), some (.int 5), some (.int 0)], [.int 0], 0, 0, (mSH, (mUp I 34 12 (nI a1)), L))) rfl ?_
                      refine mBT (s2 := (d + 2, 154, 86, [some (.ref 34), some (.int 0), some (.int 5), some (.int 0)], [], 0, 0, (mSH, (mUp I 34 12 (nI a1)), L))) rfl (by decide) ?_
                      refine mB 6 (s2 := (d + 2, 154, 94, [some (.ref 34), some (.int 0), some (.int 5), some (.int 0)], [.int 0, .int (nI a1), .ref 34], 0, 0, (mSH, (mUp I 34 12 (nI a1)), L))) rfl ?_
                      refine mBT (s2 := (d + 2, 154, 101, [some (.ref 34), some (.int 0), some (.int 5), some (.int 0)], [.int (nI a1), .ref 34], 0, 0, (mSH, (mUp I 34 12 (nI a1)), L))) rfl (by decide) ?_
                      refine mB 4 (s2 := (d + 2, 154, 107, [some (.ref 34), some (.int 0), some (.int 5), some (.int 0)], [.int 0], 0, 0, (mSH, (mUp (mUp I 34 12 (nI a1)) 34 12 ((nI a1) + 0)), L))) rfl ?_
                      refine mRt (r := (some (.int 0))) (h := (mSH, (mUp (mUp I 34 12 (nI a1)) 34 12 ((nI a1) + 0)), L)) rfl rfl ?_
                      exact mWq q0 hla1 (nI_add a1 0) (by omega)
                · refine mB 9 (s2 := (d + 2, 154, 15, [some (.ref 34), some (.int 0), some (.int 4), some (.int 0)], [.int 4, .ref 41], 0, 0, (mSH, (mUp I 34 12 (nI a1)), L))) rfl ?_
                  refine mRq (s2 := (d + 2, 154, 16, [some (.ref 34), some (.int 0), some (.int 4), some (.int 0)], [.int (I 41 4)], 0, 0, (mSH, (mUp I 34 12 (nI a1)), L))) rfl (by decide) ?_
                  refine mB 1 (s2 := (d + 2, 154, 18, [some (.ref 34), some (.int 0), some (.int 4), some (.int 0)], [.int 32, .int (I 41 4)], 0, 0, (mSH, (mUp I 34 12 (nI a1)), L))) rfl ?_
                  refine mBF (s3 := (d + 2, 154, 21, [some (.ref 34), some (.int 0), some (.int 4), some (.int 0)], [], 0, 0, (mSH, (mUp I 34 12 (nI a1)), L))) rfl (by first | (simp only [f41_0, f41_1, f41_2, f41_3, f41_4, f41_5, f41_6, f41_7, f41_8, f41_9, f41_10, f41_11, f41_12, f41_13, f41_14, f41_15, f41_16, f41_17, f41_18, f41_19, f41_20, f41_21, f41_22]; first | decide | rfl) | decide | rfl) ?_
                  refine mB 1 (s2 := (d + 2, 154, 22, [some (.ref 34), some (.int 0), some (.int 4), some (.int 0)], [.int 0], 0, 0, (mSH, (mUp I 34 12 (nI a1)), L))) rfl ?_
                  refine mBT (s2 := (d + 2, 154, 50, [some (.ref 34), some (.int 0), some (.int 4), some (.int 0)], [], 0, 0, (mSH, (mUp I 34 12 (nI a1)), L))) rfl (by decide) ?_
                  refine mB 9 (s2 := (d + 2, 154, 15, [some (.ref 34), some (.int 0), some (.int 5), some (.int 0)], [.int 5, .ref 41], 0, 0, (mSH, (mUp I 34 12 (nI a1)), L))) rfl ?_
                  refine mRq (s2 := (d + 2, 154, 16, [some (.ref 34), some (.int 0), some (.int 5), some (.int 0)], [.int (I 41 5)], 0, 0, (mSH, (mUp I 34 12 (nI a1)), L))) rfl (by decide) ?_
                  refine mB 1 (s2 := (d + 2, 154, 18, [some (.ref 34), some (.int 0), some (.int 5), some (.int 0)], [.int 32, .int (I 41 5)], 0, 0, (mSH, (mUp I 34 12 (nI a1)), L))) rfl ?_
                  refine mBT (s2 := (d + 2, 154, 58, [some (.ref 34), some (.int 0), some (.int 5), some (.int 0)], [], 0, 0, (mSH, (mUp I 34 12 (nI a1)), L))) rfl (by first | (simp only [f41_0, f41_1, f41_2, f41_3, f41_4, f41_5, f41_6, f41_7, f41_8, f41_9, f41_10, f41_11, f41_12, f41_13, f41_14, f41_15, f41_16, f41_17, f41_18, f41_19, f41_20, f41_21, f41_22]; first | decide | rfl) | decide | rfl) ?_
                  refine mB 1 (s2 := (d + 2, 154, 59, [some (.ref 34), some (.int 0), some (.int 5), some (.int 0)], [.int 0], 0, 0, (mSH, (mUp I 34 12 (nI a1)), L))) rfl ?_
                  refine mBT (s2 := (d + 2, 154, 86, [some (.ref 34), some (.int 0), some (.int 5), some (.int 0)], [], 0, 0, (mSH, (mUp I 34 12 (nI a1)), L))) rfl (by decide) ?_
                  refine mB 6 (s2 := (d + 2, 154, 94, [some (.ref 34), some (.int 0), some (.int 5), some (.int 0)], [.int 0, .int (nI a1), .ref 34], 0, 0, (mSH, (mUp I 34 12 (nI a1)), L))) rfl ?_
                  refine mBT (s2 := (d + 2, 154, 101, [some (.ref 34), some (.int 0), some (.int 5), some (.int 0)], [.int (nI a1), .ref 34], 0, 0, (mSH, (mUp I 34 12 (nI a1)), L))) rfl (by decide) ?_
                  refine mB 4 (s2 := (d + 2, 154, 107, [some (.ref 34), some (.int 0), some (.int 5), some (.int 0)], [.int 0], 0, 0, (mSH, (mUp (mUp I 34 12 (nI a1)) 34 12 ((nI a1) + 0)), L))) rfl ?_
                  refine mRt (r := (some (.int 0))) (h := (mSH, (mUp (mUp I 34 12 (nI a1)) 34 12 ((nI a1) + 0)), L)) rfl rfl ?_
                  exact mWq q0 hla1 (nI_add a1 0) (by omega)
            · refine mB 9 (s2 := (d + 2, 154, 15, [some (.ref 34), some (.int 0), some (.int 3), some (.int 0)], [.int 3, .ref 41], 0, 0, (mSH, (mUp I 34 12 (nI a1)), L))) rfl ?_
              refine mRq (s2 := (d + 2, 154, 16, [some (.ref 34), some (.int 0), some (.int 3), some (.int 0)], [.int (I 41 3)], 0, 0, (mSH, (mUp I 34 12 (nI a1)), L))) rfl (by decide) ?_
              refine mB 1 (s2 := (d + 2, 154, 18, [some (.ref 34), some (.int 0), some (.int 3), some (.int 0)], [.int 32, .int (I 41 3)], 0, 0, (mSH, (mUp I 34 12 (nI a1)), L))) rfl ?_
              refine mBF (s3 := (d + 2, 154, 21, [some (.ref 34), some (.int 0), some (.int 3), some (.int 0)], [], 0, 0, (mSH, (mUp I 34 12 (nI a1)), L))) rfl (by first | (simp only [f41_0, f41_1, f41_2, f41_3, f41_4, f41_5, f41_6, f41_7, f41_8, f41_9, f41_10, f41_11, f41_12, f41_13, f41_14, f41_15, f41_16, f41_17, f41_18, f41_19, f41_20, f41_21, f41_22]; first | decide | rfl) | decide | rfl) ?_
              refine mB 1 (s2 := (d + 2, 154, 22, [some (.ref 34), some (.int 0), some (.int 3), some (.int 0)], [.int 0], 0, 0, (mSH, (mUp I 34 12 (nI a1)), L))) rfl ?_
              refine mBT (s2 := (d + 2, 154, 50, [some (.ref 34), some (.int 0), some (.int 3), some (.int 0)], [], 0, 0, (mSH, (mUp I 34 12 (nI a1)), L))) rfl (by decide) ?_
              refine mB 9 (s2 := (d + 2, 154, 15, [some (.ref 34), some (.int 0), some (.int 4), some (.int 0)], [.int 4, .ref 41], 0, 0, (mSH, (mUp I 34 12 (nI a1)), L))) rfl ?_
              refine mRq (s2 := (d + 2, 154, 16, [some (.ref 34), some (.int 0), some (.int 4), some (.int 0)], [.int (I 41 4)], 0, 0, (mSH, (mUp I 34 12 (nI a1)), L))) rfl (by decide) ?_
              refine mB 1 (s2 := (d + 2, 154, 18, [some (.ref 34), some (.int 0), some (.int 4), some (.int 0)], [.int 32, .int (I 41 4)], 0, 0, (mSH, (mUp I 34 12 (nI a1)), L))) rfl ?_
              refine mBF (s3 := (d + 2, 154, 21, [some (.ref 34), some (.int 0), some (.int 4), some (.int 0)], [], 0, 0, (mSH, (mUp I 34 12 (nI a1)), L))) rfl (by first | (simp only [f41_0, f41_1, f41_2, f41_3, f41_4, f41_5, f41_6, f41_7, f41_8, f41_9, f41_10, f41_11, f41_12, f41_13, f41_14, f41_15, f41_16, f41_17, f41_18, f41_19, f41_20, f41_21, f41_22]; first | decide | rfl) | decide | rfl) ?_
              refine mB 1 (s2 := (d + 2, 154, 22, [some (.ref 34), some (.int 0), some (.int 4), some (.int 0)], [.int 0], 0, 0, (mSH, (mUp I 34 12 (nI a1)), L))) rfl ?_
              refine mBT (s2 := (d + 2, 154, 50, [some (.ref 34), some (.int 0), some (.int 4), some (.int 0)], [], 0, 0, (mSH, (mUp I 34 12 (nI a1)), L))) rfl (by decide) ?_
              refine mB 9 (s2 := (d + 2, 154, 15, [some (.ref 34), some (.int 0), some (.int 5), some (.int 0)], [.int 5, .ref 41], 0, 0, (mSH, (mUp I 34 12 (nI a1)), L))) rfl ?_
              refine mRq (s2 := (d + 2, 154, 16, [some (.ref 34), some (.int 0), some (.int 5), some (.int 0)], [.int (I 41 5)], 0, 0, (mSH, (mUp I 34 12 (nI a1)), L))) rfl (by decide) ?_
              refine mB 1 (s2 := (d + 2, 154, 18, [some (.ref 34), some (.int 0), some (.int 5), some (.int 0)], [.int 32, .int (I 41 5)], 0, 0, (mSH, (mUp I 34 12 (nI a1)), L))) rfl ?_
              refine mBT (s2 := (d + 2, 154, 58, [some (.ref 34), some (.int 0), some (.int 5), some (.int 0)], [], 0, 0, (mSH, (mUp I 34 12 (nI a1)), L))) rfl (by first | (simp only [f41_0, f41_1, f41_2, f41_3, f41_4, f41_5, f41_6, f41_7, f41_8, f41_9, f41_10, f41_11, f41_12, f41_13, f41_14, f41_15, f41_16, f41_17, f41_18, f41_19, f41_20, f41_21, f41_22]; first | decide | rfl) | decide | rfl) ?_
              refine mB 1 (s2 := (d + 2, 154, 59, [some (.ref 34), some (.int 0), some (.int 5), some (.int 0)], [.int 0], 0, 0, (mSH, (mUp I 34 12 (nI a1)), L))) rfl ?_
              refine mBT (s2 := (d + 2, 154, 86, [some (.ref 34), some (.int 0), some (.int 5), some (.int 0)], [], 0, 0, (mSH, (mUp I 34 12 (nI a1)), L))) rfl (by decide) ?_
              refine mB 6 (s2 := (d + 2, 154, 94, [some (.ref 34), some (.int 0), some (.int 5), some (.int 0)], [.int 0, .int (nI a1), .ref 34], 0, 0, (mSH, (mUp I 34 12 (nI a1)), L))) rfl ?_
              refine mBT (s2 := (d + 2, 154, 101, [some (.ref 34), some (.int 0), some (.int 5), some (.int 0)], [.int (nI a1), .ref 34], 0, 0, (mSH, (mUp I 34 12 (nI a1)), L))) rfl (by decide) ?_
              refine mB 4 (s2 := (d + 2, 154, 107, [some (.ref 34), some (.int 0), some (.int 5), some (.int 0)], [.int 0], 0, 0, (mSH, (mUp (mUp I 34 12 (nI a1)) 34 12 ((nI a1) + 0)), L))) rfl ?_
              refine mRt (r := (some (.int 0))) (h := (mSH, (mUp (mUp I 34 12 (nI a1)) 34 12 ((nI a1) + 0)), L)) rfl rfl ?_
              exact mWq q0 hla1 (nI_add a1 0) (by omega)
        · refine mB 9 (s2 := (d + 2, 154, 15, [some (.ref 34), some (.int 0), some (.int 2), some (.int 0)], [.int 2, .ref 41], 0, 0, (mSH, (mUp I 34 12 (nI a1)), L))) rfl ?_
          refine mRq (s2 := (d + 2, 154, 16, [some (.ref 34), some (.int 0), some (.int 2), some (.int 0)], [.int (I 41 2)], 0, 0, (mSH, (mUp I 34 12 (nI a1)), L))) rfl (by decide) ?_
          refine mB 1 (s2 := (d + 2, 154, 18, [some (.ref 34), some (.int 0), some (.int 2), some (.int 0)], [.int 32, .int (I 41 2)], 0, 0, (mSH, (mUp I 34 12 (nI a1)), L))) rfl ?_
          refine mBF (s3 := (d + 2, 154, 21, [some (.ref 34), some (.int 0), some (.int 2), some (.int 0)], [], 0, 0, (mSH, (mUp I 34 12 (nI a1)), L))) rfl (by first | (simp only [f41_0, f41_1, f41_2, f41_3, f41_4, f41_5, f41_6, f41_7, f41_8, f41_9, f41_10, f41_11, f41_12, f41_13, f41_14, f41_15, f41_16, f41_17, f41_18, f41_19, f41_20, f41_21, f41_22]; first | decide | rfl) | decide | rfl) ?_
          refine mB 1 (s2 := (d + 2, 154, 22, [some (.ref 34), some (.int 0), some (.int 2), some (.int 0)], [.int 0], 0, 0, (mSH, (mUp I 34 12 (nI a1)), L))) rfl ?_
          refine mBT (s2 := (d + 2, 154, 50, [some (.ref 34), some (.int 0), some (.int 2), some (.int 0)], [], 0, 0, (mSH, (mUp I 34 12 (nI a1)), L))) rfl (by decide) ?_
          refine mB 9 (s2 := (d + 2, 154, 15, [some (.ref 34), some (.int 0), some (.int 3), some (.int 0)], [.int 3, .ref 41], 0, 0, (mSH, (mUp I 34 12 (nI a1)), L))) rfl ?_
          refine mRq (s2 := (d + 2, 154, 16, [some (.ref 34), some (.int 0), some (.int 3), some (.int 0)], [.int (I 41 3)], 0, 0, (mSH, (mUp I 34 12 (nI a1)), L))) rfl (by decide) ?_
          refine mB 1 (s2 := (d + 2, 154, 18, [some (.ref 34), some (.int 0), some (.int 3), some (.int 0)], [.int 32, .int (I 41 3)], 0, 0, (mSH, (mUp I 34 12 (nI a1)), L))) rfl ?_
          refine mBF (s3 := (d + 2, 154, 21, [some (.ref 34), some (.int 0), some (.int 3), some (.int 0)], [], 0, 0, (mSH, (mUp I 34 12 (nI a1)), L))) rfl (by first | (simp only [f41_0, f41_1, f41_2, f41_3, f41_4, f41_5, f41_6, f41_7, f41_8, f41_9, f41_10, f41_11, f41_12, f41_13, f41_14, f41_15, f41_16, f41_17, f41_18, f41_19, f41_20, f41_21, f41_22]; first | decide | rfl) | decide | rfl) ?_
          refine mB 1 (s2 := (d + 2, 154, 22, [some (.ref 34), some (.int 0), some (.int 3), some (.int 0)], [.int 0], 0, 0, (mSH, (mUp I 34 12 (nI a1)), L))) rfl ?_
          refine mBT (s2 := (d + 2, 154, 50, [some (.ref 34), some (.int 0), some (.int 3), some (.int 0)], [], 0, 0, (mSH, (mUp I 34 12 (nI a1)), L))) rfl (by decide) ?_
          refine mB 9 (s2 := (d + 2, 154, 15, [some (.ref 34), some (.int 0), some (.int 4), some (.int 0)], [.int 4, .ref 41], 0, 0, (mSH, (mUp I 34 12 (nI a1)), L))) rfl ?_
          refine mRq (s2 := (d + 2, 154, 16, [some (.ref 34), some (.int 0), some (.int 4), some (.int 0)], [.int (I 41 4)], 0, 0, (mSH, (mUp I 34 12 (nI a1)), L))) rfl (by decide) ?_
          refine mB 1 (s2 := (d + 2, 154, 18, [some (.ref 34), some (.int 0), some (.int 4), some (.int 0)], [.int 32, .int (I 41 4)], 0, 0, (mSH, (mUp I 34 12 (nI a1)), L))) rfl ?_
          refine mBF (s3 := (d + 2, 154, 21, [some (.ref 34), some (.int 0), some (.int 4), some (.int 0)], [], 0, 0, (mSH, (mUp I 34 12 (nI a1)), L))) rfl (by first | (simp only [f41_0, f41_1, f41_2, f41_3, f41_4, f41_5, f41_6, f41_7, f41_8, f41_9, f41_10, f41_11, f41_12, f41_13, f41_14, f41_15, f41_16, f41_17, f41_18, f41_19, f41_20, f41_21, f41_22]; first | decide | rfl) | decide | rfl) ?_
          refine mB 1 (s2 := (d + 2, 154, 22, [some (.ref 34), some (.int 0), some (.int 4), some (.int 0)], [.int 0], 0, 0, (mSH, (mUp I 34 12 (nI a1)), L))) rfl ?_
          refine mBT (s2 := (d + 2, 154, 50, [some (.ref 34), some (.int 0), some (.int 4), some (.int 0)], [], 0, 0, (mSH, (mUp I 34 12 (nI a1)), L))) rfl (by decide) ?_
          refine mB 9 (s2 := (d + 2, 154, 15, [some (.ref 34), some (.int 0), some (.int 5), some (.int 0)], [.int 5, .ref 41], 0, 0, (mSH, (mUp I 34 12 (nI a1)), L))) rfl ?_
          refine mRq (s2 := (d + 2, 154, 16, [some (.ref 34), some (.int 0), some (.int 5), some (.int 0)], [.int (I 41 5)], 0, 0, (mSH, (mUp I 34 12 (nI a1)), L))) rfl (by decide) ?_
          refine mB 1 (s2 := (d + 2, 154, 18, [some (.ref 34), some (.int 0), some (.int 5), some (.int 0)], [.int 32, .int (I 41 5)], 0, 0, (mSH, (mUp I 34 12 (nI a1)), L))) rfl ?_
          refine mBT (s2 := (d + 2, 154, 58, [some (.ref 34), some (.int 0), some (.int 5), some (.int 0)], [], 0, 0, (mSH, (mUp I 34 12 (nI a1)), L))) rfl (by first | (simp only [f41_0, f41_1, f41_2, f41_3, f41_4, f41_5, f41_6, f41_7, f41_8, f41_9, f41_10, f41_11, f41_12, f41_13, f41_14, f41_15, f41_16, f41_17, f41_18, f41_19, f41_20, f41_21, f41_22]; first | decide | rfl) | decide | rfl) ?_
          refine mB 1 (s2 := (d + 2, 154, 59, [some (.ref 34), some (.int 0), some (.int 5), some (.int 0)], [.int 0], 0, 0, (mSH, (mUp I 34 12 (nI a1)), L))) rfl ?_
          refine mBT (s2 := (d + 2, 154, 86, [some (.ref 34), some (.int 0), some (.int 5), some (.int 0)], [], 0, 0, (mSH, (mUp I 34 12 (nI a1)), L))) rfl (by decide) ?_
          refine mB 6 (s2 := (d + 2, 154, 94, [some (.ref 34), some (.int 0), some (.int 5), some (.int 0)], [.int 0, .int (nI a1), .ref 34], 0, 0, (mSH, (mUp I 34 12 (nI a1)), L))) rfl ?_
          refine mBT (s2 := (d + 2, 154, 101, [some (.ref 34), some (.int 0), some (.int 5), some (.int 0)], [.int (nI a1), .ref 34], 0, 0, (mSH, (mUp I 34 12 (nI a1)), L))) rfl (by decide) ?_
          refine mB 4 (s2 := (d + 2, 154, 107, [some (.ref 34), some (.int 0), some (.int 5), some (.int 0)], [.int 0], 0, 0, (mSH, (mUp (mUp I 34 12 (nI a1)) 34 12 ((nI a1) + 0)), L))) rfl ?_
          refine mRt (r := (some (.int 0))) (h := (mSH, (mUp (mUp I 34 12 (nI a1)) 34 12 ((nI a1) + 0)), L)) rfl rfl ?_
          exact mWq q0 hla1 (nI_add a1 0) (by omega)
    · refine mB 9 (s2 := (d + 2, 154, 15, [some (.ref 34), some (.int 0), some (.int 1), some (.int 0)], [.int 1, .ref 41], 0, 0, (mSH, (mUp I 34 12 (nI a1)), L))) rfl ?_
      refine mRq (s2 := (d + 2, 154, 16, [some (.ref 34), some (.int 0), some (.int 1), some (.int 0)], [.int (I 41 1)], 0, 0, (mSH, (mUp I 34 12 (nI a1)), L))) rfl (by decide) ?_
      refine mB 1 (s2 := (d + 2, 154, 18, [some (.ref 34), some (.int 0), some (.int 1), some (.int 0)], [.int 32, .int (I 41 1)], 0, 0, (mSH, (mUp I 34 12 (nI a1)), L))) rfl ?_
      refine mBF (s3 := (d + 2, 154, 21, [some (.ref 34), some (.int 0), some (.int 1), some (.int 0)], [], 0, 0, (mSH, (mUp I 34 12 (nI a1)), L))) rfl (by first | (simp only [f41_0, f41_1, f41_2, f41_3, f41_4, f41_5, f41_6, f41_7, f41_8, f41_9, f41_10, f41_11, f41_12, f41_13, f41_14, f41_15, f41_16, f41_17, f41_18, f41_19, f41_20, f41_21, f41_22]; first | decide | rfl) | decide | rfl) ?_
      refine mB 1 (s2 := (d + 2, 154, 22, [some (.ref 34), some (.int 0), some (.int 1), some (.int 0)], [.int 0], 0, 0, (mSH, (mUp I 34 12 (nI a1)), L))) rfl ?_
      refine mBT (s2 := (d + 2, 154, 50, [some (.ref 34), some (.int 0), some (.int 1), some (.int 0)], [], 0, 0, (mSH, (mUp I 34 12 (nI a1)), L))) rfl (by decide) ?_
      refine mB 9 (s2 := (d + 2, 154, 15, [some (.ref 34), some (.int 0), some (.int 2), some (.int 0)], [.int 2, .ref 41], 0, 0, (mSH, (mUp I 34 12 (nI a1)), L))) rfl ?_
      refine mRq (s2 := (d + 2, 154, 16, [some (.ref 34), some (.int 0), some (.int 2), some (.int 0)], [.int (I 41 2)], 0, 0, (mSH, (mUp I 34 12 (nI a1)), L))) rfl (by decide) ?_
      refine mB 1 (s2 := (d + 2, 154, 18, [some (.ref 34), some (.int 0), some (.int 2), some (.int 0)], [.int 32, .int (I 41 2)], 0, 0, (mSH, (mUp I 34 12 (nI a1)), L))) rfl ?_
      refine mBF (s3 := (d + 2, 154, 21, [some (.ref 34), some (.int 0), some (.int 2), some (.int 0)], [], 0, 0, (mSH, (mUp I 34 12 (nI a1)), L))) rfl (by first | (simp only [f41_0, f41_1, f41_2, f41_3, f41_4, f41_5, f41_6, f41_7, f41_8, f41_9, f41_10, f41_11, f41_12, f41_13, f41_14, f41_15, f41_16, f41_17, f41_18, f41_19, f41_20, f41_21, f41_22]; first | decide | rfl) | decide | rfl) ?_
      refine mB 1 (s2 := (d + 2, 154, 22, [some (.ref 34), some (.int 0), some (.int 2), some (.int 0)], [.int 0], 0, 0, (mSH, (mUp I 34 12 (nI a1)), L))) rfl ?_
      refine mBT (s2 := (d + 2, 154, 50, [some (.ref 34), some (.int 0), some (.int 2), some (.int 0)], [], 0, 0, (mSH, (mUp I 34 12 (nI a1)), L))) rfl (by decide) ?_
      refine mB 9 (s2 := (d + 2, 154, 15, [some (.ref 34), some (.int 0), some (.int 3), some (.int 0)], [.int 3, .ref 41], 0, 0, (mSH, (mUp I 34 12 (nI a1)), L))) rfl ?_
      refine mRq (s2 := (d + 2, 154, 16, [some (.ref 34), some (.int 0), some (.int 3), some (.int 0)], [.int (I 41 3)], 0, 0, (mSH, (mUp I 34 12 (nI a1)), L))) rfl (by decide) ?_
      refine mB 1 (s2 := (d + 2, 154, 18, [some (.ref 34), some (.int 0), some (.int 3), some (.int 0)], [.int 32, .int (I 41 3)], 0, 0, (mSH, (mUp I 34 12 (nI a1)), L))) rfl ?_
      refine mBF (s3 := (d + 2, 154, 21, [some (.ref 34), some (.int 0), some (.int 3), some (.int 0)], [], 0, 0, (mSH, (mUp I 34 12 (nI a1)), L))) rfl (by first | (simp only [f41_0, f41_1, f41_2, f41_3, f41_4, f41_5, f41_6, f41_7, f41_8, f41_9, f41_10, f41_11, f41_12, f41_13, f41_14, f41_15, f41_16, f41_17, f41_18, f41_19, f41_20, f41_21, f41_22]; first | decide | rfl) | decide | rfl) ?_
      refine mB 1 (s2 := (d + 2, 154, 22, [some (.ref 34), some (.int 0), some (.int 3), some (.int 0)], [.int 0], 0, 0, (mSH, (mUp I 34 12 (nI a1)), L))) rfl ?_
      refine mBT (s2 := (d + 2, 154, 50, [some (.ref 34), some (.int 0), some (.int 3), some (.int 0)], [], 0, 0, (mSH, (mUp I 34 12 (nI a1)), L))) rfl (by decide) ?_
      refine mB 9 (s2 := (d + 2, 154, 15, [some (.ref 34), some (.int 0), some (.int 4), some (.int 0)], [.int 4, .ref 41], 0, 0, (mSH, (mUp I 34 12 (nI a1)), L))) rfl ?_
      refine mRq (s2 := (d + 2, 154, 16, [some (.ref 34), some (.int 0), some (.int 4), some (.int 0)], [.int (I 41 4)], 0, 0, (mSH, (mUp I 34 12 (nI a1)), L))) rfl (by decide) ?_
      refine mB 1 (s2 := (d + 2, 154, 18, [some (.ref 34), some (.int 0), some (.int 4), some (.int 0)], [.int 32, .int (I 41 4)], 0, 0, (mSH, (mUp I 34 12 (nI a1)), L))) rfl ?_
      refine mBF (s3 := (d + 2, 154, 21, [some (.ref 34), some (.int 0), some (.int 4), some (.int 0)], [], 0, 0, (mSH, (mUp I 34 12 (nI a1)), L))) rfl (by first | (simp only [f41_0, f41_1, f41_2, f41_3, f41_4, f41_5, f41_6, f41_7, f41_8, f41_9, f41_10, f41_11, f41_12, f41_13, f41_14, f41_15, f41_16, f41_17, f41_18, f41_19, f41_20, f41_21, f41_22]; first | decide | rfl) | decide | rfl) ?_
      refine mB 1 (s2 := (d + 2, 154, 22, [some (.ref 34), some (.int 0), some (.int 4), some (.int 0)], [.int 0], 0, 0, (mSH, (mUp I 34 12 (nI a1)), L))) rfl ?_
      refine mBT (s2 := (d + 2, 154, 50, [some (.ref 34), some (.int 0), some (.int 4), some (.int 0)], [], 0, 0, (mSH, (mUp I 34 12 (nI a1)), L))) rfl (by decide) ?_
      refine mB 9 (s2 := (d + 2, 154, 15, [some (.ref 34), some (.int 0), some (.int 5), some (.int 0)], [.int 5, .ref 41], 0, 0, (mSH, (mUp I 34 12 (nI a1)), L))) rfl ?_
      refine mRq (s2 := (d + 2, 154, 16, [some (.ref 34), some (.int 0), some (.int 5), some (.int 0)], [.int (I 41 5)], 0, 0, (mSH, (mUp I 34 12 (nI a1)), L))) rfl (by decide) ?_
      refine mB 1 (s2 := (d + 2, 154, 18, [some (.ref 34), some (.int 0), some (.int 5), some (.int 0)], [.int 32, .int (I 41 5)], 0, 0, (mSH, (mUp I 34 12 (nI a1)), L))) rfl ?_
      refine mBT (s2 := (d + 2, 154, 58, [some (.ref 34), some (.int 0), some (.int 5), some (.int 0)], [], 0, 0, (mSH, (mUp I 34 12 (nI a1)), L))) rfl (by first | (simp only [f41_0, f41_1, f41_2, f41_3, f41_4, f41_5, f41_6, f41_7, f41_8, f41_9, f41_10, f41_11, f41_12, f41_13, f41_14, f41_15, f41_16, f41_17, f41_18, f41_19, f41_20, f41_21, f41_22]; first | decide | rfl) | decide | rfl) ?_
      refine mB 1 (s2 := (d + 2, 154, 59, [some (.ref 34), some (.int 0), some (.int 5), some (.int 0)], [.int 0], 0, 0, (mSH, (mUp I 34 12 (nI a1)), L))) rfl ?_
      refine mBT (s2 := (d + 2, 154, 86, [some (.ref 34), some (.int 0), some (.int 5), some (.int 0)], [], 0, 0, (mSH, (mUp I 34 12 (nI a1)), L))) rfl (by decide) ?_
      refine mB 6 (s2 := (d + 2, 154, 94, [some (.ref 34), some (.int 0), some (.int 5), some (.int 0)], [.int 0, .int (nI a1), .ref 34], 0, 0, (mSH, (mUp I 34 12 (nI a1)), L))) rfl ?_
      refine mBT (s2 := (d + 2, 154, 101, [some (.ref 34), some (.int 0), some (.int 5), some (.int 0)], [.int (nI a1), .ref 34], 0, 0, (mSH, (mUp I 34 12 (nI a1)), L))) rfl (by decide) ?_
      refine mB 4 (s2 := (d + 2, 154, 107, [some (.ref 34), some (.int 0), some (.int 5), some (.int 0)], [.int 0], 0, 0, (mSH, (mUp (mUp I 34 12 (nI a1)) 34 12 ((nI a1) + 0)), L))) rfl ?_
      refine mRt (r := (some (.int 0))) (h := (mSH, (mUp (mUp I 34 12 (nI a1)) 34 12 ((nI a1) + 0)), L)) rfl rfl ?_
      exact mWq q0 hla1 (nI_add a1 0) (by omega)
theorem w_isw_6 {ro : Nat → Nat × (Nat → Int32)} {Q : mPo} {d : Nat} {I : Nat → Nat → Int32} {L : Nat → Nat → Int64} {s n t : Nat} {a : Nat} {B : Nat} (hB : 120 ≤ B) (hB2 : B ≤ 1000) (hm : mM s n t I) (hat : I 34 12 = nI a) (ha : a ≤ B) (q0 : ∀ a', a' ≤ B + 5 → Q (some (.int 0)) (mSH, mUp I 34 12 (nI a'), L)) (q1 : ∀ a', a' ≤ B + 5 → Q (some (.int 1)) (mSH, mUp I 34 12 (nI a'), L))   : mWP mTb_ mFT ro (d + 2, 154, 0, [some (.ref 34), some (.int 6), none, none], [], 0, 0, (mSH, I, L)) Q := by
  obtain ⟨f41_0, f41_1, f41_2, f41_3, f41_4, f41_5, f41_6, f41_7, f41_8, f41_9, f41_10, f41_11, f41_12, f41_13, f41_14, f41_15, f41_16, f41_17, f41_18, f41_19, f41_20, f41_21, f41_22⟩ : I 41 0 = 121 ∧ I 41 1 = 101 ∧ I 41 2 = 97 ∧ I 41 3 = 114 ∧ I 41 4 = 115 ∧ I 41 5 = 32 ∧ I 41 6 = 99 ∧ I 41 7 = 111 ∧ I 41 8 = 114 ∧ I 41 9 = 101 ∧ I 41 10 = 32 ∧ I 41 11 = 110 ∧ I 41 12 = 111 ∧ I 41 13 = 114 ∧ I 41 14 = 116 ∧ I 41 15 = 104 ∧ I 41 16 = 32 ∧ I 41 17 = 115 ∧ I 41 18 = 111 ∧ I 41 19 = 117 ∧ I 41 20 = 116 ∧ I 41 21 = 104 ∧ I 41 22 = 32 := ⟨hm.2.2.2.2.2 0 (by omega), hm.2.2.2.2.2 1 (by omega), hm.2.2.2.2.2 2 (by omega), hm.2.2.2.2.2 3 (by omega), hm.2.2.2.2.2 4 (by omega), hm.2.2.2.2.2 5 (by omega), hm.2.2.2.2.2 6 (by omega), hm.2.2.2.2.2 7 (by omega), hm.2.2.2.2.2 8 (by omega), hm.2.2.2.2.2 9 (by omega), hm.2.2.2.2.2 10 (by omega), hm.2.2.2.2.2 11 (by omega), hm.2.2.2.2.2 12 (by omega), hm.2.2.2.2.2 13 (by omega), hm.2.2.2.2.2 14 (by omega), hm.2.2.2.2.2 15 (by omega), hm.2.2.2.2.2 16 (by omega), hm.2.2.2.2.2 17 (by omega), hm.2.2.2.2.2 18 (by omega), hm.2.2.2.2.2 19 (by omega), hm.2.2.2.2.2 20 (by omega), hm.2.2.2.2.2 21 (by omega), hm.2.2.2.2.2 22 (by omega)⟩
  refine mB 1 (s2 := (d + 2, 154, 1, [some (.ref 34), some (.int 6), none, none], [.ref 34], 0, 0, (mSH, I, L))) rfl ?_
  refine mCall (s2 := (d + 1, 152, 0, [some (.ref 34)], [], 0, 0, (mSH, I, L))) rfl ?_
  refine w_skips hB hB2 (hm) hat ha (fun a1 hla1 => ?_)
  show mWP mTb_ mFT ro (d + 2, 154, 4, [some (.ref 34), some (.int 6), none, none], [], 0, 0, (mSH, (mUp I 34 12 (nI a1)), L)) _
  refine mB 9 (s2 := (d + 2, 154, 15, [some (.ref 34), some (.int 6), some (.int 0), some (.int 1)], [.int 6, .ref 41], 0, 0, (mSH, (mUp I 34 12 (nI a1)), L))) rfl ?_
  refine mRq (s2 := (d + 2, 154, 16, [some (.ref 34), some (.int 6), some (.int 0), some (.int 1)], [.int (I 41 6)], 0, 0, (mSH, (mUp I 34 12 (nI a1)), L))) rfl (by decide) ?_
  refine mB 1 (s2 := (d + 2, 154, 18, [some (.ref 34), some (.int 6), some (.int 0), some (.int 1)], [.int 32, .int (I 41 6)], 0, 0, (mSH, (mUp I 34 12 (nI a1)), L))) rfl ?_
  refine mBF (s3 := (d + 2, 154, 21, [some (.ref 34), some (.int 6), some (.int 0), some (.int 1)], [], 0, 0, (mSH, (mUp I 34 12 (nI a1)), L))) rfl (by first | (simp only [f41_0, f41_1, f41_2, f41_3, f41_4, f41_5, f41_6, f41_7, f41_8, f41_9, f41_10, f41_11, f41_12, f41_13, f41_14, f41_15, f41_16, f41_17, f41_18, f41_19, f41_20, f41_21, f41_22]; first | decide | rfl) | decide | rfl) ?_
  refine mB 1 (s2 := (d + 2, 154, 22, [some (.ref 34), some (.int 6), some (.int 0), some (.int 1)], [.int 1], 0, 0, (mSH, (mUp I 34 12 (nI a1)), L))) rfl ?_
  refine mBF (s3 := (d + 2, 154, 25, [some (.ref 34), some (.int 6), some (.int 0), some (.int 1)], [], 0, 0, (mSH, (mUp I 34 12 (nI a1)), L))) rfl (by decide) ?_
  refine mB 5 (s2 := (d + 2, 154, 32, [some (.ref 34), some (.int 6), some (.int 0), some (.int 1)], [.int ((nI a1) + 0), .ref 34], 0, 0, (mSH, (mUp I 34 12 (nI a1)), L))) rfl ?_
  refine mCall (s2 := (d + 1, 151, 0, [some (.ref 34), some (.int ((nI a1) + 0))], [], 0, 0, (mSH, (mUp I 34 12 (nI a1)), L))) rfl ?_
  refine w_byte (k := a1 + 0) (hm) (nI_add a1 0) (by omega) ?_ ?_
  · show mWP mTb_ mFT ro (d + 2, 154, 35, [some (.ref 34), some (.int 6), some (.int 0), some (.int 1)], [.int (-1)], 0, 0, (mSH, (mUp I 34 12 (nI a1)), L)) _
    refine mB 5 (s2 := (d + 2, 154, 42, [some (.ref 34), some (.int 6), some (.int 0), some (.int 1)], [.int 6, .ref 41, .int (-1)], 0, 0, (mSH, (mUp I 34 12 (nI a1)), L))) rfl ?_
    refine mRq (s2 := (d + 2, 154, 43, [some (.ref 34), some (.int 6), some (.int 0), some (.int 1)], [.int (I 41 6), .int (-1)], 0, 0, (mSH, (mUp I 34 12 (nI a1)), L))) rfl (by decide) ?_
    refine mBF (s3 := (d + 2, 154, 50, [some (.ref 34), some (.int 6), some (.int 0), some (.int 1)], [], 0, 0, (mSH, (mUp I 34 12 (nI a1)), L))) rfl (by first | (simp only [f41_0, f41_1, f41_2, f41_3, f41_4, f41_5, f41_6, f41_7, f41_8, f41_9, f41_10, f41_11, f41_12, f41_13, f41_14, f41_15, f41_16, f41_17, f41_18, f41_19, f41_20, f41_21, f41_22]; first | decide | rfl) | decide | rfl) ?_
    refine mB 9 (s2 := (d + 2, 154, 15, [some (.ref 34), some (.int 6), some (.int 1), some (.int 0)], [.int 7, .ref 41], 0, 0, (mSH, (mUp I 34 12 (nI a1)), L))) rfl ?_
    refine mRq (s2 := (d + 2, 154, 16, [some (.ref 34), some (.int 6), some (.int 1), some (.int 0)], [.int (I 41 7)], 0, 0, (mSH, (mUp I 34 12 (nI a1)), L))) rfl (by decide) ?_
    refine mB 1 (s2 := (d + 2, 154, 18, [some (.ref 34), some (.int 6), some (.int 1), some (.int 0)], [.int 32, .int (I 41 7)], 0, 0, (mSH, (mUp I 34 12 (nI a1)), L))) rfl ?_
    refine mBF (s3 := (d + 2, 154, 21, [some (.ref 34), some (.int 6), some (.int 1), some (.int 0)], [], 0, 0, (mSH, (mUp I 34 12 (nI a1)), L))) rfl (by first | (simp only [f41_0, f41_1, f41_2, f41_3, f41_4, f41_5, f41_6, f41_7, f41_8, f41_9, f41_10, f41_11, f41_12, f41_13, f41_14, f41_15, f41_16, f41_17, f41_18, f41_19, f41_20, f41_21, f41_22]; first | decide | rfl) | decide | rfl) ?_
    refine mB 1 (s2 := (d + 2, 154, 22, [some (.ref 34), some (.int 6), some (.int 1), some (.int 0)], [.int 0], 0, 0, (mSH, (mUp I 34 12 (nI a1)), L))) rfl ?_
    refine mBT (s2 := (d + 2, 154, 50, [some (.ref 34), some (.int 6), some (.int 1), some (.int 0)], [], 0, 0, (mSH, (mUp I 34 12 (nI a1)), L))) rfl (by decide) ?_
    refine mB 9 (s2 := (d + 2, 154, 15, [some (.ref 34), some (.int 6), some (.int 2), some (.int 0)], [.int 8, .ref 41], 0, 0, (mSH, (mUp I 34 12 (nI a1)), L))) rfl ?_
    refine mRq (s2 := (d + 2, 154, 16, [some (.ref 34), some (.int 6), some (.int 2), some (.int 0)], [.int (I 41 8)], 0, 0, (mSH, (mUp I 34 12 (nI a1)), L))) rfl (by decide) ?_
    refine mB 1 (s2 := (d + 2, 154, 18, [some (.ref 34), some (.int 6), some (.int 2), some (.int 0)], [.int 32, .int (I 41 8)], 0, 0, (mSH, (mUp I 34 12 (nI a1)), L))) rfl ?_
    refine mBF (s3 := (d + 2, 154, 21, [some (.ref 34), some (.int 6), some (.int 2), some (.int 0)], [], 0, 0, (mSH, (mUp I 34 12 (nI a1)), L))) rfl (by first | (simp only [f41_0, f41_1, f41_2, f41_3, f41_4, f41_5, f41_6, f41_7, f41_8, f41_9, f41_10, f41_11, f41_12, f41_13, f41_14, f41_15, f41_16, f41_17, f41_18, f41_19, f41_20, f41_21, f41_22]; first | decide | rfl) | decide | rfl) ?_
    refine mB 1 (s2 := (d + 2, 154, 22, [some (.ref 34), some (.int 6), some (.int 2), some (.int 0)], [.int 0], 0, 0, (mSH, (mUp I 34 12 (nI a1)), L))) rfl ?_
    refine mBT (s2 := (d + 2, 154, 50, [some (.ref 34), some (.int 6), some (.int 2), some (.int 0)], [], 0, 0, (mSH, (mUp I 34 12 (nI a1)), L))) rfl (by decide) ?_
    refine mB 9 (s2 := (d + 2, 154, 15, [some (.ref 34), some (.int 6), some (.int 3), some (.int 0)], [.int 9, .ref 41], 0, 0, (mSH, (mUp I 34 12 (nI a1)), L))) rfl ?_
    refine mRq (s2 := (d + 2, 154, 16, [some (.ref 34), some (.int 6), some (.int 3), some (.int 0)], [.int (I 41 9)], 0, 0, (mSH, (mUp I 34 12 (nI a1)), L))) rfl (by decide) ?_
    refine mB 1 (s2 := (d + 2, 154, 18, [some (.ref 34), some (.int 6), some (.int 3), some (.int 0)], [.int 32, .int (I 41 9)], 0, 0, (mSH, (mUp I 34 12 (nI a1)), L))) rfl ?_
    refine mBF (s3 := (d + 2, 154, 21, [some (.ref 34), some (.int 6), some (.int 3), some (.int 0)], [], 0, 0, (mSH, (mUp I 34 12 (nI a1)), L))) rfl (by first | (simp only [f41_0, f41_1, f41_2, f41_3, f41_4, f41_5, f41_6, f41_7, f41_8, f41_9, f41_10, f41_11, f41_12, f41_13, f41_14, f41_15, f41_16, f41_17, f41_18, f41_19, f41_20, f41_21, f41_22]; first | decide | rfl) | decide | rfl) ?_
    refine mB 1 (s2 := (d + 2, 154, 22, [some (.ref 34), some (.int 6), some (.int 3), some (.int 0)], [.int 0], 0, 0, (mSH, (mUp I 34 12 (nI a1)), L))) rfl ?_
    refine mBT (s2 := (d + 2, 154, 50, [some (.ref 34), some (.int 6), some (.int 3), some (.int 0)], [], 0, 0, (mSH, (mUp I 34 12 (nI a1)), L))) rfl (by decide) ?_
    refine mB 9 (s2 := (d + 2, 154, 15, [some (.ref 34), some (.int 6), some (.int 4), some (.int 0)], [.int 10, .ref 41], 0, 0, (mSH, (mUp I 34 12 (nI a1)), L))) rfl ?_
    refine mRq (s2 := (d + 2, 154, 16, [some (.ref 34), some (.int 6), some (.int 4), some (.int 0)], [.int (I 41 10)], 0, 0, (mSH, (mUp I 34 12 (nI a1)), L))) rfl (by decide) ?_
    refine mB 1 (s2 := (d + 2, 154, 18, [some (.ref 34), some (.int 6), some (.int 4), some (.int 0)], [.int 32, .int (I 41 10)], 0, 0, (mSH, (mUp I 34 12 (nI a1)), L))) rfl ?_
    refine mBT (s2 := (d + 2, 154, 58, [some (.ref 34), some (.int 6), some (.int 4), some (.int 0)], [], 0, 0, (mSH, (mUp I 34 12 (nI a1)), L))) rfl (by first | (simp only [f41_0, f41_1, f41_2, f41_3, f41_4, f41_5, f41_6, f41_7, f41_8, f41_9, f41_10, f41_11, f41_12, f41_13, f41_14, f41_15, f41_16, f41_17, f41_18, f41_19, f41_20, f41_21, f41_22]; first | decide | rfl) | decide | rfl) ?_
    refine mB 1 (s2 := (d + 2, 154, 59, [some (.ref 34), some (.int 6), some (.int 4), some (.int 0)], [.int 0], 0, 0, (mSH, (mUp I 34 12 (nI a1)), L))) rfl ?_
    refine mBT (s2 := (d + 2, 154, 86, [some (.ref 34), some (.int 6), some (.int 4), some (.int 0)], [], 0, 0, (mSH, (mUp I 34 12 (nI a1)), L))) rfl (by decide) ?_
    refine mB 6 (s2 := (d + 2, 154, 94, [some (.ref 34), some (.int 6), some (.int 4), some (.int 0)], [.int 0, .int (nI a1), .ref 34], 0, 0, (mSH, (mUp I 34 12 (nI a1)), L))) rfl ?_
    refine mBT (s2 := (d + 2, 154, 101, [some (.ref 34), some (.int 6), some (.int 4), some (.int 0)], [.int (nI a1), .ref 34], 0, 0, (mSH, (mUp I 34 12 (nI a1)), L))) rfl (by decide) ?_
    refine mB 4 (s2 := (d + 2, 154, 107, [some (.ref 34), some (.int 6), some (.int 4), some (.int 0)], [.int 0], 0, 0, (mSH, (mUp (mUp I 34 12 (nI a1)) 34 12 ((nI a1) + 0)), L))) rfl ?_
    refine mRt (r := (some (.int 0))) (h := (mSH, (mUp (mUp I 34 12 (nI a1)) 34 12 ((nI a1) + 0)), L)) rfl rfl ?_
    exact mWq q0 hla1 (nI_add a1 0) (by omega)
  · intro l2
    show mWP mTb_ mFT ro (d + 2, 154, 35, [some (.ref 34), some (.int 6), some (.int 0), some (.int 1)], [.int (I 40 (a1 + 0))], 0, 0, (mSH, (mUp I 34 12 (nI a1)), L)) _
    refine mB 5 (s2 := (d + 2, 154, 42, [some (.ref 34), some (.int 6), some (.int 0), some (.int 1)], [.int 6, .ref 41, .int (I 40 (a1 + 0))], 0, 0, (mSH, (mUp I 34 12 (nI a1)), L))) rfl ?_
    refine mRq (s2 := (d + 2, 154, 43, [some (.ref 34), some (.int 6), some (.int 0), some (.int 1)], [.int (I 41 6), .int (I 40 (a1 + 0))], 0, 0, (mSH, (mUp I 34 12 (nI a1)), L))) rfl (by decide) ?_
    refine mBr (s2 := (d + 2, 154, 46, [some (.ref 34), some (.int 6), some (.int 0), some (.int 1)], [], 0, 0, (mSH, (mUp I 34 12 (nI a1)), L))) (s3 := (d + 2, 154, 50, [some (.ref 34), some (.int 6), some (.int 0), some (.int 1)], [], 0, 0, (mSH, (mUp I 34 12 (nI a1)), L))) rfl (fun c1 => ?_) (fun c1 => ?_)
    · refine mB 10 (s2 := (d + 2, 154, 15, [some (.ref 34), some (.int 6), some (.int 1), some (.int 1)], [.int 7, .ref 41], 0, 0, (mSH, (mUp I 34 12 (nI a1)), L))) rfl ?_
      refine mRq (s2 := (d + 2, 154, 16, [some (.ref 34), some (.int 6), some (.int 1), some (.int 1)], [.int (I 41 7)], 0, 0, (mSH, (mUp I 34 12 (nI a1)), L))) rfl (by decide) ?_
      refine mB 1 (s2 := (d + 2, 154, 18, [some (.ref 34), some (.int 6), some (.int 1), some (.int 1)], [.int 32, .int (I 41 7)], 0, 0, (mSH, (mUp I 34 12 (nI a1)), L))) rfl ?_
      refine mBF (s3 := (d + 2, 154, 21, [some (.ref 34), some (.int 6), some (.int 1), some (.int 1)], [], 0, 0, (mSH, (mUp I 34 12 (nI a1)), L))) rfl (by first | (simp only [f41_0, f41_1, f41_2, f41_3, f41_4, f41_5, f41_6, f41_7, f41_8, f41_9, f41_10, f41_11, f41_12, f41_13, f41_14, f41_15, f41_16, f41_17, f41_18, f41_19, f41_20, f41_21, f41_22]; first | decide | rfl) | decide | rfl) ?_
      refine mB 1 (s2 := (d + 2, 154, 22, [some (.ref 34), some (.int 6), some (.int 1), some (.int 1)], [.int 1], 0, 0, (mSH, (mUp I 34 12 (nI a1)), L))) rfl ?_
      refine mBF (s3 := (d + 2, 154, 25, [some (.ref 34), some (.int 6), some (.int 1), some (.int 1)], [], 0, 0, (mSH, (mUp I 34 12 (nI a1)), L))) rfl (by decide) ?_
      refine mB 5 (s2 := (d + 2, 154, 32, [some (.ref 34), some (.int 6), some (.int 1), some (.int 1)], [.int ((nI a1) + 1), .ref 34], 0, 0, (mSH, (mUp I 34 12 (nI a1)), L))) rfl ?_
      refine mCall (s2 := (d + 1, 151, 0, [some (.ref 34), some (.int ((nI a1) + 1))], [], 0, 0, (mSH, (mUp I 34 12 (nI a1)), L))) rfl ?_
      refine w_byte (k := a1 + 1) (hm) (nI_add a1 1) (by omega) ?_ ?_
      · show mWP mTb_ mFT ro (d + 2, 154, 35, [some (.ref 34), some (.int 6), some (.int 1), some (.int 1)], [.int (-1)], 0, 0, (mSH, (mUp I 34 12 (nI a1)), L)) _
        refine mB 5 (s2 := (d + 2, 154, 42, [some (.ref 34), some (.int 6), some (.int 1), some (.int 1)], [.int 7, .ref 41, .int (-1)], 0, 0, (mSH, (mUp I 34 12 (nI a1)), L))) rfl ?_
        refine mRq (s2 := (d + 2, 154, 43, [some (.ref 34), some (.int 6), some (.int 1), some (.int 1)], [.int (I 41 7), .int (-1)], 0, 0, (mSH, (mUp I 34 12 (nI a1)), L))) rfl (by decide) ?_
        refine mBF (s3 := (d + 2, 154, 50, [some (.ref 34), some (.int 6), some (.int 1), some (.int 1)], [], 0, 0, (mSH, (mUp I 34 12 (nI a1)), L))) rfl (by first | (simp only [f41_0, f41_1, f41_2, f41_3, f41_4, f41_5, f41_6, f41_7, f41_8, f41_9, f41_10, f41_11, f41_12, f41_13, f41_14, f41_15, f41_16, f41_17, f41_18, f41_19, f41_20, f41_21, f41_22]; first | decide | rfl) | decide | rfl) ?_
        refine mB 9 (s2 := (d + 2, 154, 15, [some (.ref 34), some (.int 6), some (.int 2), some (.int 0)], [.int 8, .ref 41], 0, 0, (mSH, (mUp I 34 12 (nI a1)), L))) rfl ?_
        refine mRq (s2 := (d + 2, 154, 16, [some (.ref 34), some (.int 6), some (.int 2), some (.int 0)], [.int (I 41 8)], 0, 0, (mSH, (mUp I 34 12 (nI a1)), L))) rfl (by decide) ?_
        refine mB 1 (s2 := (d + 2, 154, 18, [some (.ref 34), some (.int 6), some (.int 2), some (.int 0)], [.int 32, .int (I 41 8)], 0, 0, (mSH, (mUp I 34 12 (nI a1)), L))) rfl ?_
        refine mBF (s3 := (d + 2, 154, 21, [some (.ref 34), some (.int 6), some (.int 2), some (.int 0)], [], 0, 0, (mSH, (mUp I 34 12 (nI a1)), L))) rfl (by first | (simp only [f41_0, f41_1, f41_2, f41_3, f41_4, f41_5, f41_6, f41_7, f41_8, f41_9, f41_10, f41_11, f41_12, f41_13, f41_14, f41_15, f41_16, f41_17, f41_18, f41_19, f41_20, f41_21, f41_22]; first | decide | rfl) | decide | rfl) ?_
        refine mB 1 (s2 := (d + 2, 154, 22, [some (.ref 34), some (.int 6), some (.int 2), some (.int 0)], [.int 0], 0, 0, (mSH, (mUp I 34 12 (nI a1)), L))) rfl ?_
        refine mBT (s2 := (d + 2, 154, 50, [some (.ref 34), some (.int 6), some (.int 2), some (.int 0)], [], 0, 0, (mSH, (mUp I 34 12 (nI a1)), L))) rfl (by decide) ?_
        refine mB 9 (s2 := (d + 2, 154, 15, [some (.ref 34), some (.int 6), some (.int 3), some (.int 0)], [.int 9, .ref 41], 0, 0, (mSH, (mUp I 34 12 (nI a1)), L))) rfl ?_
        refine mRq (s2 := (d + 2, 154, 16, [some (.ref 34), some (.int 6), some (.int 3), some (.int 0)], [.int (I 41 9)], 0, 0, (mSH, (mUp I 34 12 (nI a1)), L))) rfl (by decide) ?_
        refine mB 1 (s2 := (d + 2, 154, 18, [some (.ref 34), some (.int 6), some (.int 3), some (.int 0)], [.int 32, .int (I 41 9)], 0, 0, (mSH, (mUp I 34 12 (nI a1)), L))) rfl ?_
        refine mBF (s3 := (d + 2, 154, 21, [some (.ref 34), some (.int 6), some (.int 3), some (.int 0)], [], 0, 0, (mSH, (mUp I 34 12 (nI a1)), L))) rfl (by first | (simp only [f41_0, f41_1, f41_2, f41_3, f41_4, f41_5, f41_6, f41_7, f41_8, f41_9, f41_10, f41_11, f41_12, f41_13, f41_14, f41_15, f41_16, f41_17, f41_18, f41_19, f41_20, f41_21, f41_22]; first | decide | rfl) | decide | rfl) ?_
        refine mB 1 (s2 := (d + 2, 154, 22, [some (.ref 34), some (.int 6), some (.int 3), some (.int 0)], [.int 0], 0, 0, (mSH, (mUp I 34 12 (nI a1)), L))) rfl ?_
        refine mBT (s2 := (d + 2, 154, 50, [some (.ref 34), some (.int 6), some (.int 3), some (.int 0)], [], 0, 0, (mSH, (mUp I 34 12 (nI a1)), L))) rfl (by decide) ?_
        refine mB 9 (s2 := (d + 2, 154, 15, [some (.ref 34), some (.int 6), some (.int 4), some (.int 0)], [.int 10, .ref 41], 0, 0, (mSH, (mUp I 34 12 (nI a1)), L))) rfl ?_
        refine mRq (s2 := (d + 2, 154, 16, [some (.ref 34), some (.int 6), some (.int 4), some (.int 0)], [.int (I 41 10)], 0, 0, (mSH, (mUp I 34 12 (nI a1)), L))) rfl (by decide) ?_
        refine mB 1 (s2 := (d + 2, 154, 18, [some (.ref 34), some (.int 6), some (.int 4), some (.int 0)], [.int 32, .int (I 41 10)], 0, 0, (mSH, (mUp I 34 12 (nI a1)), L))) rfl ?_
        refine mBT (s2 := (d + 2, 154, 58, [some (.ref 34), some (.int 6), some (.int 4), some (.int 0)], [], 0, 0, (mSH, (mUp I 34 12 (nI a1)), L))) rfl (by first | (simp only [f41_0, f41_1, f41_2, f41_3, f41_4, f41_5, f41_6, f41_7, f41_8, f41_9, f41_10, f41_11, f41_12, f41_13, f41_14, f41_15, f41_16, f41_17, f41_18, f41_19, f41_20, f41_21, f41_22]; first | decide | rfl) | decide | rfl) ?_
        refine mB 1 (s2 := (d + 2, 154, 59, [some (.ref 34), some (.int 6), some (.int 4), some (.int 0)], [.int 0], 0, 0, (mSH, (mUp I 34 12 (nI a1)), L))) rfl ?_
        refine mBT (s2 := (d + 2, 154, 86, [some (.ref 34), some (.int 6), some (.int 4), some (.int 0)], [], 0, 0, (mSH, (mUp I 34 12 (nI a1)), L))) rfl (by decide) ?_
        refine mB 6 (s2 := (d + 2, 154, 94, [some (.ref 34), some (.int 6), some (.int 4), some (.int 0)], [.int 0, .int (nI a1), .ref 34], 0, 0, (mSH, (mUp I 34 12 (nI a1)), L))) rfl ?_
        refine mBT (s2 := (d + 2, 154, 101, [some (.ref 34), some (.int 6), some (.int 4), some (.int 0)], [.int (nI a1), .ref 34], 0, 0, (mSH, (mUp I 34 12 (nI a1)), L))) rfl (by decide) ?_
        refine mB 4 (s2 := (d + 2, 154, 107, [some (.ref 34), some (.int 6), some (.int 4), some (.int 0)], [.int 0], 0, 0, (mSH, (mUp (mUp I 34 12 (nI a1)) 34 12 ((nI a1) + 0)), L))) rfl ?_
        refine mRt (r := (some (.int 0))) (h := (mSH, (mUp (mUp I 34 12 (nI a1)) 34 12 ((nI a1) + 0)), L)) rfl rfl ?_
        exact mWq q0 hla1 (nI_add a1 0) (by omega)
      · intro l3
        show mWP mTb_ mFT ro (d + 2, 154, 35, [some (.ref 34), some (.int 6), some (.int 1), some (.int 1)], [.int (I 40 (a1 + 1))], 0, 0, (mSH, (mUp I 34 12 (nI a1)), L)) _
        refine mB 5 (s2 := (d + 2, 154, 42, [some (.ref 34), some (.int 6), some (.int 1), some (.int 1)], [.int 7, .ref 41, .int (I 40 (a1 + 1))], 0, 0, (mSH, (mUp I 34 12 (nI a1)), L))) rfl ?_
        refine mRq (s2 := (d + 2, 154, 43, [some (.ref 34), some (.int 6), some (.int 1), some (.int 1)], [.int (I 41 7), .int (I 40 (a1 + 1))], 0, 0, (mSH, (mUp I 34 12 (nI a1)), L))) rfl (by decide) ?_
        refine mBr (s2 := (d + 2, 154, 46, [some (.ref 34), some (.int 6), some (.int 1), some (.int 1)], [], 0, 0, (mSH, (mUp I 34 12 (nI a1)), L))) (s3 := (d + 2, 154, 50, [some (.ref 34), some (.int 6), some (.int 1), some (.int 1)], [], 0, 0, (mSH, (mUp I 34 12 (nI a1)), L))) rfl (fun c2 => ?_) (fun c2 => ?_)
        · refine mB 10 (s2 := (d + 2, 154, 15, [some (.ref 34), some (.int 6), some (.int 2), some (.int 1)], [.int 8, .ref 41], 0, 0, (mSH, (mUp I 34 12 (nI a1)), L))) rfl ?_
          refine mRq (s2 := (d + 2, 154, 16, [some (.ref 34), some (.int 6), some (.int 2), some (.int 1)], [.int (I 41 8)], 0, 0, (mSH, (mUp I 34 12 (nI a1)), L))) rfl (by decide) ?_
          refine mB 1 (s2 := (d + 2, 154, 18, [some (.ref 34), some (.int 6), some (.int 2), some (.int 1)], [.int 32, .int (I 41 8)], 0, 0, (mSH, (mUp I 34 12 (nI a1)), L))) rfl ?_
          refine mBF (s3 := (d + 2, 154, 21, [some (.ref 34), some (.int 6), some (.int 2), some (.int 1)], [], 0, 0, (mSH, (mUp I 34 12 (nI a1)), L))) rfl (by first | (simp only [f41_0, f41_1, f41_2, f41_3, f41_4, f41_5, f41_6, f41_7, f41_8, f41_9, f41_10, f41_11, f41_12, f41_13, f41_14, f41_15, f41_16, f41_17, f41_18, f41_19, f41_20, f41_21, f41_22]; first | decide | rfl) | decide | rfl) ?_
          refine mB 1 (s2 := (d + 2, 154, 22, [some (.ref 34), some (.int 6), some (.int 2), some (.int 1)], [.int 1], 0, 0, (mSH, (mUp I 34 12 (nI a1)), L))) rfl ?_
          refine mBF (s3 := (d + 2, 154, 25, [some (.ref 34), some (.int 6), some (.int 2), some (.int 1)], [], 0, 0, (mSH, (mUp I 34 12 (nI a1)), L))) rfl (by decide) ?_
          refine mB 5 (s2 := (d + 2, 154, 32, [some (.ref 34), some (.int 6), some (.int 2), some (.int 1)], [.int ((nI a1) + 2), .ref 34], 0, 0, (mSH, (mUp I 34 12 (nI a1)), L))) rfl ?_
          refine mCall (s2 := (d + 1, 151, 0, [some (.ref 34), some (.int ((nI a1) + 2))], [], 0, 0, (mSH, (mUp I 34 12 (nI a1)), L))) rfl ?_
          refine w_byte (k := a1 + 2) (hm) (nI_add a1 2) (by omega) ?_ ?_
          · show mWP mTb_ mFT ro (d + 2, 154, 35, [some (.ref 34), some (.int 6), some (.int 2), some (.int 1)], [.int (-1)], 0, 0, (mSH, (mUp I 34 12 (nI a1)), L)) _
            refine mB 5 (s2 := (d + 2, 154, 42, [some (.ref 34), some (.int 6), some (.int 2), some (.int 1)], [.int 8, .ref 41, .int (-1)], 0, 0, (mSH, (mUp I 34 12 (nI a1)), L))) rfl ?_
            refine mRq (s2 := (d + 2, 154, 43, [some (.ref 34), some (.int 6), some (.int 2), some (.int 1)], [.int (I 41 8), .int (-1)], 0, 0, (mSH, (mUp I 34 12 (nI a1)), L))) rfl (by decide) ?_
            refine mBF (s3 := (d + 2, 154, 50, [some (.ref 34), some (.int 6), some (.int 2), some (.int 1)], [], 0, 0, (mSH, (mUp I 34 12 (nI a1)), L))) rfl (by first | (simp only [f41_0, f41_1, f41_2, f41_3, f41_4, f41_5, f41_6, f41_7, f41_8, f41_9, f41_10, f41_11, f41_12, f41_13, f41_14, f41_15, f41_16, f41_17, f41_18, f41_19, f41_20, f41_21, f41_22]; first | decide | rfl) | decide | rfl) ?_
            refine mB 9 (s2 := (d + 2, 154, 15, [some (.ref 34), some (.int 6), some (.int 3), some (.int 0)], [.int 9, .ref 41], 0, 0, (mSH, (mUp I 34 12 (nI a1)), L))) rfl ?_
            refine mRq (s2 := (d + 2, 154, 16, [some (.ref 34), some (.int 6), some (.int 3), some (.int 0)], [.int (I 41 9)], 0, 0, (mSH, (mUp I 34 12 (nI a1)), L))) rfl (by decide) ?_
            refine mB 1 (s2 := (d + 2, 154, 18, [some (.ref 34), some (.int 6), some (.int 3), some (.int 0)], [.int 32, .int (I 41 9)], 0, 0, (mSH, (mUp I 34 12 (nI a1)), L))) rfl ?_
            refine mBF (s3 := (d + 2, 154, 21, [some (.ref 34), some (.int 6), some (.int 3), some (.int 0)], [], 0, 0, (mSH, (mUp I 34 12 (nI a1)), L))) rfl (by first | (simp only [f41_0, f41_1, f41_2, f41_3, f41_4, f41_5, f41_6, f41_7, f41_8, f41_9, f41_10, f41_11, f41_12, f41_13, f41_14, f41_15, f41_16, f41_17, f41_18, f41_19, f41_20, f41_21, f41_22]; first | decide | rfl) | decide | rfl) ?_
            refine mB 1 (s2 := (d + 2, 154, 22, [some (.ref 34), some (.int 6), some (.int 3), some (.int 0)], [.int 0], 0, 0, (mSH, (mUp I 34 12 (nI a1)), L))) rfl ?_
            refine mBT (s2 := (d + 2, 154, 50, [some (.ref 34), some (.int 6), some (.int 3), some (.int 0)], [], 0, 0, (mSH, (mUp I 34 12 (nI a1)), L))) rfl (by decide) ?_
            refine mB 9 (s2 := (d + 2, 154, 15, [some (.ref 34), some (.int 6), some (.int 4), some (.int 0)], [.int 10, .ref 41], 0, 0, (mSH, (mUp I 34 12 (nI a1)), L))) rfl ?_
            refine mRq (s2 := (d + 2, 154, 16, [some (.ref 34), some (.int 6), some (.int 4), some (.int 0)], [.int (I 41 10)], 0, 0, (mSH, (mUp I 34 12 (nI a1)), L))) rfl (by decide) ?_
            refine mB 1 (s2 := (d + 2, 154, 18, [some (.ref 34), some (.int 6), some (.int 4), some (.int 0)], [.int 32, .int (I 41 10)], 0, 0, (mSH, (mUp I 34 12 (nI a1)), L))) rfl ?_
            refine mBT (s2 := (d + 2, 154, 58, [some (.ref 34), some (.int 6), some (.int 4), some (.int 0)], [], 0, 0, (mSH, (mUp I 34 12 (nI a1)), L))) rfl (by first | (simp only [f41_0, f41_1, f41_2, f41_3, f41_4, f41_5, f41_6, f41_7, f41_8, f41_9, f41_10, f41_11, f41_12, f41_13, f41_14, f41_15, f41_16, f41_17, f41_18, f41_19, f41_20, f41_21, f41_22]; first | decide | rfl) | decide | rfl) ?_
            refine mB 1 (s2 := (d + 2, 154, 59, [some (.ref 34), some (.int 6), some (.int 4), some (.int 0)], [.int 0], 0, 0, (mSH, (mUp I 34 12 (nI a1)), L))) rfl ?_
            refine mBT (s2 := (d + 2, 154, 86, [some (.ref 34), some (.int 6), some (.int 4), some (.int 0)], [], 0, 0, (mSH, (mUp I 34 12 (nI a1)), L))) rfl (by decide) ?_
            refine mB 6 (s2 := (d + 2, 154, 94, [some (.ref 34), some (.int 6), some (.int 4), some (.int 0)], [.int 0, .int (nI a1), .ref 34], 0, 0, (mSH, (mUp I 34 12 (nI a1)), L))) rfl ?_
            refine mBT (s2 := (d + 2, 154, 101, [some (.ref 34), some (.int 6), some (.int 4), some (.int 0)], [.int (nI a1), .ref 34], 0, 0, (mSH, (mUp I 34 12 (nI a1)), L))) rfl (by decide) ?_
            refine mB 4 (s2 := (d + 2, 154, 107, [some (.ref 34), some (.int 6), some (.int 4), some (.int 0)], [.int 0], 0, 0, (mSH, (mUp (mUp I 34 12 (nI a1)) 34 12 ((nI a1) + 0)), L))) rfl ?_
            refine mRt (r := (some (.int 0))) (h := (mSH, (mUp (mUp I 34 12 (nI a1)) 34 12 ((nI a1) + 0)), L)) rfl rfl ?_
            exact mWq q0 hla1 (nI_add a1 0) (by omega)
          · intro l4
            show mWP mTb_ mFT ro (d + 2, 154, 35, [some (.ref 34), some (.int 6), some (.int 2), some (.int 1)], [.int (I 40 (a1 + 2))], 0, 0, (mSH, (mUp I 34 12 (nI a1)), L)) _
            refine mB 5 (s2 := (d + 2, 154, 42, [some (.ref 34), some (.int 6), some (.int 2), some (.int 1)], [.int 8, .ref 41, .int (I 40 (a1 + 2))], 0, 0, (mSH, (mUp I 34 12 (nI a1)), L))) rfl ?_
            refine mRq (s2 := (d + 2, 154, 43, [some (.ref 34), some (.int 6), some (.int 2), some (.int 1)], [.int (I 41 8), .int (I 40 (a1 + 2))], 0, 0, (mSH, (mUp I 34 12 (nI a1)), L))) rfl (by decide) ?_
            refine mBr (s2 := (d + 2, 154, 46, [some (.ref 34), some (.int 6), some (.int 2), some (.int 1)], [], 0, 0, (mSH, (mUp I 34 12 (nI a1)), L))) (s3 := (d + 2, 154, 50, [some (.ref 34), some (.int 6), some (.int 2), some (.int 1)], [], 0, 0, (mSH, (mUp I 34 12 (nI a1)), L))) rfl (fun c3 => ?_) (fun c3 => ?_)
            · refine mB 10 (s2 := (d + 2, 154, 15, [some (.ref 34), some (.int 6), some (.int 3), some (.int 1)], [.int 9, .ref 41], 0, 0, (mSH, (mUp I 34 12 (nI a1)), L))) rfl ?_
              refine mRq (s2 := (d + 2, 154, 16, [some (.ref 34), some (.int 6), some (.int 3), some (.int 1)], [.int (I 41 9)], 0, 0, (mSH, (mUp I 34 12 (nI a1)), L))) rfl (by decide) ?_
              refine mB 1 (s2 := (d + 2, 154, 18, [some (.ref 34), some (.int 6), some (.int 3), some (.int 1)], [.int 32, .int (I 41 9)], 0, 0, (mSH, (mUp I 34 12 (nI a1)), L))) rfl ?_
              refine mBF (s3 := (d + 2, 154, 21, [some (.ref 34), some (.int 6), some (.int 3), some (.int 1)], [], 0, 0, (mSH, (mUp I 34 12 (nI a1)), L))) rfl (by first | (simp only [f41_0, f41_1, f41_2, f41_3, f41_4, f41_5, f41_6, f41_7, f41_8, f41_9, f41_10, f41_11, f41_12, f41_13, f41_14, f41_15, f41_16, f41_17, f41_18, f41_19, f41_20, f41_21, f41_22]; first | decide | rfl) | decide | rfl) ?_
              refine mB 1 (s2 := (d + 2, 154, 22, [some (.ref 34), some (.int 6), some (.int 3), some (.int 1)], [.int 1], 0, 0, (mSH, (mUp I 34 12 (nI a1)), L))) rfl ?_
              refine mBF (s3 := (d + 2, 154, 25, [some (.ref 34), some (.int 6), some (.int 3), some (.int 1)], [], 0, 0, (mSH, (mUp I 34 12 (nI a1)), L))) rfl (by decide) ?_
              refine mB 5 (s2 := (d + 2, 154, 32, [some (.ref 34), some (.int 6), some (.int 3), some (.int 1)], [.int ((nI a1) + 3), .ref 34], 0, 0, (mSH, (mUp I 34 12 (nI a1)), L))) rfl ?_
              refine mCall (s2 := (d + 1, 151, 0, [some (.ref 34), some (.int ((nI a1) + 3))], [], 0, 0, (mSH, (mUp I 34 12 (nI a1)), L))) rfl ?_
              refine w_byte (k := a1 + 3) (hm) (nI_add a1 3) (by omega) ?_ ?_
              · show mWP mTb_ mFT ro (d + 2, 154, 35, [some (.ref 34), some (.int 6), some (.int 3), some (.int 1)], [.int (-1)], 0, 0, (mSH, (mUp I 34 12 (nI a1)), L)) _
                refine mB 5 (s2 := (d + 2, 154, 42, [some (.ref 34), some (.int 6), some (.int 3), some (.int 1)], [.int 9, .ref 41, .int (-1)], 0, 0, (mSH, (mUp I 34 12 (nI a1)), L))) rfl ?_
                refine mRq (s2 := (d + 2, 154, 43, [some (.ref 34), some (.int 6), some (.int 3), some (.int 1)], [.int (I 41 9), .int (-1)], 0, 0, (mSH, (mUp I 34 12 (nI a1)), L))) rfl (by decide) ?_
                refine mBF (s3 := (d + 2, 154, 50, [some (.ref 34), some (.int 6), some (.int 3), some (.int 1)], [], 0, 0, (mSH, (mUp I 34 12 (nI a1)), L))) rfl (by first | (simp only [f41_0, f41_1, f41_2, f41_3, f41_4, f41_5, f41_6, f41_7, f41_8, f41_9, f41_10, f41_11, f41_12, f41_13, f41_14, f41_15, f41_16, f41_17, f41_18, f41_19, f41_20, f41_21, f41_22]; first | decide | rfl) | decide | rfl) ?_
                refine mB 9 (s2 := (d + 2, 154, 15, [some (.ref 34), some (.int 6), some (.int 4), some (.int 0)], [.int 10, .ref 41], 0, 0, (mSH, (mUp I 34 12 (nI a1)), L))) rfl ?_
                refine mRq (s2 := (d + 2, 154, 16, [some (.ref 34), some (.int 6), some (.int 4), some (.int 0)], [.int (I 41 10)], 0, 0, (mSH, (mUp I 34 12 (nI a1)), L))) rfl (by decide) ?_
                refine mB 1 (s2 := (d + 2, 154, 18, [some (.ref 34), some (.int 6), some (.int 4), some (.int 0)], [.int 32, .int (I 41 10)], 0, 0, (mSH, (mUp I 34 12 (nI a1)), L))) rfl ?_
                refine mBT (s2 := (d + 2, 154, 58, [some (.ref 34), some (.int 6), some (.int 4), some (.int 0)], [], 0, 0, (mSH, (mUp I 34 12 (nI a1)), L))) rfl (by first | (simp only [f41_0, f41_1, f41_2, f41_3, f41_4, f41_5, f41_6, f41_7, f41_8, f41_9, f41_10, f41_11, f41_12, f41_13, f41_14, f41_15, f41_16, f41_17, f41_18, f41_19, f41_20, f41_21, f41_22]; first | decide | rfl) | decide | rfl) ?_
                refine mB 1 (s2 := (d + 2, 154, 59, [some (.ref 34), some (.int 6), some (.int 4), some (.int 0)], [.int 0], 0, 0, (mSH, (mUp I 34 12 (nI a1)), L))) rfl ?_
                refine mBT (s2 := (d + 2, 154, 86, [some (.ref 34), some (.int 6), some (.int 4), some (.int 0)], [], 0, 0, (mSH, (mUp I 34 12 (nI a1)), L))) rfl (by decide) ?_
                refine mB 6 (s2 := (d + 2, 154, 94, [some (.ref 34), some (.int 6), some (.int 4), some (.int 0)], [.int 0, .int (nI a1), .ref 34], 0, 0, (mSH, (mUp I 34 12 (nI a1)), L))) rfl ?_
                refine mBT (s2 := (d + 2, 154, 101, [some (.ref 34), some (.int 6), some (.int 4), some (.int 0)], [.int (nI a1), .ref 34], 0, 0, (mSH, (mUp I 34 12 (nI a1)), L))) rfl (by decide) ?_
                refine mB 4 (s2 := (d + 2, 154, 107, [some (.ref 34), some (.int 6), some (.int 4), some (.int 0)], [.int 0], 0, 0, (mSH, (mUp (mUp I 34 12 (nI a1)) 34 12 ((nI a1) + 0)), L))) rfl ?_
                refine mRt (r := (some (.int 0))) (h := (mSH, (mUp (mUp I 34 12 (nI a1)) 34 12 ((nI a1) + 0)), L)) rfl rfl ?_
                exact mWq q0 hla1 (nI_add a1 0) (by omega)
              · intro l5
                show mWP mTb_ mFT ro (d + 2, 154, 35, [some (.ref 34), some (.int 6), some (.int 3), some (.int 1)], [.int (I 40 (a1 + 3))], 0, 0, (mSH, (mUp I 34 12 (nI a1)), L)) _
                refine mB 5 (s2 := (d + 2, 154, 42, [some (.ref 34), some (.int 6), some (.int 3), some (.int 1)], [.int 9, .ref 41, .int (I 40 (a1 + 3))], 0, 0, (mSH, (mUp I 34 12 (nI a1)), L))) rfl ?_
                refine mRq (s2 := (d + 2, 154, 43, [some (.ref 34), some (.int 6), some (.int 3), some (.int 1)], [.int (I 41 9), .int (I 40 (a1 + 3))], 0, 0, (mSH, (mUp I 34 12 (nI a1)), L))) rfl (by decide) ?_
                refine mBr (s2 := (d + 2, 154, 46, [some (.ref 34), some (.int 6), some (.int 3), some (.int 1)], [], 0, 0, (mSH, (mUp I 34 12 (nI a1)), L))) (s3 := (d + 2, 154, 50, [some (.ref 34), some (.int 6), some (.int 3), some (.int 1)], [], 0, 0, (mSH, (mUp I 34 12 (nI a1)), L))) rfl (fun c4 => ?_) (fun c4 => ?_)
                · refine mB 10 (s2 := (d + 2, 154, 15, [some (.ref 34), some (.int 6), some (.int 4), some (.int 1)], [.int 10, .ref 41], 0, 0, (mSH, (mUp I 34 12 (nI a1)), L))) rfl ?_
                  refine mRq (s2 := (d + 2, 154, 16, [some (.ref 34), some (.int 6), some (.int 4), some (.int 1)], [.int (I 41 10)], 0, 0, (mSH, (mUp I 34 12 (nI a1)), L))) rfl (by decide) ?_
                  refine mB 1 (s2 := (d + 2, 154, 18, [some (.ref 34), some (.int 6), some (.int 4), some (.int 1)], [.int 32, .int (I 41 10)], 0, 0, (mSH, (mUp I 34 12 (nI a1)), L))) rfl ?_
                  refine mBT (s2 := (d + 2, 154, 58, [some (.ref 34), some (.int 6), some (.int 4), some (.int 1)], [], 0, 0, (mSH, (mUp I 34 12 (nI a1)), L))) rfl (by first | (simp only [f41_0, f41_1, f41_2, f41_3, f41_4, f41_5, f41_6, f41_7, f41_8, f41_9, f41_10, f41_11, f41_12, f41_13, f41_14, f41_15, f41_16, f41_17, f41_18, f41_19, f41_20, f41_21, f41_22]; first | decide | rfl) | decide | rfl) ?_
                  refine mB 1 (s2 := (d + 2, 154, 59, [some (.ref 34), some (.int 6), some (.int 4), some (.int 1)], [.int 1], 0, 0, (mSH, (mUp I 34 12 (nI a1)), L))) rfl ?_
                  refine mBF (s3 := (d + 2, 154, 62, [some (.ref 34), some (.int 6), some (.int 4), some (.int 1)], [], 0, 0, (mSH, (mUp I 34 12 (nI a1)), L))) rfl (by decide) ?_
                  refine mB 5 (s2 := (d + 2, 154, 69, [some (.ref 34), some (.int 6), some (.int 4), some (.int 1)], [.int ((nI a1) + 4), .ref 34], 0, 0, (mSH, (mUp I 34 12 (nI a1)), L))) rfl ?_
                  refine mCall (s2 := (d + 1, 151, 0, [some (.ref 34), some (.int ((nI a1) + 4))], [], 0, 0, (mSH, (mUp I 34 12 (nI a1)), L))) rfl ?_
                  refine w_byte (k := a1 + 4) (hm) (nI_add a1 4) (by omega) ?_ ?_
                  · show mWP mTb_ mFT ro (d + 2, 154, 72, [some (.ref 34), some (.int 6), some (.int 4), some (.int 1)], [.int (-1)], 0, 0, (mSH, (mUp I 34 12 (nI a1)), L)) _
                    refine mB 2 (s2 := (d + 2, 154, 76, [some (.ref 34), some (.int 6), some (.int 4), some (.int 1)], [.int 122, .int 97, .int (-1)], 0, 0, (mSH, (mUp I 34 12 (nI a1)), L))) rfl ?_
                    refine mCall (s2 := (d + 1, 112, 0, [some (.int (-1)), some (.int 97), some (.int 122)], [], 0, 0, (mSH, (mUp I 34 12 (nI a1)), L))) rfl ?_
                    refine mB 2 (s2 := (d + 1, 112, 2, [some (.int (-1)), some (.int 97), some (.int 122)], [.int 97, .int (-1)], 0, 0, (mSH, (mUp I 34 12 (nI a1)), L))) rfl ?_
                    refine mBT (s2 := (d + 1, 112, 14, [some (.int (-1)), some (.int 97), some (.int 122)], [], 0, 0, (mSH, (mUp I 34 12 (nI a1)), L))) rfl (by decide) ?_
                    refine mB 1 (s2 := (d + 1, 112, 15, [some (.int (-1)), some (.int 97), some (.int 122)], [.int 0], 0, 0, (mSH, (mUp I 34 12 (nI a1)), L))) rfl ?_
                    refine mRt (r := (some (.int 0))) (h := (mSH, (mUp I 34 12 (nI a1)), L)) rfl rfl ?_
                    show mWP mTb_ mFT ro (d + 2, 154, 79, [some (.ref 34), some (.int 6), some (.int 4), some (.int 1)], [.int 0], 0, 0, (mSH, (mUp I 34 12 (nI a1)), L)) _
                    refine mBT (s2 := (d + 2, 154, 82, [some (.ref 34), some (.int 6), some (.int 4), some (.int 1)], [], 0, 0, (mSH, (mUp I 34 12 (nI a1)), L))) rfl (by decide) ?_
                    refine mB 7 (s2 := (d + 2, 154, 94, [some (.ref 34), some (.int 6), some (.int 4), some (.int 1)], [.int 1, .int (nI a1), .ref 34], 0, 0, (mSH, (mUp I 34 12 (nI a1)), L))) rfl ?_
                    refine mBF (s3 := (d + 2, 154, 97, [some (.ref 34), some (.int 6), some (.int 4), some (.int 1)], [.int (nI a1), .ref 34], 0, 0, (mSH, (mUp I 34 12 (nI a1)), L))) rfl (by decide) ?_
                    refine mB 5 (s2 := (d + 2, 154, 107, [some (.ref 34), some (.int 6), some (.int 4), some (.int 1)], [.int 1], 0, 0, (mSH, (mUp (mUp I 34 12 (nI a1)) 34 12 ((nI a1) + 4)), L))) rfl ?_
                    refine mRt (r := (some (.int 1))) (h := (mSH, (mUp (mUp I 34 12 (nI a1)) 34 12 ((nI a1) + 4)), L)) rfl rfl ?_
                    exact mWq q1 hla1 (nI_add a1 4) (by omega)
                  · intro l6
                    show mWP mTb_ mFT ro (d + 2, 154, 72, [some (.ref 34), some (.int 6), some (.int 4), some (.int 1)], [.int (I 40 (a1 + 4))], 0, 0, (mSH, (mUp I 34 12 (nI a1)), L)) _
                    refine mB 2 (s2 := (d + 2, 154, 76, [some (.ref 34), some (.int 6), some (.int 4), some (.int 1)], [.int 122, .int 97, .int (I 40 (a1 + 4))], 0, 0, (mSH, (mUp I 34 12 (nI a1)), L))) rfl ?_
                    refine mCall (s2 := (d + 1, 112, 0, [some (.int (I 40 (a1 + 4))), some (.int 97), some (.int 122)], [], 0, 0, (mSH, (mUp I 34 12 (nI a1)), L))) rfl ?_
                    refine mB 2 (s2 := (d + 1, 112, 2, [some (.int (I 40 (a1 + 4))), some (.int 97), some (.int 122)], [.int 97, .int (I 40 (a1 + 4))], 0, 0, (mSH, (mUp I 34 12 (nI a1)), L))) rfl ?_
                    refine mBr (s2 := (d + 1, 112, 14, [some (.int (I 40 (a1 + 4))), some (.int 97), some (.int 122)], [], 0, 0, (mSH, (mUp I 34 12 (nI a1)), L))) (s3 := (d + 1, 112, 5, [some (.int (I 40 (a1 + 4))), some (.int 97), some (.int 122)], [], 0, 0, (mSH, (mUp I 34 12 (nI a1)), L))) rfl (fun c5 => ?_) (fun c5 => ?_)
                    · refine mB 1 (s2 := (d + 1, 112, 15, [some (.int (I 40 (a1 + 4))), some (.int 97), some (.int 122)], [.int 0], 0, 0, (mSH, (mUp I 34 12 (nI a1)), L))) rfl ?_
                      refine mRt (r := (some (.int 0))) (h := (mSH, (mUp I 34 12 (nI a1)), L)) rfl rfl ?_
                      show mWP mTb_ mFT ro (d + 2, 154, 79, [some (.ref 34), some (.int 6), some (.int 4), some (.int 1)], [.int 0], 0, 0, (mSH, (mUp I 34 12 (nI a1)), L)) _
                      refine mBT (s2 := (d + 2, 154, 82, [some (.ref 34), some (.int 6), some (.int 4), some (.int 1)], [], 0, 0, (mSH, (mUp I 34 12 (nI a1)), L))) rfl (by decide) ?_
                      refine mB 7 (s2 := (d + 2, 154, 94, [some (.ref 34), some (.int 6), some (.int 4), some (.int 1)], [.int 1, .int (nI a1), .ref 34], 0, 0, (mSH, (mUp I 34 12 (nI a1)), L))) rfl ?_
                      refine mBF (s3 := (d + 2, 154, 97, [some (.ref 34), some (.int 6), some (.int 4), some (.int 1)], [.int (nI a1), .ref 34], 0, 0, (mSH, (mUp I 34 12 (nI a1)), L))) rfl (by decide) ?_
                      refine mB 5 (s2 := (d + 2, 154, 107, [some (.ref 34), some (.int 6), some (.int 4), some (.int 1)], [.int 1], 0, 0, (mSH, (mUp (mUp I 34 12 (nI a1)) 34 12 ((nI a1) + 4)), L))) rfl ?_
                      refine mRt (r := (some (.int 1))) (h := (mSH, (mUp (mUp I 34 12 (nI a1)) 34 12 ((nI a1) + 4)), L)) rfl rfl ?_
                      exact mWq q1 hla1 (nI_add a1 4) (by omega)
                    · refine mB 2 (s2 := (d + 1, 112, 7, [some (.int (I 40 (a1 + 4))), some (.int 97), some (.int 122)], [.int 122, .int (I 40 (a1 + 4))], 0, 0, (mSH, (mUp I 34 12 (nI a1)), L))) rfl ?_
                      refine mBr (s2 := (d + 1, 112, 14, [some (.int (I 40 (a1 + 4))), some (.int 97), some (.int 122)], [], 0, 0, (mSH, (mUp I 34 12 (nI a1)), L))) (s3 := (d + 1, 112, 10, [some (.int (I 40 (a1 + 4))), some (.int 97), some (.int 122)], [], 0, 0, (mSH, (mUp I 34 12 (nI a1)), L))) rfl (fun c6 => ?_) (fun c6 => ?_)
                      · refine mB 1 (s2 := (d + 1, 112, 15, [some (.int (I 40 (a1 + 4))), some (.int 97), some (.int 122)], [.int 0], 0, 0, (mSH, (mUp I 34 12 (nI a1)), L))) rfl ?_
                        refine mRt (r := (some (.int 0))) (h := (mSH, (mUp I 34 12 (nI a1)), L)) rfl rfl ?_
                        show mWP mTb_ mFT ro (d + 2, 154, 79, [some (.ref 34), some (.int 6), some (.int 4), some (.int 1)], [.int 0], 0, 0, (mSH, (mUp I 34 12 (nI a1)), L)) _
                        refine mBT (s2 := (d + 2, 154, 82, [some (.ref 34), some (.int 6), some (.int 4), some (.int 1)], [], 0, 0, (mSH, (mUp I 34 12 (nI a1)), L))) rfl (by decide) ?_
                        refine mB 7 (s2 := (d + 2, 154, 94, [some (.ref 34), some (.int 6), some (.int 4), some (.int 1)], [.int 1, .int (nI a1), .ref 34], 0, 0, (mSH, (mUp I 34 12 (nI a1)), L))) rfl ?_
                        refine mBF (s3 := (d + 2, 154, 97, [some (.ref 34), some (.int 6), some (.int 4), some (.int 1)], [.int (nI a1), .ref 34], 0, 0, (mSH, (mUp I 34 12 (nI a1)), L))) rfl (by decide) ?_
                        refine mB 5 (s2 := (d + 2, 154, 107, [some (.ref 34), some (.int 6), some (.int 4), some (.int 1)], [.int 1], 0, 0, (mSH, (mUp (mUp I 34 12 (nI a1)) 34 12 ((nI a1) + 4)), L))) rfl ?_
                        refine mRt (r := (some (.int 1))) (h := (mSH, (mUp (mUp I 34 12 (nI a1)) 34 12 ((nI a1) + 4)), L)) rfl rfl ?_
                        exact mWq q1 hla1 (nI_add a1 4) (by omega)
                      · refine mB 2 (s2 := (d + 1, 112, 15, [some (.int (I 40 (a1 + 4))), some (.int 97), some (.int 122)], [.int 1], 0, 0, (mSH, (mUp I 34 12 (nI a1)), L))) rfl ?_
                        refine mRt (r := (some (.int 1))) (h := (mSH, (mUp I 34 12 (nI a1)), L)) rfl rfl ?_
                        show mWP mTb_ mFT ro (d + 2, 154, 79, [some (.ref 34), some (.int 6), some (.int 4), some (.int 1)], [.int 1], 0, 0, (mSH, (mUp I 34 12 (nI a1)), L)) _
                        refine mBF (s3 := (d + 2, 154, 86, [some (.ref 34), some (.int 6), some (.int 4), some (.int 1)], [], 0, 0, (mSH, (mUp I 34 12 (nI a1)), L))) rfl (by decide) ?_
                        refine mB 6 (s2 := (d + 2, 154, 94, [some (.ref 34), some (.int 6), some (.int 4), some (.int 0)], [.int 0, .int (nI a1), .ref 34], 0, 0, (mSH, (mUp I 34 12 (nI a1)), L))) rfl ?_
                        refine mBT (s2 := (d + 2, 154, 101, [some (.ref 34), some (.int 6), some (.int 4), some (.int 0)], [.int (nI a1), .ref 34], 0, 0, (mSH, (mUp I 34 12 (nI a1)), L))) rfl (by decide) ?_
                        refine mB 4 (s2 := (d + 2, 154, 107, [some (.ref 34), some (.int 6), some (.int 4), some (.int 0)], [.int 0], 0, 0, (mSH, (mUp (mUp I 34 12 (nI a1)) 34 12 ((nI a1) + 0)), L))) rfl ?_
                        refine mRt (r := (some (.int 0))) (h := (mSH, (mUp (mUp I 34 12 (nI a1)) 34 12 ((nI a1) + 0)), L)) rfl rfl ?_
                        exact mWq q0 hla1 (nI_add a1 0) (by omega)
                · refine mB 9 (s2 := (d + 2, 154, 15, [some (.ref 34), some (.int 6), some (.int 4), some (.int 0)], [.int 10, .ref 41], 0, 0, (mSH, (mUp I 34 12 (nI a1)), L))) rfl ?_
                  refine mRq (s2 := (d + 2, 154, 16, [some (.ref 34), some (.int 6), some (.int 4), some (.int 0)], [.int (I 41 10)], 0, 0, (mSH, (mUp I 34 12 (nI a1)), L))) rfl (by decide) ?_
                  refine mB 1 (s2 := (d + 2, 154, 18, [some (.ref 34), some (.int 6), some (.int 4), some (.int 0)], [.int 32, .int (I 41 10)], 0, 0, (mSH, (mUp I 34 12 (nI a1)), L))) rfl ?_
                  refine mBT (s2 := (d + 2, 154, 58, [some (.ref 34), some (.int 6), some (.int 4), some (.int 0)], [], 0, 0, (mSH, (mUp I 34 12 (nI a1)), L))) rfl (by first | (simp only [f41_0, f41_1, f41_2, f41_3, f41_4, f41_5, f41_6, f41_7, f41_8, f41_9, f41_10, f41_11, f41_12, f41_13, f41_14, f41_15, f41_16, f41_17, f41_18, f41_19, f41_20, f41_21, f41_22]; first | decide | rfl) | decide | rfl) ?_
                  refine mB 1 (s2 := (d + 2, 154, 59, [some (.ref 34), some (.int 6), some (.int 4), some (.int 0)], [.int 0], 0, 0, (mSH, (mUp I 34 12 (nI a1)), L))) rfl ?_
                  refine mBT (s2 := (d + 2, 154, 86, [some (.ref 34), some (.int 6), some (.int 4), some (.int 0)], [], 0, 0, (mSH, (mUp I 34 12 (nI a1)), L))) rfl (by decide) ?_
                  refine mB 6 (s2 := (d + 2, 154, 94, [some (.ref 34), some (.int 6), some (.int 4), some (.int 0)], [.int 0, .int (nI a1), .ref 34], 0, 0, (mSH, (mUp I 34 12 (nI a1)), L))) rfl ?_
                  refine mBT (s2 := (d + 2, 154, 101, [some (.ref 34), some (.int 6), some (.int 4), some (.int 0)], [.int (nI a1), .ref 34], 0, 0, (mSH, (mUp I 34 12 (nI a1)), L))) rfl (by decide) ?_
                  refine mB 4 (s2 := (d + 2, 154, 107, [some (.ref 34), some (.int 6), some (.int 4), some (.int 0)], [.int 0], 0, 0, (mSH, (mUp (mUp I 34 12 (nI a1)) 34 12 ((nI a1) + 0)), L))) rfl ?_
                  refine mRt (r := (some (.int 0))) (h := (mSH, (mUp (mUp I 34 12 (nI a1)) 34 12 ((nI a1) + 0)), L)) rfl rfl ?_
                  exact mWq q0 hla1 (nI_add a1 0) (by omega)
            · refine mB 9 (s2 := (d + 2, 154, 15, [some (.ref 34), some (.int 6), some (.int 3), some (.int 0)], [.int 9, .ref 41], 0, 0, (mSH, (mUp I 34 12 (nI a1)), L))) rfl ?_
              refine mRq (s2 := (d + 2, 154, 16, [some (.ref 34), some (.int 6), some (.int 3), some (.int 0)], [.int (I 41 9)], 0, 0, (mSH, (mUp I 34 12 (nI a1)), L))) rfl (by decide) ?_
              refine mB 1 (s2 := (d + 2, 154, 18, [some (.ref 34), some (.int 6), some (.int 3), some (.int 0)], [.int 32, .int (I 41 9)], 0, 0, (mSH, (mUp I 34 12 (nI a1)), L))) rfl ?_
              refine mBF (s3 := (d + 2, 154, 21, [some (.ref 34), some (.int 6), some (.int 3), some (.int 0)], [], 0, 0, (mSH, (mUp I 34 12 (nI a1)), L))) rfl (by first | (simp only [f41_0, f41_1, f41_2, f41_3, f41_4, f41_5, f41_6, f41_7, f41_8, f41_9, f41_10, f41_11, f41_12, f41_13, f41_14, f41_15, f41_16, f41_17, f41_18, f41_19, f41_20, f41_21, f41_22]; first | decide | rfl) | decide | rfl) ?_
              refine mB 1 (s2 := (d + 2, 154, 22, [some (.ref 34), some (.int 6), some (.int 3), some (.int 0)], [.int 0], 0, 0, (mSH, (mUp I 34 12 (nI a1)), L))) rfl ?_
              refine mBT (s2 := (d + 2, 154, 50, [some (.ref 34), some (.int 6), some (.int 3), some (.int 0)], [], 0, 0, (mSH, (mUp I 34 12 (nI a1)), L))) rfl (by decide) ?_
              refine mB 9 (s2 := (d + 2, 154, 15, [some (.ref 34), some (.int 6), some (.int 4), some (.int 0)], [.int 10, .ref 41], 0, 0, (mSH, (mUp I 34 12 (nI a1)), L))) rfl ?_
              refine mRq (s2 := (d + 2, 154, 16, [some (.ref 34), some (.int 6), some (.int 4), some (.int 0)], [.int (I 41 10)], 0, 0, (mSH, (mUp I 34 12 (nI a1)), L))) rfl (by decide) ?_
              refine mB 1 (s2 := (d + 2, 154, 18, [some (.ref 34), some (.int 6), some (.int 4), some (.int 0)], [.int 32, .int (I 41 10)], 0, 0, (mSH, (mUp I 34 12 (nI a1)), L))) rfl ?_
              refine mBT (s2 := (d + 2, 154, 58, [some (.ref 34), some (.int 6), some (.int 4), some (.int 0)], [], 0, 0, (mSH, (mUp I 34 12 (nI a1)), L))) rfl (by first | (simp only [f41_0, f41_1, f41_2, f41_3, f41_4, f41_5, f41_6, f41_7, f41_8, f41_9, f41_10, f41_11, f41_12, f41_13, f41_14, f41_15, f41_16, f41_17, f41_18, f41_19, f41_20, f41_21, f41_22]; first | decide | rfl) | decide | rfl) ?_
              refine mB 1 (s2 := (d + 2, 154, 59, [some (.ref 34), some (.int 6), some (.int 4), some (.int 0)], [.int 0], 0, 0, (mSH, (mUp I 34 12 (nI a1)), L))) rfl ?_
              refine mBT (s2 := (d + 2, 154, 86, [some (.ref 34), some (.int 6), some (.int 4), some (.int 0)], [], 0, 0, (mSH, (mUp I 34 12 (nI a1)), L))) rfl (by decide) ?_
              refine mB 6 (s2 := (d + 2, 154, 94, [some (.ref 34), some (.int 6), some (.int 4), some (.int 0)], [.int 0, .int (nI a1), .ref 34], 0, 0, (mSH, (mUp I 34 12 (nI a1)), L))) rfl ?_
              refine mBT (s2 := (d + 2, 154, 101, [some (.ref 34), some (.int 6), some (.int 4), some (.int 0)], [.int (nI a1), .ref 34], 0, 0, (mSH, (mUp I 34 12 (nI a1)), L))) rfl (by decide) ?_
              refine mB 4 (s2 := (d + 2, 154, 107, [some (.ref 34), some (.int 6), some (.int 4), some (.int 0)], [.int 0], 0, 0, (mSH, (mUp (mUp I 34 12 (nI a1)) 34 12 ((nI a1) + 0)), L))) rfl ?_
              refine mRt (r := (some (.int 0))) (h := (mSH, (mUp (mUp I 34 12 (nI a1)) 34 12 ((nI a1) + 0)), L)) rfl rfl ?_
              exact mWq q0 hla1 (nI_add a1 0) (by omega)
        · refine mB 9 (s2 := (d + 2, 154, 15, [some (.ref 34), some (.int 6), some (.int 2), some (.int 0)], [.int 8, .ref 41], 0, 0, (mSH, (mUp I 34 12 (nI a1)), L))) rfl ?_
          refine mRq (s2 := (d + 2, 154, 16, [some (.ref 34), some (.int 6), some (.int 2), some (.int 0)], [.int (I 41 8)], 0, 0, (mSH, (mUp I 34 12 (nI a1)), L))) rfl (by decide) ?_
          refine mB 1 (s2 := (d + 2, 154, 18, [some (.ref 34), some (.int 6), some (.int 2), some (.int 0)], [.int 32, .int (I 41 8)], 0, 0, (mSH, (mUp I 34 12 (nI a1)), L))) rfl ?_
          refine mBF (s3 := (d + 2, 154, 21, [some (.ref 34), some (.int 6), some (.int 2), some (.int 0)], [], 0, 0, (mSH, (mUp I 34 12 (nI a1)), L))) rfl (by first | (simp only [f41_0, f41_1, f41_2, f41_3, f41_4, f41_5, f41_6, f41_7, f41_8, f41_9, f41_10, f41_11, f41_12, f41_13, f41_14, f41_15, f41_16, f41_17, f41_18, f41_19, f41_20, f41_21, f41_22]; first | decide | rfl) | decide | rfl) ?_
          refine mB 1 (s2 := (d + 2, 154, 22, [some (.ref 34), some (.int 6), some (.int 2), some (.int 0)], [.int 0], 0, 0, (mSH, (mUp I 34 12 (nI a1)), L))) rfl ?_
          refine mBT (s2 := (d + 2, 154, 50, [some (.ref 34), some (.int 6), some (.int 2), some (.int 0)], [], 0, 0, (mSH, (mUp I 34 12 (nI a1)), L))) rfl (by decide) ?_
          refine mB 9 (s2 := (d + 2, 154, 15, [some (.ref 34), some (.int 6), some (.int 3), some (.int 0)], [.int 9, .ref 41], 0, 0, (mSH, (mUp I 34 12 (nI a1)), L))) rfl ?_
          refine mRq (s2 := (d + 2, 154, 16, [some (.ref 34), some (.int 6), some (.int 3), some (.int 0)], [.int (I 41 9)], 0, 0, (mSH, (mUp I 34 12 (nI a1)), L))) rfl (by decide) ?_
          refine mB 1 (s2 := (d + 2, 154, 18, [some (.ref 34), some (.int 6), some (.int 3), some (.int 0)], [.int 32, .int (I 41 9)], 0, 0, (mSH, (mUp I 34 12 (nI a1)), L))) rfl ?_
          refine mBF (s3 := (d + 2, 154, 21, [some (.ref 34), some (.int 6), some (.int 3), some (.int 0)], [], 0, 0, (mSH, (mUp I 34 12 (nI a1)), L))) rfl (by first | (simp only [f41_0, f41_1, f41_2, f41_3, f41_4, f41_5, f41_6, f41_7, f41_8, f41_9, f41_10, f41_11, f41_12, f41_13, f41_14, f41_15, f41_16, f41_17, f41_18, f41_19, f41_20, f41_21, f41_22]; first | decide | rfl) | decide | rfl) ?_
          refine mB 1 (s2 := (d + 2, 154, 22, [some (.ref 34), some (.int 6), some (.int 3), some (.int 0)], [.int 0], 0, 0, (mSH, (mUp I 34 12 (nI a1)), L))) rfl ?_
          refine mBT (s2 := (d + 2, 154, 50, [some (.ref 34), some (.int 6), some (.int 3), some (.int 0)], [], 0, 0, (mSH, (mUp I 34 12 (nI a1)), L))) rfl (by decide) ?_
          refine mB 9 (s2 := (d + 2, 154, 15, [some (.ref 34), some (.int 6), some (.int 4), some (.int 0)], [.int 10, .ref 41], 0, 0, (mSH, (mUp I 34 12 (nI a1)), L))) rfl ?_
          refine mRq (s2 := (d + 2, 154, 16, [some (.ref 34), some (.int 6), some (.int 4), some (.int 0)], [.int (I 41 10)], 0, 0, (mSH, (mUp I 34 12 (nI a1)), L))) rfl (by decide) ?_
          refine mB 1 (s2 := (d + 2, 154, 18, [some (.ref 34), some (.int 6), some (.int 4), some (.int 0)], [.int 32, .int (I 41 10)], 0, 0, (mSH, (mUp I 34 12 (nI a1)), L))) rfl ?_
          refine mBT (s2 := (d + 2, 154, 58, [some (.ref 34), some (.int 6), some (.int 4), some (.int 0)], [], 0, 0, (mSH, (mUp I 34 12 (nI a1)), L))) rfl (by first | (simp only [f41_0, f41_1, f41_2, f41_3, f41_4, f41_5, f41_6, f41_7, f41_8, f41_9, f41_10, f41_11, f41_12, f41_13, f41_14, f41_15, f41_16, f41_17, f41_18, f41_19, f41_20, f41_21, f41_22]; first | decide | rfl) | decide | rfl) ?_
          refine mB 1 (s2 := (d + 2, 154, 59, [some (.ref 34), some (.int 6), some (.int 4), some (.int 0)], [.int 0], 0, 0, (mSH, (mUp I 34 12 (nI a1)), L))) rfl ?_
          refine mBT (s2 := (d + 2, 154, 86, [some (.ref 34), some (.int 6), some (.int 4), some (.int 0)], [], 0, 0, (mSH, (mUp I 34 12 (nI a1)), L))) rfl (by decide) ?_
          refine mB 6 (s2 := (d + 2, 154, 94, [some (.ref 34), some (.int 6), some (.int 4), some (.int 0)], [.int 0, .int (nI a1), .ref 34], 0, 0, (mSH, (mUp I 34 12 (nI a1)), L))) rfl ?_
          refine mBT (s2 := (d + 2, 154, 101, [some (.ref 34), some (.int 6), some (.int 4), some (.int 0)], [.int (nI a1), .ref 34], 0, 0, (mSH, (mUp I 34 12 (nI a1)), L))) rfl (by decide) ?_
          refine mB 4 (s2 := (d + 2, 154, 107, [some (.ref 34), some (.int 6), some (.int 4), some (.int 0)], [.int 0], 0, 0, (mSH, (mUp (mUp I 34 12 (nI a1)) 34 12 ((nI a1) + 0)), L))) rfl ?_
          refine mRt (r := (some (.int 0))) (h := (mSH, (mUp (mUp I 34 12 (nI a1)) 34 12 ((nI a1) + 0)), L)) rfl rfl ?_
          exact mWq q0 hla1 (nI_add a1 0) (by omega)
    · refine mB 9 (s2 := (d + 2, 154, 15, [some (.ref 34), some (.int 6), some (.int 1), some (.int 0)], [.int 7, .ref 41], 0, 0, (mSH, (mUp I 34 12 (nI a1)), L))) rfl ?_
      refine mRq (s2 := (d + 2, 154, 16, [some (.ref 34), some (.int 6), some (.int 1), some (.int 0)], [.int (I 41 7)], 0, 0, (mSH, (mUp I 34 12 (nI a1)), L))) rfl (by decide) ?_
      refine mB 1 (s2 := (d + 2, 154, 18, [some (.ref 34), some (.int 6), some (.int 1), some (.int 0)], [.int 32, .int (I 41 7)], 0, 0, (mSH, (mUp I 34 12 (nI a1)), L))) rfl ?_
      refine mBF (s3 := (d + 2, 154, 21, [some (.ref 34), some (.int 6), some (.int 1), some (.int 0)], [], 0, 0, (mSH, (mUp I 34 12 (nI a1)), L))) rfl (by first | (simp only [f41_0, f41_1, f41_2, f41_3, f41_4, f41_5, f41_6, f41_7, f41_8, f41_9, f41_10, f41_11, f41_12, f41_13, f41_14, f41_15, f41_16, f41_17, f41_18, f41_19, f41_20, f41_21, f41_22]; first | decide | rfl) | decide | rfl) ?_
      refine mB 1 (s2 := (d + 2, 154, 22, [some (.ref 34), some (.int 6), some (.int 1), some (.int 0)], [.int 0], 0, 0, (mSH, (mUp I 34 12 (nI a1)), L))) rfl ?_
      refine mBT (s2 := (d + 2, 154, 50, [some (.ref 34), some (.int 6), some (.int 1), some (.int 0)], [], 0, 0, (mSH, (mUp I 34 12 (nI a1)), L))) rfl (by decide) ?_
      refine mB 9 (s2 := (d + 2, 154, 15, [some (.ref 34), some (.int 6), some (.int 2), some (.int 0)], [.int 8, .ref 41], 0, 0, (mSH, (mUp I 34 12 (nI a1)), L))) rfl ?_
      refine mRq (s2 := (d + 2, 154, 16, [some (.ref 34), some (.int 6), some (.int 2), some (.int 0)], [.int (I 41 8)], 0, 0, (mSH, (mUp I 34 12 (nI a1)), L))) rfl (by decide) ?_
      refine mB 1 (s2 := (d + 2, 154, 18, [some (.ref 34), some (.int 6), some (.int 2), some (.int 0)], [.int 32, .int (I 41 8)], 0, 0, (mSH, (mUp I 34 12 (nI a1)), L))) rfl ?_
      refine mBF (s3 := (d + 2, 154, 21, [some (.ref 34), some (.int 6), some (.int 2), some (.int 0)], [], 0, 0, (mSH, (mUp I 34 12 (nI a1)), L))) rfl (by first | (simp only [f41_0, f41_1, f41_2, f41_3, f41_4, f41_5, f41_6, f41_7, f41_8, f41_9, f41_10, f41_11, f41_12, f41_13, f41_14, f41_15, f41_16, f41_17, f41_18, f41_19, f41_20, f41_21, f41_22]; first | decide | rfl) | decide | rfl) ?_
      refine mB 1 (s2 := (d + 2, 154, 22, [some (.ref 34), some (.int 6), some (.int 2), some (.int 0)], [.int 0], 0, 0, (mSH, (mUp I 34 12 (nI a1)), L))) rfl ?_
      refine mBT (s2 := (d + 2, 154, 50, [some (.ref 34), some (.int 6), some (.int 2), some (.int 0)], [], 0, 0, (mSH, (mUp I 34 12 (nI a1)), L))) rfl (by decide) ?_
      refine mB 9 (s2 := (d + 2, 154, 15, [some (.ref 34), some (.int 6), some (.int 3), some (.int 0)], [.int 9, .ref 41], 0, 0, (mSH, (mUp I 34 12 (nI a1)), L))) rfl ?_
      refine mRq (s2 := (d + 2, 154, 16, [some (.ref 34), some (.int 6), some (.int 3), some (.int 0)], [.int (I 41 9)], 0, 0, (mSH, (mUp I 34 12 (nI a1)), L))) rfl (by decide) ?_
      refine mB 1 (s2 := (d + 2, 154, 18, [some (.ref 34), some (.int 6), some (.int 3), some (.int 0)], [.int 32, .int (I 41 9)], 0, 0, (mSH, (mUp I 34 12 (nI a1)), L))) rfl ?_
      refine mBF (s3 := (d + 2, 154, 21, [some (.ref 34), some (.int 6), some (.int 3), some (.int 0)], [], 0, 0, (mSH, (mUp I 34 12 (nI a1)), L))) rfl (by first | (simp only [f41_0, f41_1, f41_2, f41_3, f41_4, f41_5, f41_6, f41_7, f41_8, f41_9, f41_10, f41_11, f41_12, f41_13, f41_14, f41_15, f41_16, f41_17, f41_18, f41_19, f41_20, f41_21, f41_22]; first | decide | rfl) | decide | rfl) ?_
      refine mB 1 (s2 := (d + 2, 154, 22, [some (.ref 34), some (.int 6), some (.int 3), some (.int 0)], [.int 0], 0, 0, (mSH, (mUp I 34 12 (nI a1)), L))) rfl ?_
      refine mBT (s2 := (d + 2, 154, 50, [some (.ref 34), some (.int 6), some (.int 3), some (.int 0)], [], 0, 0, (mSH, (mUp I 34 12 (nI a1)), L))) rfl (by decide) ?_
      refine mB 9 (s2 := (d + 2, 154, 15, [some (.ref 34), some (.int 6), some (.int 4), some (.int 0)], [.int 10, .ref 41], 0, 0, (mSH, (mUp I 34 12 (nI a1)), L))) rfl ?_
      refine mRq (s2 := (d + 2, 154, 16, [some (.ref 34), some (.int 6), some (.int 4), some (.int 0)], [.int (I 41 10)], 0, 0, (mSH, (mUp I 34 12 (nI a1)), L))) rfl (by decide) ?_
      refine mB 1 (s2 := (d + 2, 154, 18, [some (.ref 34), some (.int 6), some (.int 4), some (.int 0)], [.int 32, .int (I 41 10)], 0, 0, (mSH, (mUp I 34 12 (nI a1)), L))) rfl ?_
      refine mBT (s2 := (d + 2, 154, 58, [some (.ref 34), some (.int 6), some (.int 4), some (.int 0)], [], 0, 0, (mSH, (mUp I 34 12 (nI a1)), L))) rfl (by first | (simp only [f41_0, f41_1, f41_2, f41_3, f41_4, f41_5, f41_6, f41_7, f41_8, f41_9, f41_10, f41_11, f41_12, f41_13, f41_14, f41_15, f41_16, f41_17, f41_18, f41_19, f41_20, f41_21, f41_22]; first | decide | rfl) | decide | rfl) ?_
      refine mB 1 (s2 := (d + 2, 154, 59, [some (.ref 34), some (.int 6), some (.int 4), some (.int 0)], [.int 0], 0, 0, (mSH, (mUp I 34 12 (nI a1)), L))) rfl ?_
      refine mBT (s2 := (d + 2, 154, 86, [some (.ref 34), some (.int 6), some (.int 4), some (.int 0)], [], 0, 0, (mSH, (mUp I 34 12 (nI a1)), L))) rfl (by decide) ?_
      refine mB 6 (s2 := (d + 2, 154, 94, [some (.ref 34), some (.int 6), some (.int 4), some (.int 0)], [.int 0, .int (nI a1), .ref 34], 0, 0, (mSH, (mUp I 34 12 (nI a1)), L))) rfl ?_
      refine mBT (s2 := (d + 2, 154, 101, [some (.ref 34), some (.int 6), some (.int 4), some (.int 0)], [.int (nI a1), .ref 34], 0, 0, (mSH, (mUp I 34 12 (nI a1)), L))) rfl (by decide) ?_
      refine mB 4 (s2 := (d + 2, 154, 107, [some (.ref 34), some (.int 6), some (.int 4), some (.int 0)], [.int 0], 0, 0, (mSH, (mUp (mUp I 34 12 (nI a1)) 34 12 ((nI a1) + 0)), L))) rfl ?_
      refine mRt (r := (some (.int 0))) (h := (mSH, (mUp (mUp I 34 12 (nI a1)) 34 12 ((nI a1) + 0)), L)) rfl rfl ?_
      exact mWq q0 hla1 (nI_add a1 0) (by omega)
theorem w_isw_11 {ro : Nat → Nat × (Nat → Int32)} {Q : mPo} {d : Nat} {I : Nat → Nat → Int32} {L : Nat → Nat → Int64} {s n t : Nat} {a : Nat} {B : Nat} (hB : 120 ≤ B) (hB2 : B ≤ 1000) (hm : mM s n t I) (hat : I 34 12 = nI a) (ha : a ≤ B) (q0 : ∀ a', a' ≤ B + 5 → Q (some (.int 0)) (mSH, mUp I 34 12 (nI a'), L)) (q1 : ∀ a', a' ≤ B + 5 → Q (some (.int 1)) (mSH, mUp I 34 12 (nI a'), L))   : mWP mTb_ mFT ro (d + 2, 154, 0, [some (.ref 34), some (.int 11), none, none], [], 0, 0, (mSH, I, L)) Q := by
  obtain ⟨f41_0, f41_1, f41_2, f41_3, f41_4, f41_5, f41_6, f41_7, f41_8, f41_9, f41_10, f41_11, f41_12, f41_13, f41_14, f41_15, f41_16, f41_17, f41_18, f41_19, f41_20, f41_21, f41_22⟩ : I 41 0 = 121 ∧ I 41 1 = 101 ∧ I 41 2 = 97 ∧ I 41 3 = 114 ∧ I 41 4 = 115 ∧ I 41 5 = 32 ∧ I 41 6 = 99 ∧ I 41 7 = 111 ∧ I 41 8 = 114 ∧ I 41 9 = 101 ∧ I 41 10 = 32 ∧ I 41 11 = 110 ∧ I 41 12 = 111 ∧ I 41 13 = 114 ∧ I 41 14 = 116 ∧ I 41 15 = 104 ∧ I 41 16 = 32 ∧ I 41 17 = 115 ∧ I 41 18 = 111 ∧ I 41 19 = 117 ∧ I 41 20 = 116 ∧ I 41 21 = 104 ∧ I 41 22 = 32 := ⟨hm.2.2.2.2.2 0 (by omega), hm.2.2.2.2.2 1 (by omega), hm.2.2.2.2.2 2 (by omega), hm.2.2.2.2.2 3 (by omega), hm.2.2.2.2.2 4 (by omega), hm.2.2.2.2.2 5 (by omega), hm.2.2.2.2.2 6 (by omega), hm.2.2.2.2.2 7 (by omega), hm.2.2.2.2.2 8 (by omega), hm.2.2.2.2.2 9 (by omega), hm.2.2.2.2.2 10 (by omega), hm.2.2.2.2.2 11 (by omega), hm.2.2.2.2.2 12 (by omega), hm.2.2.2.2.2 13 (by omega), hm.2.2.2.2.2 14 (by omega), hm.2.2.2.2.2 15 (by omega), hm.2.2.2.2.2 16 (by omega), hm.2.2.2.2.2 17 (by omega), hm.2.2.2.2.2 18 (by omega), hm.2.2.2.2.2 19 (by omega), hm.2.2.2.2.2 20 (by omega), hm.2.2.2.2.2 21 (by omega), hm.2.2.2.2.2 22 (by omega)⟩
  refine mB 1 (s2 := (d + 2, 154, 1, [some (.ref 34), some (.int 11), none, none], [.ref 34], 0, 0, (mSH, I, L))) rfl ?_
  refine mCall (s2 := (d + 1, 152, 0, [some (.ref 34)], [], 0, 0, (mSH, I, L))) rfl ?_
  refine w_skips hB hB2 (hm) hat ha (fun a1 hla1 => ?_)
  show mWP mTb_ mFT ro (d + 2, 154, 4, [some (.ref 34), some (.int 11), none, none], [], 0, 0, (mSH, (mUp I 34 12 (nI a1)), L)) _
  refine mB 9 (s2 := (d + 2, 154, 15, [some (.ref 34), some (.int 11), some (.int 0), some (.int 1)], [.int 11, .ref 41], 0, 0, (mSH, (mUp I 34 12 (nI a1)), L))) rfl ?_
  refine mRq (s2 := (d + 2, 154, 16, [some (.ref 34), some (.int 11), some (.int 0), some (.int 1)], [.int (I 41 11)], 0, 0, (mSH, (mUp I 34 12 (nI a1)), L))) rfl (by decide) ?_
  refine mB 1 (s2 := (d + 2, 154, 18, [some (.ref 34), some (.int 11), some (.int 0), some (.int 1)], [.int 32, .int (I 41 11)], 0, 0, (mSH, (mUp I 34 12 (nI a1)), L))) rfl ?_
  refine mBF (s3 := (d + 2, 154, 21, [some (.ref 34), some (.int 11), some (.int 0), some (.int 1)], [], 0, 0, (mSH, (mUp I 34 12 (nI a1)), L))) rfl (by first | (simp only [f41_0, f41_1, f41_2, f41_3, f41_4, f41_5, f41_6, f41_7, f41_8, f41_9, f41_10, f41_11, f41_12, f41_13, f41_14, f41_15, f41_16, f41_17, f41_18, f41_19, f41_20, f41_21, f41_22]; first | decide | rfl) | decide | rfl) ?_
  refine mB 1 (s2 := (d + 2, 154, 22, [some (.ref 34), some (.int 11), some (.int 0), some (.int 1)], [.int 1], 0, 0, (mSH, (mUp I 34 12 (nI a1)), L))) rfl ?_
  refine mBF (s3 := (d + 2, 154, 25, [some (.ref 34), some (.int 11), some (.int 0), some (.int 1)], [], 0, 0, (mSH, (mUp I 34 12 (nI a1)), L))) rfl (by decide) ?_
  refine mB 5 (s2 := (d + 2, 154, 32, [some (.ref 34), some (.int 11), some (.int 0), some (.int 1)], [.int ((nI a1) + 0), .ref 34], 0, 0, (mSH, (mUp I 34 12 (nI a1)), L))) rfl ?_
  refine mCall (s2 := (d + 1, 151, 0, [some (.ref 34), some (.int ((nI a1) + 0))], [], 0, 0, (mSH, (mUp I 34 12 (nI a1)), L))) rfl ?_
  refine w_byte (k := a1 + 0) (hm) (nI_add a1 0) (by omega) ?_ ?_
  · show mWP mTb_ mFT ro (d + 2, 154, 35, [some (.ref 34), some (.int 11), some (.int 0), some (.int 1)], [.int (-1)], 0, 0, (mSH, (mUp I 34 12 (nI a1)), L)) _
    refine mB 5 (s2 := (d + 2, 154, 42, [some (.ref 34), some (.int 11), some (.int 0), some (.int 1)], [.int 11, .ref 41, .int (-1)], 0, 0, (mSH, (mUp I 34 12 (nI a1)), L))) rfl ?_
    refine mRq (s2 := (d + 2, 154, 43, [some (.ref 34), some (.int 11), some (.int 0), some (.int 1)], [.int (I 41 11), .int (-1)], 0, 0, (mSH, (mUp I 34 12 (nI a1)), L))) rfl (by decide) ?_
    refine mBF (s3 := (d + 2, 154, 50, [some (.ref 34), some (.int 11), some (.int 0), some (.int 1)], [], 0, 0, (mSH, (mUp I 34 12 (nI a1)), L))) rfl (by first | (simp only [f41_0, f41_1, f41_2, f41_3, f41_4, f41_5, f41_6, f41_7, f41_8, f41_9, f41_10, f41_11, f41_12, f41_13, f41_14, f41_15, f41_16, f41_17, f41_18, f41_19, f41_20, f41_21, f41_22]; first | decide | rfl) | decide | rfl) ?_
    refine mB 9 (s2 := (d + 2, 154, 15, [some (.ref 34), some (.int 11), some (.int 1), some (.int 0)], [.int 12, .ref 41], 0, 0, (mSH, (mUp I 34 12 (nI a1)), L))) rfl ?_
    refine mRq (s2 := (d + 2, 154, 16, [some (.ref 34), some (.int 11), some (.int 1), some (.int 0)], [.int (I 41 12)], 0, 0, (mSH, (mUp I 34 12 (nI a1)), L))) rfl (by decide) ?_
    refine mB 1 (s2 := (d + 2, 154, 18, [some (.ref 34), some (.int 11), some (.int 1), some (.int 0)], [.int 32, .int (I 41 12)], 0, 0, (mSH, (mUp I 34 12 (nI a1)), L))) rfl ?_
    refine mBF (s3 := (d + 2, 154, 21, [some (.ref 34), some (.int 11), some (.int 1), some (.int 0)], [], 0, 0, (mSH, (mUp I 34 12 (nI a1)), L))) rfl (by first | (simp only [f41_0, f41_1, f41_2, f41_3, f41_4, f41_5, f41_6, f41_7, f41_8, f41_9, f41_10, f41_11, f41_12, f41_13, f41_14, f41_15, f41_16, f41_17, f41_18, f41_19, f41_20, f41_21, f41_22]; first | decide | rfl) | decide | rfl) ?_
    refine mB 1 (s2 := (d + 2, 154, 22, [some (.ref 34), some (.int 11), some (.int 1), some (.int 0)], [.int 0], 0, 0, (mSH, (mUp I 34 12 (nI a1)), L))) rfl ?_
    refine mBT (s2 := (d + 2, 154, 50, [some (.ref 34), some (.int 11), some (.int 1), some (.int 0)], [], 0, 0, (mSH, (mUp I 34 12 (nI a1)), L))) rfl (by decide) ?_
    refine mB 9 (s2 := (d + 2, 154, 15, [some (.ref 34), some (.int 11), some (.int 2), some (.int 0)], [.int 13, .ref 41], 0, 0, (mSH, (mUp I 34 12 (nI a1)), L))) rfl ?_
    refine mRq (s2 := (d + 2, 154, 16, [some (.ref 34), some (.int 11), some (.int 2), some (.int 0)], [.int (I 41 13)], 0, 0, (mSH, (mUp I 34 12 (nI a1)), L))) rfl (by decide) ?_
    refine mB 1 (s2 := (d + 2, 154, 18, [some (.ref 34), some (.int 11), some (.int 2), some (.int 0)], [.int 32, .int (I 41 13)], 0, 0, (mSH, (mUp I 34 12 (nI a1)), L))) rfl ?_
    refine mBF (s3 := (d + 2, 154, 21, [some (.ref 34), some (.int 11), some (.int 2), some (.int 0)], [], 0, 0, (mSH, (mUp I 34 12 (nI a1)), L))) rfl (by first | (simp only [f41_0, f41_1, f41_2, f41_3, f41_4, f41_5, f41_6, f41_7, f41_8, f41_9, f41_10, f41_11, f41_12, f41_13, f41_14, f41_15, f41_16, f41_17, f41_18, f41_19, f41_20, f41_21, f41_22]; first | decide | rfl) | decide | rfl) ?_
    refine mB 1 (s2 := (d + 2, 154, 22, [some (.ref 34), some (.int 11), some (.int 2), some (.int 0)], [.int 0], 0, 0, (mSH, (mUp I 34 12 (nI a1)), L))) rfl ?_
    refine mBT (s2 := (d + 2, 154, 50, [some (.ref 34), some (.int 11), some (.int 2), some (.int 0)], [], 0, 0, (mSH, (mUp I 34 12 (nI a1)), L))) rfl (by decide) ?_
    refine mB 9 (s2 := (d + 2, 154, 15, [some (.ref 34), some (.int 11), some (.int 3), some (.int 0)], [.int 14, .ref 41], 0, 0, (mSH, (mUp I 34 12 (nI a1)), L))) rfl ?_
    refine mRq (s2 := (d + 2, 154, 16, [some (.ref 34), some (.int 11), some (.int 3), some (.int 0)], [.int (I 41 14)], 0, 0, (mSH, (mUp I 34 12 (nI a1)), L))) rfl (by decide) ?_
    refine mB 1 (s2 := (d + 2, 154, 18, [some (.ref 34), some (.int 11), some (.int 3), some (.int 0)], [.int 32, .int (I 41 14)], 0, 0, (mSH, (mUp I 34 12 (nI a1)), L))) rfl ?_
    refine mBF (s3 := (d + 2, 154, 21, [some (.ref 34), some (.int 11), some (.int 3), some (.int 0)], [], 0, 0, (mSH, (mUp I 34 12 (nI a1)), L))) rfl (by first | (simp only [f41_0, f41_1, f41_2, f41_3, f41_4, f41_5, f41_6, f41_7, f41_8, f41_9, f41_10, f41_11, f41_12, f41_13, f41_14, f41_15, f41_16, f41_17, f41_18, f41_19, f41_20, f41_21, f41_22]; first | decide | rfl) | decide | rfl) ?_
    refine mB 1 (s2 := (d + 2, 154, 22, [some (.ref 34), some (.int 11), some (.int 3), some (.int 0)], [.int 0], 0, 0, (mSH, (mUp I 34 12 (nI a1)), L))) rfl ?_
    refine mBT (s2 := (d + 2, 154, 50, [some (.ref 34), some (.int 11), some (.int 3), some (.int 0)], [], 0, 0, (mSH, (mUp I 34 12 (nI a1)), L))) rfl (by decide) ?_
    refine mB 9 (s2 := (d + 2, 154, 15, [some (.ref 34), some (.int 11), some (.int 4), some (.int 0)], [.int 15, .ref 41], 0, 0, (mSH, (mUp I 34 12 (nI a1)), L))) rfl ?_
    refine mRq (s2 := (d + 2, 154, 16, [some (.ref 34), some (.int 11), some (.int 4), some (.int 0)], [.int (I 41 15)], 0, 0, (mSH, (mUp I 34 12 (nI a1)), L))) rfl (by decide) ?_
    refine mB 1 (s2 := (d + 2, 154, 18, [some (.ref 34), some (.int 11), some (.int 4), some (.int 0)], [.int 32, .int (I 41 15)], 0, 0, (mSH, (mUp I 34 12 (nI a1)), L))) rfl ?_
    refine mBF (s3 := (d + 2, 154, 21, [some (.ref 34), some (.int 11), some (.int 4), some (.int 0)], [], 0, 0, (mSH, (mUp I 34 12 (nI a1)), L))) rfl (by first | (simp only [f41_0, f41_1, f41_2, f41_3, f41_4, f41_5, f41_6, f41_7, f41_8, f41_9, f41_10, f41_11, f41_12, f41_13, f41_14, f41_15, f41_16, f41_17, f41_18, f41_19, f41_20, f41_21, f41_22]; first | decide | rfl) | decide | rfl) ?_
    refine mB 1 (s2 := (d + 2, 154, 22, [some (.ref 34), some (.int 11), some (.int 4), some (.int 0)], [.int 0], 0, 0, (mSH, (mUp I 34 12 (nI a1)), L))) rfl ?_
    refine mBT (s2 := (d + 2, 154, 50, [some (.ref 34), some (.int 11), some (.int 4), some (.int 0)], [], 0, 0, (mSH, (mUp I 34 12 (nI a1)), L))) rfl (by decide) ?_
    refine mB 9 (s2 := (d + 2, 154, 15, [some (.ref 34), some (.int 11), some (.int 5), some (.int 0)], [.int 16, .ref 41], 0, 0, (mSH, (mUp I 34 12 (nI a1)), L))) rfl ?_
    refine mRq (s2 := (d + 2, 154, 16, [some (.ref 34), some (.int 11), some (.int 5), some (.int 0)], [.int (I 41 16)], 0, 0, (mSH, (mUp I 34 12 (nI a1)), L))) rfl (by decide) ?_
    refine mB 1 (s2 := (d + 2, 154, 18, [some (.ref 34), some (.int 11), some (.int 5), some (.int 0)], [.int 32, .int (I 41 16)], 0, 0, (mSH, (mUp I 34 12 (nI a1)), L))) rfl ?_
    refine mBT (s2 := (d + 2, 154, 58, [some (.ref 34), some (.int 11), some (.int 5), some (.int 0)], [], 0, 0, (mSH, (mUp I 34 12 (nI a1)), L))) rfl (by first | (simp only [f41_0, f41_1, f41_2, f41_3, f41_4, f41_5, f41_6, f41_7, f41_8, f41_9, f41_10, f41_11, f41_12, f41_13, f41_14, f41_15, f41_16, f41_17, f41_18, f41_19, f41_20, f41_21, f41_22]; first | decide | rfl) | decide | rfl) ?_
    refine mB 1 (s2 := (d + 2, 154, 59, [some (.ref 34), some (.int 11), some (.int 5), some (.int 0)], [.int 0], 0, 0, (mSH, (mUp I 34 12 (nI a1)), L))) rfl ?_
    refine mBT (s2 := (d + 2, 154, 86, [some (.ref 34), some (.int 11), some (.int 5), some (.int 0)], [], 0, 0, (mSH, (mUp I 34 12 (nI a1)), L))) rfl (by decide) ?_
    refine mB 6 (s2 := (d + 2, 154, 94, [some (.ref 34), some (.int 11), some (.int 5), some (.int 0)], [.int 0, .int (nI a1), .ref 34], 0, 0, (mSH, (mUp I 34 12 (nI a1)), L))) rfl ?_
    refine mBT (s2 := (d + 2, 154, 101, [some (.ref 34), some (.int 11), some (.int 5), some (.int 0)], [.int (nI a1), .ref 34], 0, 0, (mSH, (mUp I 34 12 (nI a1)), L))) rfl (by decide) ?_
    refine mB 4 (s2 := (d + 2, 154, 107, [some (.ref 34), some (.int 11), some (.int 5), some (.int 0)], [.int 0], 0, 0, (mSH, (mUp (mUp I 34 12 (nI a1)) 34 12 ((nI a1) + 0)), L))) rfl ?_
    refine mRt (r := (some (.int 0))) (h := (mSH, (mUp (mUp I 34 12 (nI a1)) 34 12 ((nI a1) + 0)), L)) rfl rfl ?_
    exact mWq q0 hla1 (nI_add a1 0) (by omega)
  · intro l2
    show mWP mTb_ mFT ro (d + 2, 154, 35, [some (.ref 34), some (.int 11), some (.int 0), some (.int 1)], [.int (I 40 (a1 + 0))], 0, 0, (mSH, (mUp I 34 12 (nI a1)), L)) _
    refine mB 5 (s2 := (d + 2, 154, 42, [some (.ref 34), some (.int 11), some (.int 0), some (.int 1)], [.int 11, .ref 41, .int (I 40 (a1 + 0))], 0, 0, (mSH, (mUp I 34 12 (nI a1)), L))) rfl ?_
    refine mRq (s2 := (d + 2, 154, 43, [some (.ref 34), some (.int 11), some (.int 0), some (.int 1)], [.int (I 41 11), .int (I 40 (a1 + 0))], 0, 0, (mSH, (mUp I 34 12 (nI a1)), L))) rfl (by decide) ?_
    refine mBr (s2 := (d + 2, 154, 46, [some (.ref 34), some (.int 11), some (.int 0), some (.int 1)], [], 0, 0, (mSH, (mUp I 34 12 (nI a1)), L))) (s3 := (d + 2, 154, 50, [some (.ref 34), some (.int 11), some (.int 0), some (.int 1)], [], 0, 0, (mSH, (mUp I 34 12 (nI a1)), L))) rfl (fun c1 => ?_) (fun c1 => ?_)
    · refine mB 10 (s2 := (d + 2, 154, 15, [some (.ref 34), some (.int 11), some (.int 1), some (.int 1)], [.int 12, .ref 41], 0, 0, (mSH, (mUp I 34 12 (nI a1)), L))) rfl ?_
      refine mRq (s2 := (d + 2, 154, 16, [some (.ref 34), some (.int 11), some (.int 1), some (.int 1)], [.int (I 41 12)], 0, 0, (mSH, (mUp I 34 12 (nI a1)), L))) rfl (by decide) ?_
      refine mB 1 (s2 := (d + 2, 154, 18, [some (.ref 34), some (.int 11), some (.int 1), some (.int 1)], [.int 32, .int (I 41 12)], 0, 0, (mSH, (mUp I 34 12 (nI a1)), L))) rfl ?_
      refine mBF (s3 := (d + 2, 154, 21, [some (.ref 34), some (.int 11), some (.int 1), some (.int 1)], [], 0, 0, (mSH, (mUp I 34 12 (nI a1)), L))) rfl (by first | (simp only [f41_0, f41_1, f41_2, f41_3, f41_4, f41_5, f41_6, f41_7, f41_8, f41_9, f41_10, f41_11, f41_12, f41_13, f41_14, f41_15, f41_16, f41_17, f41_18, f41_19, f41_20, f41_21, f41_22]; first | decide | rfl) | decide | rfl) ?_
      refine mB 1 (s2 := (d + 2, 154, 22, [some (.ref 34), some (.int 11), some (.int 1), some (.int 1)], [.int 1], 0, 0, (mSH, (mUp I 34 12 (nI a1)), L))) rfl ?_
      refine mBF (s3 := (d + 2, 154, 25, [some (.ref 34), some (.int 11), some (.int 1), some (.int 1)], [], 0, 0, (mSH, (mUp I 34 12 (nI a1)), L))) rfl (by decide) ?_
      refine mB 5 (s2 := (d + 2, 154, 32, [some (.ref 34), some (.int 11), some (.int 1), some (.int 1)], [.int ((nI a1) + 1), .ref 34], 0, 0, (mSH, (mUp I 34 12 (nI a1)), L))) rfl ?_
      refine mCall (s2 := (d + 1, 151, 0, [some (.ref 34), some (.int ((nI a1) + 1))], [], 0, 0, (mSH, (mUp I 34 12 (nI a1)), L))) rfl ?_
      refine w_byte (k := a1 + 1) (hm) (nI_add a1 1) (by omega) ?_ ?_
      · show mWP mTb_ mFT ro (d + 2, 154, 35, [some (.ref 34), some (.int 11), some (.int 1), some (.int 1)], [.int (-1)], 0, 0, (mSH, (mUp I 34 12 (nI a1)), L)) _
        refine mB 5 (s2 := (d + 2, 154, 42, [some (.ref 34), some (.int 11), some (.int 1), some (.int 1)], [.int 12, .ref 41, .int (-1)], 0, 0, (mSH, (mUp I 34 12 (nI a1)), L))) rfl ?_
        refine mRq (s2 := (d + 2, 154, 43, [some (.ref 34), some (.int 11), some (.int 1), some (.int 1)], [.int (I 41 12), .int (-1)], 0, 0, (mSH, (mUp I 34 12 (nI a1)), L))) rfl (by decide) ?_
        refine mBF (s3 := (d + 2, 154, 50, [some (.ref 34), some (.int 11), some (.int 1), some (.int 1)], [], 0, 0, (mSH, (mUp I 34 12 (nI a1)), L))) rfl (by first | (simp only [f41_0, f41_1, f41_2, f41_3, f41_4, f41_5, f41_6, f41_7, f41_8, f41_9, f41_10, f41_11, f41_12, f41_13, f41_14, f41_15, f41_16, f41_17, f41_18, f41_19, f41_20, f41_21, f41_22]; first | decide | rfl) | decide | rfl) ?_
        refine mB 9 (s2 := (d + 2, 154, 15, [some (.ref 34), some (.int 11), some (.int 2), some (.int 0)], [.int 13, .ref 41], 0, 0, (mSH, (mUp I 34 12 (nI a1)), L))) rfl ?_
        refine mRq (s2 := (d + 2, 154, 16, [some (.ref 34), some (.int 11), some (.int 2), some (.int 0)], [.int (I 41 13)], 0, 0, (mSH, (mUp I 34 12 (nI a1)), L))) rfl (by decide) ?_
        refine mB 1 (s2 := (d + 2, 154, 18, [some (.ref 34), some (.int 11), some (.int 2), some (.int 0)], [.int 32, .int (I 41 13)], 0, 0, (mSH, (mUp I 34 12 (nI a1)), L))) rfl ?_
        refine mBF (s3 := (d + 2, 154, 21, [some (.ref 34), some (.int 11), some (.int 2), some (.int 0)], [], 0, 0, (mSH, (mUp I 34 12 (nI a1)), L))) rfl (by first | (simp only [f41_0, f41_1, f41_2, f41_3, f41_4, f41_5, f41_6, f41_7, f41_8, f41_9, f41_10, f41_11, f41_12, f41_13, f41_14, f41_15, f41_16, f41_17, f41_18, f41_19, f41_20, f41_21, f41_22]; first | decide | rfl) | decide | rfl) ?_
        refine mB 1 (s2 := (d + 2, 154, 22, [some (.ref 34), some (.int 11), some (.int 2), some (.int 0)], [.int 0], 0, 0, (mSH, (mUp I 34 12 (nI a1)), L))) rfl ?_
        refine mBT (s2 := (d + 2, 154, 50, [some (.ref 34), some (.int 11), some (.int 2), some (.int 0)], [], 0, 0, (mSH, (mUp I 34 12 (nI a1)), L))) rfl (by decide) ?_
        refine mB 9 (s2 := (d + 2, 154, 15, [some (.ref 34), some (.int 11), some (.int 3), some (.int 0)], [.int 14, .ref 41], 0, 0, (mSH, (mUp I 34 12 (nI a1)), L))) rfl ?_
        refine mRq (s2 := (d + 2, 154, 16, [some (.ref 34), some (.int 11), some (.int 3), some (.int 0)], [.int (I 41 14)], 0, 0, (mSH, (mUp I 34 12 (nI a1)), L))) rfl (by decide) ?_
        refine mB 1 (s2 := (d + 2, 154, 18, [some (.ref 34), some (.int 11), some (.int 3), some (.int 0)], [.int 32, .int (I 41 14)], 0, 0, (mSH, (mUp I 34 12 (nI a1)), L))) rfl ?_
        refine mBF (s3 := (d + 2, 154, 21, [some (.ref 34), some (.int 11), some (.int 3), some (.int 0)], [], 0, 0, (mSH, (mUp I 34 12 (nI a1)), L))) rfl (by first | (simp only [f41_0, f41_1, f41_2, f41_3, f41_4, f41_5, f41_6, f41_7, f41_8, f41_9, f41_10, f41_11, f41_12, f41_13, f41_14, f41_15, f41_16, f41_17, f41_18, f41_19, f41_20, f41_21, f41_22]; first | decide | rfl) | decide | rfl) ?_
        refine mB 1 (s2 := (d + 2, 154, 22, [some (.ref 34), some (.int 11), some (.int 3), some (.int 0)], [.int 0], 0, 0, (mSH, (mUp I 34 12 (nI a1)), L))) rfl ?_
        refine mBT (s2 := (d + 2, 154, 50, [some (.ref 34), some (.int 11), some (.int 3), some (.int 0)], [], 0, 0, (mSH, (mUp I 34 12 (nI a1)), L))) rfl (by decide) ?_
        refine mB 9 (s2 := (d + 2, 154, 15, [some (.ref 34), some (.int 11), some (.int 4), some (.int 0)], [.int 15, .ref 41], 0, 0, (mSH, (mUp I 34 12 (nI a1)), L))) rfl ?_
        refine mRq (s2 := (d + 2, 154, 16, [some (.ref 34), some (.int 11), some (.int 4), some (.int 0)], [.int (I 41 15)], 0, 0, (mSH, (mUp I 34 12 (nI a1)), L))) rfl (by decide) ?_
        refine mB 1 (s2 := (d + 2, 154, 18, [some (.ref 34), some (.int 11), some (.int 4), some (.int 0)], [.int 32, .int (I 41 15)], 0, 0, (mSH, (mUp I 34 12 (nI a1)), L))) rfl ?_
        refine mBF (s3 := (d + 2, 154, 21, [some (.ref 34), some (.int 11), some (.int 4), some (.int 0)], [], 0, 0, (mSH, (mUp I 34 12 (nI a1)), L))) rfl (by first | (simp only [f41_0, f41_1, f41_2, f41_3, f41_4, f41_5, f41_6, f41_7, f41_8, f41_9, f41_10, f41_11, f41_12, f41_13, f41_14, f41_15, f41_16, f41_17, f41_18, f41_19, f41_20, f41_21, f41_22]; first | decide | rfl) | decide | rfl) ?_
        refine mB 1 (s2 := (d + 2, 154, 22, [some (.ref 34), some (.int 11), some (.int 4), some (.int 0)], [.int 0], 0, 0, (mSH, (mUp I 34 12 (nI a1)), L))) rfl ?_
        refine mBT (s2 := (d + 2, 154, 50, [some (.ref 34), some (.int 11), some (.int 4), some (.int 0)], [], 0, 0, (mSH, (mUp I 34 12 (nI a1)), L))) rfl (by decide) ?_
        refine mB 9 (s2 := (d + 2, 154, 15, [some (.ref 34), some (.int 11), some (.int 5), some (.int 0)], [.int 16, .ref 41], 0, 0, (mSH, (mUp I 34 12 (nI a1)), L))) rfl ?_
        refine mRq (s2 := (d + 2, 154, 16, [some (.ref 34), some (.int 11), some (.int 5), some (.int 0)], [.int (I 41 16)], 0, 0, (mSH, (mUp I 34 12 (nI a1)), L))) rfl (by decide) ?_
        refine mB 1 (s2 := (d + 2, 154, 18, [some (.ref 34), some (.int 11), some (.int 5), some (.int 0)], [.int 32, .int (I 41 16)], 0, 0, (mSH, (mUp I 34 12 (nI a1)), L))) rfl ?_
        refine mBT (s2 := (d + 2, 154, 58, [some (.ref 34), some (.int 11), some (.int 5), some (.int 0)], [], 0, 0, (mSH, (mUp I 34 12 (nI a1)), L))) rfl (by first | (simp only [f41_0, f41_1, f41_2, f41_3, f41_4, f41_5, f41_6, f41_7, f41_8, f41_9, f41_10, f41_11, f41_12, f41_13, f41_14, f41_15, f41_16, f41_17, f41_18, f41_19, f41_20, f41_21, f41_22]; first | decide | rfl) | decide | rfl) ?_
        refine mB 1 (s2 := (d + 2, 154, 59, [some (.ref 34), some (.int 11), some (.int 5), some (.int 0)], [.int 0], 0, 0, (mSH, (mUp I 34 12 (nI a1)), L))) rfl ?_
        refine mBT (s2 := (d + 2, 154, 86, [some (.ref 34), some (.int 11), some (.int 5), some (.int 0)], [], 0, 0, (mSH, (mUp I 34 12 (nI a1)), L))) rfl (by decide) ?_
        refine mB 6 (s2 := (d + 2, 154, 94, [some (.ref 34), some (.int 11), some (.int 5), some (.int 0)], [.int 0, .int (nI a1), .ref 34], 0, 0, (mSH, (mUp I 34 12 (nI a1)), L))) rfl ?_
        refine mBT (s2 := (d + 2, 154, 101, [some (.ref 34), some (.int 11), some (.int 5), some (.int 0)], [.int (nI a1), .ref 34], 0, 0, (mSH, (mUp I 34 12 (nI a1)), L))) rfl (by decide) ?_
        refine mB 4 (s2 := (d + 2, 154, 107, [some (.ref 34), some (.int 11), some (.int 5), some (.int 0)], [.int 0], 0, 0, (mSH, (mUp (mUp I 34 12 (nI a1)) 34 12 ((nI a1) + 0)), L))) rfl ?_
        refine mRt (r := (some (.int 0))) (h := (mSH, (mUp (mUp I 34 12 (nI a1)) 34 12 ((nI a1) + 0)), L)) rfl rfl ?_
        exact mWq q0 hla1 (nI_add a1 0) (by omega)
      · intro l3
        show mWP mTb_ mFT ro (d + 2, 154, 35, [some (.ref 34), some (.int 11), some (.int 1), some (.int 1)], [.int (I 40 (a1 + 1))], 0, 0, (mSH, (mUp I 34 12 (nI a1)), L)) _
        refine mB 5 (s2 := (d + 2, 154, 42, [some (.ref 34), some (.int 11), some (.int 1), some (.int 1)], [.int 12, .ref 41, .int (I 40 (a1 + 1))], 0, 0, (mSH, (mUp I 34 12 (nI a1)), L))) rfl ?_
        refine mRq (s2 := (d + 2, 154, 43, [some (.ref 34), some (.int 11), some (.int 1), some (.int 1)], [.int (I 41 12), .int (I 40 (a1 + 1))], 0, 0, (mSH, (mUp I 34 12 (nI a1)), L))) rfl (by decide) ?_
        refine mBr (s2 := (d + 2, 154, 46, [some (.ref 34), some (.int 11), some (.int 1), some (.int 1)], [], 0, 0, (mSH, (mUp I 34 12 (nI a1)), L))) (s3 := (d + 2, 154, 50, [some (.ref 34), some (.int 11), some (.int 1), some (.int 1)], [], 0, 0, (mSH, (mUp I 34 12 (nI a1)), L))) rfl (fun c2 => ?_) (fun c2 => ?_)
        · refine mB 10 (s2 := (d + 2, 154, 15, [some (.ref 34), some (.int 11), some (.int 2), some (.int 1)], [.int 13, .ref 41], 0, 0, (mSH, (mUp I 34 12 (nI a1)), L))) rfl ?_
          refine mRq (s2 := (d + 2, 154, 16, [some (.ref 34), some (.int 11), some (.int 2), some (.int 1)], [.int (I 41 13)], 0, 0, (mSH, (mUp I 34 12 (nI a1)), L))) rfl (by decide) ?_
          refine mB 1 (s2 := (d + 2, 154, 18, [some (.ref 34), some (.int 11), some (.int 2), some (.int 1)], [.int 32, .int (I 41 13)], 0, 0, (mSH, (mUp I 34 12 (nI a1)), L))) rfl ?_
          refine mBF (s3 := (d + 2, 154, 21, [some (.ref 34), some (.int 11), some (.int 2), some (.int 1)], [], 0, 0, (mSH, (mUp I 34 12 (nI a1)), L))) rfl (by first | (simp only [f41_0, f41_1, f41_2, f41_3, f41_4, f41_5, f41_6, f41_7, f41_8, f41_9, f41_10, f41_11, f41_12, f41_13, f41_14, f41_15, f41_16, f41_17, f41_18, f41_19, f41_20, f41_21, f41_22]; first | decide | rfl) | decide | rfl) ?_
          refine mB 1 (s2 := (d + 2, 154, 22, [some (.ref 34), some (.int 11), some (.int 2), some (.int 1)], [.int 1], 0, 0, (mSH, (mUp I 34 12 (nI a1)), L))) rfl ?_
          refine mBF (s3 := (d + 2, 154, 25, [some (.ref 34), some (.int 11), some (.int 2), some (.int 1)], [], 0, 0, (mSH, (mUp I 34 12 (nI a1)), L))) rfl (by decide) ?_
          refine mB 5 (s2 := (d + 2, 154, 32, [some (.ref 34), some (.int 11), some (.int 2), some (.int 1)], [.int ((nI a1) + 2), .ref 34], 0, 0, (mSH, (mUp I 34 12 (nI a1)), L))) rfl ?_
          refine mCall (s2 := (d + 1, 151, 0, [some (.ref 34), some (.int ((nI a1) + 2))], [], 0, 0, (mSH, (mUp I 34 12 (nI a1)), L))) rfl ?_
          refine w_byte (k := a1 + 2) (hm) (nI_add a1 2) (by omega) ?_ ?_
          · show mWP mTb_ mFT ro (d + 2, 154, 35, [some (.ref 34), some (.int 11), some (.int 2), some (.int 1)], [.int (-1)], 0, 0, (mSH, (mUp I 34 12 (nI a1)), L)) _
            refine mB 5 (s2 := (d + 2, 154, 42, [some (.ref 34), some (.int 11), some (.int 2), some (.int 1)], [.int 13, .ref 41, .int (-1)], 0, 0, (mSH, (mUp I 34 12 (nI a1)), L))) rfl ?_
            refine mRq (s2 := (d + 2, 154, 43, [some (.ref 34), some (.int 11), some (.int 2), some (.int 1)], [.int (I 41 13), .int (-1)], 0, 0, (mSH, (mUp I 34 12 (nI a1)), L))) rfl (by decide) ?_
            refine mBF (s3 := (d + 2, 154, 50, [some (.ref 34), some (.int 11), some (.int 2), some (.int 1)], [], 0, 0, (mSH, (mUp I 34 12 (nI a1)), L))) rfl (by first | (simp only [f41_0, f41_1, f41_2, f41_3, f41_4, f41_5, f41_6, f41_7, f41_8, f41_9, f41_10, f41_11, f41_12, f41_13, f41_14, f41_15, f41_16, f41_17, f41_18, f41_19, f41_20, f41_21, f41_22]; first | decide | rfl) | decide | rfl) ?_
            refine mB 9 (s2 := (d + 2, 154, 15, [some (.ref 34), some (.int 11), some (.int 3), some (.int 0)], [.int 14, .ref 41], 0, 0, (mSH, (mUp I 34 12 (nI a1)), L))) rfl ?_
            refine mRq (s2 := (d + 2, 154, 16, [some (.ref 34), some (.int 11), some (.int 3), some (.int 0)], [.int (I 41 14)], 0, 0, (mSH, (mUp I 34 12 (nI a1)), L))) rfl (by decide) ?_
            refine mB 1 (s2 := (d + 2, 154, 18, [some (.ref 34), some (.int 11), some (.int 3), some (.int 0)], [.int 32, .int (I 41 14)], 0, 0, (mSH, (mUp I 34 12 (nI a1)), L))) rfl ?_
            refine mBF (s3 := (d + 2, 154, 21, [some (.ref 34), some (.int 11), some (.int 3), some (.int 0)], [], 0, 0, (mSH, (mUp I 34 12 (nI a1)), L))) rfl (by first | (simp only [f41_0, f41_1, f41_2, f41_3, f41_4, f41_5, f41_6, f41_7, f41_8, f41_9, f41_10, f41_11, f41_12, f41_13, f41_14, f41_15, f41_16, f41_17, f41_18, f41_19, f41_20, f41_21, f41_22]; first | decide | rfl) | decide | rfl) ?_
            refine mB 1 (s2 := (d + 2, 154, 22, [some (.ref 34), some (.int 11), some (.int 3), some (.int 0)], [.int 0], 0, 0, (mSH, (mUp I 34 12 (nI a1)), L))) rfl ?_
            refine mBT (s2 := (d + 2, 154, 50, [some (.ref 34), some (.int 11), some (.int 3), some (.int 0)], [], 0, 0, (mSH, (mUp I 34 12 (nI a1)), L))) rfl (by decide) ?_
            refine mB 9 (s2 := (d + 2, 154, 15, [some (.ref 34), some (.int 11), some (.int 4), some (.int 0)], [.int 15, .ref 41], 0, 0, (mSH, (mUp I 34 12 (nI a1)), L))) rfl ?_
            refine mRq (s2 := (d + 2, 154, 16, [some (.ref 34), some (.int 11), some (.int 4), some (.int 0)], [.int (I 41 15)], 0, 0, (mSH, (mUp I 34 12 (nI a1)), L))) rfl (by decide) ?_
            refine mB 1 (s2 := (d + 2, 154, 18, [some (.ref 34), some (.int 11), some (.int 4), some (.int 0)], [.int 32, .int (I 41 15)], 0, 0, (mSH, (mUp I 34 12 (nI a1)), L))) rfl ?_
            refine mBF (s3 := (d + 2, 154, 21, [some (.ref 34), some (.int 11), some (.int 4), some (.int 0)], [], 0, 0, (mSH, (mUp I 34 12 (nI a1)), L))) rfl (by first | (simp only [f41_0, f41_1, f41_2, f41_3, f41_4, f41_5, f41_6, f41_7, f41_8, f41_9, f41_10, f41_11, f41_12, f41_13, f41_14, f41_15, f41_16, f41_17, f41_18, f41_19, f41_20, f41_21, f41_22]; first | decide | rfl) | decide | rfl) ?_
            refine mB 1 (s2 := (d + 2, 154, 22, [some (.ref 34), some (.int 11), some (.int 4), some (.int 0)], [.int 0], 0, 0, (mSH, (mUp I 34 12 (nI a1)), L))) rfl ?_
            refine mBT (s2 := (d + 2, 154, 50, [some (.ref 34), some (.int 11), some (.int 4), some (.int 0)], [], 0, 0, (mSH, (mUp I 34 12 (nI a1)), L))) rfl (by decide) ?_
            refine mB 9 (s2 := (d + 2, 154, 15, [some (.ref 34), some (.int 11), some (.int 5), some (.int 0)], [.int 16, .ref 41], 0, 0, (mSH, (mUp I 34 12 (nI a1)), L))) rfl ?_
            refine mRq (s2 := (d + 2, 154, 16, [some (.ref 34), some (.int 11), some (.int 5), some (.int 0)], [.int (I 41 16)], 0, 0, (mSH, (mUp I 34 12 (nI a1)), L))) rfl (by decide) ?_
            refine mB 1 (s2 := (d + 2, 154, 18, [some (.ref 34), some (.int 11), some (.int 5), some (.int 0)], [.int 32, .int (I 41 16)], 0, 0, (mSH, (mUp I 34 12 (nI a1)), L))) rfl ?_
            refine mBT (s2 := (d + 2, 154, 58, [some (.ref 34), some (.int 11), some (.int 5), some (.int 0)], [], 0, 0, (mSH, (mUp I 34 12 (nI a1)), L))) rfl (by first | (simp only [f41_0, f41_1, f41_2, f41_3, f41_4, f41_5, f41_6, f41_7, f41_8, f41_9, f41_10, f41_11, f41_12, f41_13, f41_14, f41_15, f41_16, f41_17, f41_18, f41_19, f41_20, f41_21, f41_22]; first | decide | rfl) | decide | rfl) ?_
            refine mB 1 (s2 := (d + 2, 154, 59, [some (.ref 34), some (.int 11), some (.int 5), some (.int 0)], [.int 0], 0, 0, (mSH, (mUp I 34 12 (nI a1)), L))) rfl ?_
            refine mBT (s2 := (d + 2, 154, 86, [some (.ref 34), some (.int 11), some (.int 5), some (.int 0)], [], 0, 0, (mSH, (mUp I 34 12 (nI a1)), L))) rfl (by decide) ?_
            refine mB 6 (s2 := (d + 2, 154, 94, [some (.ref 34), some (.int 11), some (.int 5), some (.int 0)], [.int 0, .int (nI a1), .ref 34], 0, 0, (mSH, (mUp I 34 12 (nI a1)), L))) rfl ?_
            refine mBT (s2 := (d + 2, 154, 101, [some (.ref 34), some (.int 11), some (.int 5), some (.int 0)], [.int (nI a1), .ref 34], 0, 0, (mSH, (mUp I 34 12 (nI a1)), L))) rfl (by decide) ?_
            refine mB 4 (s2 := (d + 2, 154, 107, [some (.ref 34), some (.int 11), some (.int 5), some (.int 0)], [.int 0], 0, 0, (mSH, (mUp (mUp I 34 12 (nI a1)) 34 12 ((nI a1) + 0)), L))) rfl ?_
            refine mRt (r := (some (.int 0))) (h := (mSH, (mUp (mUp I 34 12 (nI a1)) 34 12 ((nI a1) + 0)), L)) rfl rfl ?_
            exact mWq q0 hla1 (nI_add a1 0) (by omega)
          · intro l4
            show mWP mTb_ mFT ro (d + 2, 154, 35, [some (.ref 34), some (.int 11), some (.int 2), some (.int 1)], [.int (I 40 (a1 + 2))], 0, 0, (mSH, (mUp I 34 12 (nI a1)), L)) _
            refine mB 5 (s2 := (d + 2, 154, 42, [some (.ref 34), some (.int 11), some (.int 2), some (.int 1)], [.int 13, .ref 41, .int (I 40 (a1 + 2))], 0, 0, (mSH, (mUp I 34 12 (nI a1)), L))) rfl ?_
            refine mRq (s2 := (d + 2, 154, 43, [some (.ref 34), some (.int 11), some (.int 2), some (.int 1)], [.int (I 41 13), .int (I 40 (a1 + 2))], 0, 0, (mSH, (mUp I 34 12 (nI a1)), L))) rfl (by decide) ?_
            refine mBr (s2 := (d + 2, 154, 46, [some (.ref 34), some (.int 11), some (.int 2), some (.int 1)], [], 0, 0, (mSH, (mUp I 34 12 (nI a1)), L))) (s3 := (d + 2, 154, 50, [some (.ref 34), some (.int 11), some (.int 2), some (.int 1)], [], 0, 0, (mSH, (mUp I 34 12 (nI a1)), L))) rfl (fun c3 => ?_) (fun c3 => ?_)
            · refine mB 10 (s2 := (d + 2, 154, 15, [some (.ref 34), some (.int 11), some (.int 3), some (.int 1)], [.int 14, .ref 41], 0, 0, (mSH, (mUp I 34 12 (nI a1)), L))) rfl ?_
              refine mRq (s2 := (d + 2, 154, 16, [some (.ref 34), some (.int 11), some (.int 3), some (.int 1)], [.int (I 41 14)], 0, 0, (mSH, (mUp I 34 12 (nI a1)), L))) rfl (by decide) ?_
              refine mB 1 (s2 := (d + 2, 154, 18, [some (.ref 34), some (.int 11), some (.int 3), some (.int 1)], [.int 32, .int (I 41 14)], 0, 0, (mSH, (mUp I 34 12 (nI a1)), L))) rfl ?_
              refine mBF (s3 := (d + 2, 154, 21, [some (.ref 34), some (.int 11), some (.int 3), some (.int 1)], [], 0, 0, (mSH, (mUp I 34 12 (nI a1)), L))) rfl (by first | (simp only [f41_0, f41_1, f41_2, f41_3, f41_4, f41_5, f41_6, f41_7, f41_8, f41_9, f41_10, f41_11, f41_12, f41_13, f41_14, f41_15, f41_16, f41_17, f41_18, f41_19, f41_20, f41_21, f41_22]; first | decide | rfl) | decide | rfl) ?_
              refine mB 1 (s2 := (d + 2, 154, 22, [some (.ref 34), some (.int 11), some (.int 3), some (.int 1)], [.int 1], 0, 0, (mSH, (mUp I 34 12 (nI a1)), L))) rfl ?_
              refine mBF (s3 := (d + 2, 154, 25, [some (.ref 34), some (.int 11), some (.int 3), some (.int 1)], [], 0, 0, (mSH, (mUp I 34 12 (nI a1)), L))) rfl (by decide) ?_
              refine mB 5 (s2 := (d + 2, 154, 32, [some (.ref 34), some (.int 11), some (.int 3), some (.int 1)], [.int ((nI a1) + 3), .ref 34], 0, 0, (mSH, (mUp I 34 12 (nI a1)), L))) rfl ?_
              refine mCall (s2 := (d + 1, 151, 0, [some (.ref 34), some (.int ((nI a1) + 3))], [], 0, 0, (mSH, (mUp I 34 12 (nI a1)), L))) rfl ?_
              refine w_byte (k := a1 + 3) (hm) (nI_add a1 3) (by omega) ?_ ?_
              · show mWP mTb_ mFT ro (d + 2, 154, 35, [some (.ref 34), some (.int 11), some (.int 3), some (.int 1)], [.int (-1)], 0, 0, (mSH, (mUp I 34 12 (nI a1)), L)) _
                refine mB 5 (s2 := (d + 2, 154, 42, [some (.ref 34), some (.int 11), some (.int 3), some (.int 1)], [.int 14, .ref 41, .int (-1)], 0, 0, (mSH, (mUp I 34 12 (nI a1)), L))) rfl ?_
                refine mRq (s2 := (d + 2, 154, 43, [some (.ref 34), some (.int 11), some (.int 3), some (.int 1)], [.int (I 41 14), .int (-1)], 0, 0, (mSH, (mUp I 34 12 (nI a1)), L))) rfl (by decide) ?_
                refine mBF (s3 := (d + 2, 154, 50, [some (.ref 34), some (.int 11), some (.int 3), some (.int 1)], [], 0, 0, (mSH, (mUp I 34 12 (nI a1)), L))) rfl (by first | (simp only [f41_0, f41_1, f41_2, f41_3, f41_4, f41_5, f41_6, f41_7, f41_8, f41_9, f41_10, f41_11, f41_12, f41_13, f41_14, f41_15, f41_16, f41_17, f41_18, f41_19, f41_20, f41_21, f41_22]; first | decide | rfl) | decide | rfl) ?_
                refine mB 9 (s2 := (d + 2, 154, 15, [some (.ref 34), some (.int 11), some (.int 4), some (.int 0)], [.int 15, .ref 41], 0, 0, (mSH, (mUp I 34 12 (nI a1)), L))) rfl ?_
                refine mRq (s2 := (d + 2, 154, 16, [some (.ref 34), some (.int 11), some (.int 4), some (.int 0)], [.int (I 41 15)], 0, 0, (mSH, (mUp I 34 12 (nI a1)), L))) rfl (by decide) ?_
                refine mB 1 (s2 := (d + 2, 154, 18, [some (.ref 34), some (.int 11), some (.int 4), some (.int 0)], [.int 32, .int (I 41 15)], 0, 0, (mSH, (mUp I 34 12 (nI a1)), L))) rfl ?_
                refine mBF (s3 := (d + 2, 154, 21, [some (.ref 34), some (.int 11), some (.int 4), some (.int 0)], [], 0, 0, (mSH, (mUp I 34 12 (nI a1)), L))) rfl (by first | (simp only [f41_0, f41_1, f41_2, f41_3, f41_4, f41_5, f41_6, f41_7, f41_8, f41_9, f41_10, f41_11, f41_12, f41_13, f41_14, f41_15, f41_16, f41_17, f41_18, f41_19, f41_20, f41_21, f41_22]; first | decide | rfl) | decide | rfl) ?_
                refine mB 1 (s2 := (d + 2, 154, 22, [some (.ref 34), some (.int 11), some (.int 4), some (.int 0)], [.int 0], 0, 0, (mSH, (mUp I 34 12 (nI a1)), L))) rfl ?_
                refine mBT (s2 := (d + 2, 154, 50, [some (.ref 34), some (.int 11), some (.int 4), some (.int 0)], [], 0, 0, (mSH, (mUp I 34 12 (nI a1)), L))) rfl (by decide) ?_
                refine mB 9 (s2 := (d + 2, 154, 15, [some (.ref 34), some (.int 11), some (.int 5), some (.int 0)], [.int 16, .ref 41], 0, 0, (mSH, (mUp I 34 12 (nI a1)), L))) rfl ?_
                refine mRq (s2 := (d + 2, 154, 16, [some (.ref 34), some (.int 11), some (.int 5), some (.int 0)], [.int (I 41 16)], 0, 0, (mSH, (mUp I 34 12 (nI a1)), L))) rfl (by decide) ?_
                refine mB 1 (s2 := (d + 2, 154, 18, [some (.ref 34), some (.int 11), some (.int 5), some (.int 0)], [.int 32, .int (I 41 16)], 0, 0, (mSH, (mUp I 34 12 (nI a1)), L))) rfl ?_
                refine mBT (s2 := (d + 2, 154, 58, [some (.ref 34), some (.int 11), some (.int 5), some (.int 0)], [], 0, 0, (mSH, (mUp I 34 12 (nI a1)), L))) rfl (by first | (simp only [f41_0, f41_1, f41_2, f41_3, f41_4, f41_5, f41_6, f41_7, f41_8, f41_9, f41_10, f41_11, f41_12, f41_13, f41_14, f41_15, f41_16, f41_17, f41_18, f41_19, f41_20, f41_21, f41_22]; first | decide | rfl) | decide | rfl) ?_
                refine mB 1 (s2 := (d + 2, 154, 59, [some (.ref 34), some (.int 11), some (.int 5), some (.int 0)], [.int 0], 0, 0, (mSH, (mUp I 34 12 (nI a1)), L))) rfl ?_
                refine mBT (s2 := (d + 2, 154, 86, [some (.ref 34), some (.int 11), some (.int 5), some (.int 0)], [], 0, 0, (mSH, (mUp I 34 12 (nI a1)), L))) rfl (by decide) ?_
                refine mB 6 (s2 := (d + 2, 154, 94, [some (.ref 34), some (.int 11), some (.int 5), some (.int 0)], [.int 0, .int (nI a1), .ref 34], 0, 0, (mSH, (mUp I 34 12 (nI a1)), L))) rfl ?_
                refine mBT (s2 := (d + 2, 154, 101, [some (.ref 34), some (.int 11), some (.int 5), some (.int 0)], [.int (nI a1), .ref 34], 0, 0, (mSH, (mUp I 34 12 (nI a1)), L))) rfl (by decide) ?_
                refine mB 4 (s2 := (d + 2, 154, 107, [some (.ref 34), some (.int 11), some (.int 5), some (.int 0)], [.int 0], 0, 0, (mSH, (mUp (mUp I 34 12 (nI a1)) 34 12 ((nI a1) + 0)), L))) rfl ?_
                refine mRt (r := (some (.int 0))) (h := (mSH, (mUp (mUp I 34 12 (nI a1)) 34 12 ((nI a1) + 0)), L)) rfl rfl ?_
                exact mWq q0 hla1 (nI_add a1 0) (by omega)
              · intro l5
                show mWP mTb_ mFT ro (d + 2, 154, 35, [some (.ref 34), some (.int 11), some (.int 3), some (.int 1)], [.int (I 40 (a1 + 3))], 0, 0, (mSH, (mUp I 34 12 (nI a1)), L)) _
                refine mB 5 (s2 := (d + 2, 154, 42, [some (.ref 34), some (.int 11), some (.int 3), some (.int 1)], [.int 14, .ref 41, .int (I 40 (a1 + 3))], 0, 0, (mSH, (mUp I 34 12 (nI a1)), L))) rfl ?_
                refine mRq (s2 := (d + 2, 154, 43, [some (.ref 34), some (.int 11), some (.int 3), some (.int 1)], [.int (I 41 14), .int (I 40 (a1 + 3))], 0, 0, (mSH, (mUp I 34 12 (nI a1)), L))) rfl (by decide) ?_
                refine mBr (s2 := (d + 2, 154, 46, [some (.ref 34), some (.int 11), some (.int 3), some (.int 1)], [], 0, 0, (mSH, (mUp I 34 12 (nI a1)), L))) (s3 := (d + 2, 154, 50, [some (.ref 34), some (.int 11), some (.int 3), some (.int 1)], [], 0, 0, (mSH, (mUp I 34 12 (nI a1)), L))) rfl (fun c4 => ?_) (fun c4 => ?_)
                · refine mB 10 (s2 := (d + 2, 154, 15, [some (.ref 34), some (.int 11), some (.int 4), some (.int 1)], [.int 15, .ref 41], 0, 0, (mSH, (mUp I 34 12 (nI a1)), L))) rfl ?_
                  refine mRq (s2 := (d + 2, 154, 16, [some (.ref 34), some (.int 11), some (.int 4), some (.int 1)], [.int (I 41 15)], 0, 0, (mSH, (mUp I 34 12 (nI a1)), L))) rfl (by decide) ?_
                  refine mB 1 (s2 := (d + 2, 154, 18, [some (.ref 34), some (.int 11), some (.int 4), some (.int 1)], [.int 32, .int (I 41 15)], 0, 0, (mSH, (mUp I 34 12 (nI a1)), L))) rfl ?_
                  refine mBF (s3 := (d + 2, 154, 21, [some (.ref 34), some (.int 11), some (.int 4), some (.int 1)], [], 0, 0, (mSH, (mUp I 34 12 (nI a1)), L))) rfl (by first | (simp only [f41_0, f41_1, f41_2, f41_3, f41_4, f41_5, f41_6, f41_7, f41_8, f41_9, f41_10, f41_11, f41_12, f41_13, f41_14, f41_15, f41_16, f41_17, f41_18, f41_19, f41_20, f41_21, f41_22]; first | decide | rfl) | decide | rfl) ?_
                  refine mB 1 (s2 := (d + 2, 154, 22, [some (.ref 34), some (.int 11), some (.int 4), some (.int 1)], [.int 1], 0, 0, (mSH, (mUp I 34 12 (nI a1)), L))) rfl ?_
                  refine mBF (s3 := (d + 2, 154, 25, [some (.ref 34), some (.int 11), some (.int 4), some (.int 1)], [], 0, 0, (mSH, (mUp I 34 12 (nI a1)), L))) rfl (by decide) ?_
                  refine mB 5 (s2 := (d + 2, 154, 32, [some (.ref 34), some (.int 11), some (.int 4), some (.int 1)], [.int ((nI a1) + 4), .ref 34], 0, 0, (mSH, (mUp I 34 12 (nI a1)), L))) rfl ?_
                  refine mCall (s2 := (d + 1, 151, 0, [some (.ref 34), some (.int ((nI a1) + 4))], [], 0, 0, (mSH, (mUp I 34 12 (nI a1)), L))) rfl ?_
                  refine w_byte (k := a1 + 4) (hm) (nI_add a1 4) (by omega) ?_ ?_
                  · show mWP mTb_ mFT ro (d + 2, 154, 35, [some (.ref 34), some (.int 11), some (.int 4), some (.int 1)], [.int (-1)], 0, 0, (mSH, (mUp I 34 12 (nI a1)), L)) _
                    refine mB 5 (s2 := (d + 2, 154, 42, [some (.ref 34), some (.int 11), some (.int 4), some (.int 1)], [.int 15, .ref 41, .int (-1)], 0, 0, (mSH, (mUp I 34 12 (nI a1)), L))) rfl ?_
                    refine mRq (s2 := (d + 2, 154, 43, [some (.ref 34), some (.int 11), some (.int 4), some (.int 1)], [.int (I 41 15), .int (-1)], 0, 0, (mSH, (mUp I 34 12 (nI a1)), L))) rfl (by decide) ?_
                    refine mBF (s3 := (d + 2, 154, 50, [some (.ref 34), some (.int 11), some (.int 4), some (.int 1)], [], 0, 0, (mSH, (mUp I 34 12 (nI a1)), L))) rfl (by first | (simp only [f41_0, f41_1, f41_2, f41_3, f41_4, f41_5, f41_6, f41_7, f41_8, f41_9, f41_10, f41_11, f41_12, f41_13, f41_14, f41_15, f41_16, f41_17, f41_18, f41_19, f41_20, f41_21, f41_22]; first | decide | rfl) | decide | rfl) ?_
                    refine mB 9 (s2 := (d + 2, 154, 15, [some (.ref 34), some (.int 11), some (.int 5), some (.int 0)], [.int 16, .ref 41], 0, 0, (mSH, (mUp I 34 12 (nI a1)), L))) rfl ?_
                    refine mRq (s2 := (d + 2, 154, 16, [some (.ref 34), some (.int 11), some (.int 5), some (.int 0)], [.int (I 41 16)], 0, 0, (mSH, (mUp I 34 12 (nI a1)), L))) rfl (by decide) ?_
                    refine mB 1 (s2 := (d + 2, 154, 18, [some (.ref 34), some (.int 11), some (.int 5), some (.int 0)], [.int 32, .int (I 41 16)], 0, 0, (mSH, (mUp I 34 12 (nI a1)), L))) rfl ?_
                    refine mBT (s2 := (d + 2, 154, 58, [some (.ref 34), some (.int 11), some (.int 5), some (.int 0)], [], 0, 0, (mSH, (mUp I 34 12 (nI a1)), L))) rfl (by first | (simp only [f41_0, f41_1, f41_2, f41_3, f41_4, f41_5, f41_6, f41_7, f41_8, f41_9, f41_10, f41_11, f41_12, f41_13, f41_14, f41_15, f41_16, f41_17, f41_18, f41_19, f41_20, f41_21, f41_22]; first | decide | rfl) | decide | rfl) ?_
                    refine mB 1 (s2 := (d + 2, 154, 59, [some (.ref 34), some (.int 11), some (.int 5), some (.int 0)], [.int 0], 0, 0, (mSH, (mUp I 34 12 (nI a1)), L))) rfl ?_
                    refine mBT (s2 := (d + 2, 154, 86, [some (.ref 34), some (.int 11), some (.int 5), some (.int 0)], [], 0, 0, (mSH, (mUp I 34 12 (nI a1)), L))) rfl (by decide) ?_
                    refine mB 6 (s2 := (d + 2, 154, 94, [some (.ref 34), some (.int 11), some (.int 5), some (.int 0)], [.int 0, .int (nI a1), .ref 34], 0, 0, (mSH, (mUp I 34 12 (nI a1)), L))) rfl ?_
                    refine mBT (s2 := (d + 2, 154, 101, [some (.ref 34), some (.int 11), some (.int 5), some (.int 0)], [.int (nI a1), .ref 34], 0, 0, (mSH, (mUp I 34 12 (nI a1)), L))) rfl (by decide) ?_
                    refine mB 4 (s2 := (d + 2, 154, 107, [some (.ref 34), some (.int 11), some (.int 5), some (.int 0)], [.int 0], 0, 0, (mSH, (mUp (mUp I 34 12 (nI a1)) 34 12 ((nI a1) + 0)), L))) rfl ?_
                    refine mRt (r := (some (.int 0))) (h := (mSH, (mUp (mUp I 34 12 (nI a1)) 34 12 ((nI a1) + 0)), L)) rfl rfl ?_
                    exact mWq q0 hla1 (nI_add a1 0) (by omega)
                  · intro l6
                    show mWP mTb_ mFT ro (d + 2, 154, 35, [some (.ref 34), some (.int 11), some (.int 4), some (.int 1)], [.int (I 40 (a1 + 4))], 0, 0, (mSH, (mUp I 34 12 (nI a1)), L)) _
                    refine mB 5 (s2 := (d + 2, 154, 42, [some (.ref 34), some (.int 11), some (.int 4), some (.int 1)], [.int 15, .ref 41, .int (I 40 (a1 + 4))], 0, 0, (mSH, (mUp I 34 12 (nI a1)), L))) rfl ?_
                    refine mRq (s2 := (d + 2, 154, 43, [some (.ref 34), some (.int 11), some (.int 4), some (.int 1)], [.int (I 41 15), .int (I 40 (a1 + 4))], 0, 0, (mSH, (mUp I 34 12 (nI a1)), L))) rfl (by decide) ?_
                    refine mBr (s2 := (d + 2, 154, 46, [some (.ref 34), some (.int 11), some (.int 4), some (.int 1)], [], 0, 0, (mSH, (mUp I 34 12 (nI a1)), L))) (s3 := (d + 2, 154, 50, [some (.ref 34), some (.int 11), some (.int 4), some (.int 1)], [], 0, 0, (mSH, (mUp I 34 12 (nI a1)), L))) rfl (fun c5 => ?_) (fun c5 => ?_)
                    · refine mB 10 (s2 := (d + 2, 154, 15, [some (.ref 34), some (.int 11), some (.int 5), some (.int 1)], [.int 16, .ref 41], 0, 0, (mSH, (mUp I 34 12 (nI a1)), L))) rfl ?_
                      refine mRq (s2 := (d + 2, 154, 16, [some (.ref 34), some (.int 11), some (.int 5), some (.int 1)], [.int (I 41 16)], 0, 0, (mSH, (mUp I 34 12 (nI a1)), L))) rfl (by decide) ?_
                      refine mB 1 (s2 := (d + 2, 154, 18, [some (.ref 34), some (.int 11), some (.int 5), some (.int 1)], [.int 32, .int (I 41 16)], 0, 0, (mSH, (mUp I 34 12 (nI a1)), L))) rfl ?_
                      refine mBT (s2 := (d + 2, 154, 58, [some (.ref 34), some (.int 11), some (.int 5), some (.int 1)], [], 0, 0, (mSH, (mUp I 34 12 (nI a1)), L))) rfl (by first | (simp only [f41_0, f41_1, f41_2, f41_3, f41_4, f41_5, f41_6, f41_7, f41_8, f41_9, f41_10, f41_11, f41_12, f41_13, f41_14, f41_15, f41_16, f41_17, f41_18, f41_19, f41_20, f41_21, f41_22]; first | decide | rfl) | decide | rfl) ?_
                      refine mB 1 (s2 := (d + 2, 154, 59, [some (.ref 34), some (.int 11), some (.int 5), some (.int 1)], [.int 1], 0, 0, (mSH, (mUp I 34 12 (nI a1)), L))) rfl ?_
                      refine mBF (s3 := (d + 2, 154, 62, [some (.ref 34), some (.int 11), some (.int 5), some (.int 1)], [], 0, 0, (mSH, (mUp I 34 12 (nI a1)), L))) rfl (by decide) ?_
                      refine mB 5 (s2 := (d + 2, 154, 69, [some (.ref 34), some (.int 11), some (.int 5), some (.int 1)], [.int ((nI a1) + 5), .ref 34], 0, 0, (mSH, (mUp I 34 12 (nI a1)), L))) rfl ?_
                      refine mCall (s2 := (d + 1, 151, 0, [some (.ref 34), some (.int ((nI a1) + 5))], [], 0, 0, (mSH, (mUp I 34 12 (nI a1)), L))) rfl ?_
                      refine w_byte (k := a1 + 5) (hm) (nI_add a1 5) (by omega) ?_ ?_
                      · show mWP mTb_ mFT ro (d + 2, 154, 72, [some (.ref 34), some (.int 11), some (.int 5), some (.int 1)], [.int (-1)], 0, 0, (mSH, (mUp I 34 12 (nI a1)), L)) _
                        refine mB 2 (s2 := (d + 2, 154, 76, [some (.ref 34), some (.int 11), some (.int 5), some (.int 1)], [.int 122, .int 97, .int (-1)], 0, 0, (mSH, (mUp I 34 12 (nI a1)), L))) rfl ?_
                        refine mCall (s2 := (d + 1, 112, 0, [some (.int (-1)), some (.int 97), some (.int 122)], [], 0, 0, (mSH, (mUp I 34 12 (nI a1)), L))) rfl ?_
                        refine mB 2 (s2 := (d + 1, 112, 2, [some (.int (-1)), some (.int 97), some (.int 122)], [.int 97, .int (-1)], 0, 0, (mSH, (mUp I 34 12 (nI a1)), L))) rfl ?_
                        refine mBT (s2 := (d + 1, 112, 14, [some (.int (-1)), some (.int 97), some (.int 122)], [], 0, 0, (mSH, (mUp I 34 12 (nI a1)), L))) rfl (by decide) ?_
                        refine mB 1 (s2 := (d + 1, 112, 15, [some (.int (-1)), some (.int 97), some (.int 122)], [.int 0], 0, 0, (mSH, (mUp I 34 12 (nI a1)), L))) rfl ?_
                        refine mRt (r := (some (.int 0))) (h := (mSH, (mUp I 34 12 (nI a1)), L)) rfl rfl ?_
                        show mWP mTb_ mFT ro (d + 2, 154, 79, [some (.ref 34), some (.int 11), some (.int 5), some (.int 1)], [.int 0], 0, 0, (mSH, (mUp I 34 12 (nI a1)), L)) _
                        refine mBT (s2 := (d + 2, 154, 82, [some (.ref 34), some (.int 11), some (.int 5), some (.int 1)], [], 0, 0, (mSH, (mUp I 34 12 (nI a1)), L))) rfl (by decide) ?_
                        refine mB 7 (s2 := (d + 2, 154, 94, [some (.ref 34), some (.int 11), some (.int 5), some (.int 1)], [.int 1, .int (nI a1), .ref 34], 0, 0, (mSH, (mUp I 34 12 (nI a1)), L))) rfl ?_
                        refine mBF (s3 := (d + 2, 154, 97, [some (.ref 34), some (.int 11), some (.int 5), some (.int 1)], [.int (nI a1), .ref 34], 0, 0, (mSH, (mUp I 34 12 (nI a1)), L))) rfl (by decide) ?_
                        refine mB 5 (s2 := (d + 2, 154, 107, [some (.ref 34), some (.int 11), some (.int 5), some (.int 1)], [.int 1], 0, 0, (mSH, (mUp (mUp I 34 12 (nI a1)) 34 12 ((nI a1) + 5)), L))) rfl ?_
                        refine mRt (r := (some (.int 1))) (h := (mSH, (mUp (mUp I 34 12 (nI a1)) 34 12 ((nI a1) + 5)), L)) rfl rfl ?_
                        exact mWq q1 hla1 (nI_add a1 5) (by omega)
                      · intro l7
                        show mWP mTb_ mFT ro (d + 2, 154, 72, [some (.ref 34), some (.int 11), some (.int 5), some (.int 1)], [.int (I 40 (a1 + 5))], 0, 0, (mSH, (mUp I 34 12 (nI a1)), L)) _
                        refine mB 2 (s2 := (d + 2, 154, 76, [some (.ref 34), some (.int 11), some (.int 5), some (.int 1)], [.int 122, .int 97, .int (I 40 (a1 + 5))], 0, 0, (mSH, (mUp I 34 12 (nI a1)), L))) rfl ?_
                        refine mCall (s2 := (d + 1, 112, 0, [some (.int (I 40 (a1 + 5))), some (.int 97), some (.int 122)], [], 0, 0, (mSH, (mUp I 34 12 (nI a1)), L))) rfl ?_
                        refine mB 2 (s2 := (d + 1, 112, 2, [some (.int (I 40 (a1 + 5))), some (.int 97), some (.int 122)], [.int 97, .int (I 40 (a1 + 5))], 0, 0, (mSH, (mUp I 34 12 (nI a1)), L))) rfl ?_
                        refine mBr (s2 := (d + 1, 112, 14, [some (.int (I 40 (a1 + 5))), some (.int 97), some (.int 122)], [], 0, 0, (mSH, (mUp I 34 12 (nI a1)), L))) (s3 := (d + 1, 112, 5, [some (.int (I 40 (a1 + 5))), some (.int 97), some (.int 122)], [], 0, 0, (mSH, (mUp I 34 12 (nI a1)), L))) rfl (fun c6 => ?_) (fun c6 => ?_)
                        · refine mB 1 (s2 := (d + 1, 112, 15, [some (.int (I 40 (a1 + 5))), some (.int 97), some (.int 122)], [.int 0], 0, 0, (mSH, (mUp I 34 12 (nI a1)), L))) rfl ?_
                          refine mRt (r := (some (.int 0))) (h := (mSH, (mUp I 34 12 (nI a1)), L)) rfl rfl ?_
                          show mWP mTb_ mFT ro (d + 2, 154, 79, [some (.ref 34), some (.int 11), some (.int 5), some (.int 1)], [.int 0], 0, 0, (mSH, (mUp I 34 12 (nI a1)), L)) _
                          refine mBT (s2 := (d + 2, 154, 82, [some (.ref 34), some (.int 11), some (.int 5), some (.int 1)], [], 0, 0, (mSH, (mUp I 34 12 (nI a1)), L))) rfl (by decide) ?_
                          refine mB 7 (s2 := (d + 2, 154, 94, [some (.ref 34), some (.int 11), some (.int 5), some (.int 1)], [.int 1, .int (nI a1), .ref 34], 0, 0, (mSH, (mUp I 34 12 (nI a1)), L))) rfl ?_
                          refine mBF (s3 := (d + 2, 154, 97, [some (.ref 34), some (.int 11), some (.int 5), some (.int 1)], [.int (nI a1), .ref 34], 0, 0, (mSH, (mUp I 34 12 (nI a1)), L))) rfl (by decide) ?_
                          refine mB 5 (s2 := (d + 2, 154, 107, [some (.ref 34), some (.int 11), some (.int 5), some (.int 1)], [.int 1], 0, 0, (mSH, (mUp (mUp I 34 12 (nI a1)) 34 12 ((nI a1) + 5)), L))) rfl ?_
                          refine mRt (r := (some (.int 1))) (h := (mSH, (mUp (mUp I 34 12 (nI a1)) 34 12 ((nI a1) + 5)), L)) rfl rfl ?_
                          exact mWq q1 hla1 (nI_add a1 5) (by omega)
                        · refine mB 2 (s2 := (d + 1, 112, 7, [some (.int (I 40 (a1 + 5))), some (.int 97), some (.int 122)], [.int 122, .int (I 40 (a1 + 5))], 0, 0, (mSH, (mUp I 34 12 (nI a1)), L))) rfl ?_
                          refine mBr (s2 := (d + 1, 112, 14, [some (.int (I 40 (a1 + 5))), some (.int 97), some (.int 122)], [], 0, 0, (mSH, (mUp I 34 12 (nI a1)), L))) (s3 := (d + 1, 112, 10, [some (.int (I 40 (a1 + 5))), some (.int 97), some (.int 122)], [], 0, 0, (mSH, (mUp I 34 12 (nI a1)), L))) rfl (fun c7 => ?_) (fun c7 => ?_)
                          · refine mB 1 (s2 := (d + 1, 112, 15, [some (.int (I 40 (a1 + 5))), some (.int 97), some (.int 122)], [.int 0], 0, 0, (mSH, (mUp I 34 12 (nI a1)), L))) rfl ?_
                            refine mRt (r := (some (.int 0))) (h := (mSH, (mUp I 34 12 (nI a1)), L)) rfl rfl ?_
                            show mWP mTb_ mFT ro (d + 2, 154, 79, [some (.ref 34), some (.int 11), some (.int 5), some (.int 1)], [.int 0], 0, 0, (mSH, (mUp I 34 12 (nI a1)), L)) _
                            refine mBT (s2 := (d + 2, 154, 82, [some (.ref 34), some (.int 11), some (.int 5), some (.int 1)], [], 0, 0, (mSH, (mUp I 34 12 (nI a1)), L))) rfl (by decide) ?_
                            refine mB 7 (s2 := (d + 2, 154, 94, [some (.ref 34), some (.int 11), some (.int 5), some (.int 1)], [.int 1, .int (nI a1), .ref 34], 0, 0, (mSH, (mUp I 34 12 (nI a1)), L))) rfl ?_
                            refine mBF (s3 := (d + 2, 154, 97, [some (.ref 34), some (.int 11), some (.int 5), some (.int 1)], [.int (nI a1), .ref 34], 0, 0, (mSH, (mUp I 34 12 (nI a1)), L))) rfl (by decide) ?_
                            refine mB 5 (s2 := (d + 2, 154, 107, [some (.ref 34), some (.int 11), some (.int 5), some (.int 1)], [.int 1], 0, 0, (mSH, (mUp (mUp I 34 12 (nI a1)) 34 12 ((nI a1) + 5)), L))) rfl ?_
                            refine mRt (r := (some (.int 1))) (h := (mSH, (mUp (mUp I 34 12 (nI a1)) 34 12 ((nI a1) + 5)), L)) rfl rfl ?_
                            exact mWq q1 hla1 (nI_add a1 5) (by omega)
                          · refine mB 2 (s2 := (d + 1, 112, 15, [some (.int (I 40 (a1 + 5))), some (.int 97), some (.int 122)], [.int 1], 0, 0, (mSH, (mUp I 34 12 (nI a1)), L))) rfl ?_
                            refine mRt (r := (some (.int 1))) (h := (mSH, (mUp I 34 12 (nI a1)), L)) rfl rfl ?_
                            show mWP mTb_ mFT ro (d + 2, 154, 79, [some (.ref 34), some (.int 11), some (.int 5), some (.int 1)], [.int 1], 0, 0, (mSH, (mUp I 34 12 (nI a1)), L)) _
                            refine mBF (s3 := (d + 2, 154, 86, [some (.ref 34), some (.int 11), some (.int 5), some (.int 1)], [], 0, 0, (mSH, (mUp I 34 12 (nI a1)), L))) rfl (by decide) ?_
                            refine mB 6 (s2 := (d + 2, 154, 94, [some (.ref 34), some (.int 11), some (.int 5), some (.int 0)], [.int 0, .int (nI a1), .ref 34], 0, 0, (mSH, (mUp I 34 12 (nI a1)), L))) rfl ?_
                            refine mBT (s2 := (d + 2, 154, 101, [some (.ref 34), some (.int 11), some (.int 5), some (.int 0)], [.int (nI a1), .ref 34], 0, 0, (mSH, (mUp I 34 12 (nI a1)), L))) rfl (by decide) ?_
                            refine mB 4 (s2 := (d + 2, 154, 107, [some (.ref 34), some (.int 11), some (.int 5), some (.int 0)], [.int 0], 0, 0, (mSH, (mUp (mUp I 34 12 (nI a1)) 34 12 ((nI a1) + 0)), L))) rfl ?_
                            refine mRt (r := (some (.int 0))) (h := (mSH, (mUp (mUp I 34 12 (nI a1)) 34 12 ((nI a1) + 0)), L)) rfl rfl ?_
                            exact mWq q0 hla1 (nI_add a1 0) (by omega)
                    · refine mB 9 (s2 := (d + 2, 154, 15, [some (.ref 34), some (.int 11), some (.int 5), some (.int 0)], [.int 16, .ref 41], 0, 0, (mSH, (mUp I 34 12 (nI a1)), L))) rfl ?_
                      refine mRq (s2 := (d + 2, 154, 16, [some (.ref 34), some (.int 11), some (.int 5), some (.int 0)], [.int (I 41 16)], 0, 0, (mSH, (mUp I 34 12 (nI a1)), L))) rfl (by decide) ?_
                      refine mB 1 (s2 := (d + 2, 154, 18, [some (.ref 34), some (.int 11), some (.int 5), some (.int 0)], [.int 32, .int (I 41 16)], 0, 0, (mSH, (mUp I 34 12 (nI a1)), L))) rfl ?_
                      refine mBT (s2 := (d + 2, 154, 58, [some (.ref 34), some (.int 11), some (.int 5), some (.int 0)], [], 0, 0, (mSH, (mUp I 34 12 (nI a1)), L))) rfl (by first | (simp only [f41_0, f41_1, f41_2, f41_3, f41_4, f41_5, f41_6, f41_7, f41_8, f41_9, f41_10, f41_11, f41_12, f41_13, f41_14, f41_15, f41_16, f41_17, f41_18, f41_19, f41_20, f41_21, f41_22]; first | decide | rfl) | decide | rfl) ?_
                      refine mB 1 (s2 := (d + 2, 154, 59, [some (.ref 34), some (.int 11), some (.int 5), some (.int 0)], [.int 0], 0, 0, (mSH, (mUp I 34 12 (nI a1)), L))) rfl ?_
                      refine mBT (s2 := (d + 2, 154, 86, [some (.ref 34), some (.int 11), some (.int 5), some (.int 0)], [], 0, 0, (mSH, (mUp I 34 12 (nI a1)), L))) rfl (by decide) ?_
                      refine mB 6 (s2 := (d + 2, 154, 94, [some (.ref 34), some (.int 11), some (.int 5), some (.int 0)], [.int 0, .int (nI a1), .ref 34], 0, 0, (mSH, (mUp I 34 12 (nI a1)), L))) rfl ?_
                      refine mBT (s2 := (d + 2, 154, 101, [some (.ref 34), some (.int 11), some (.int 5), some (.int 0)], [.int (nI a1), .ref 34], 0, 0, (mSH, (mUp I 34 12 (nI a1)), L))) rfl (by decide) ?_
                      refine mB 4 (s2 := (d + 2, 154, 107, [some (.ref 34), some (.int 11), some (.int 5), some (.int 0)], [.int 0], 0, 0, (mSH, (mUp (mUp I 34 12 (nI a1)) 34 12 ((nI a1) + 0)), L))) rfl ?_
                      refine mRt (r := (some (.int 0))) (h := (mSH, (mUp (mUp I 34 12 (nI a1)) 34 12 ((nI a1) + 0)), L)) rfl rfl ?_
                      exact mWq q0 hla1 (nI_add a1 0) (by omega)
                · refine mB 9 (s2 := (d + 2, 154, 15, [some (.ref 34), some (.int 11), some (.int 4), some (.int 0)], [.int 15, .ref 41], 0, 0, (mSH, (mUp I 34 12 (nI a1)), L))) rfl ?_
                  refine mRq (s2 := (d + 2, 154, 16, [some (.ref 34), some (.int 11), some (.int 4), some (.int 0)], [.int (I 41 15)], 0, 0, (mSH, (mUp I 34 12 (nI a1)), L))) rfl (by decide) ?_
                  refine mB 1 (s2 := (d + 2, 154, 18, [some (.ref 34), some (.int 11), some (.int 4), some (.int 0)], [.int 32, .int (I 41 15)], 0, 0, (mSH, (mUp I 34 12 (nI a1)), L))) rfl ?_
                  refine mBF (s3 := (d + 2, 154, 21, [some (.ref 34), some (.int 11), some (.int 4), some (.int 0)], [], 0, 0, (mSH, (mUp I 34 12 (nI a1)), L))) rfl (by first | (simp only [f41_0, f41_1, f41_2, f41_3, f41_4, f41_5, f41_6, f41_7, f41_8, f41_9, f41_10, f41_11, f41_12, f41_13, f41_14, f41_15, f41_16, f41_17, f41_18, f41_19, f41_20, f41_21, f41_22]; first | decide | rfl) | decide | rfl) ?_
                  refine mB 1 (s2 := (d + 2, 154, 22, [some (.ref 34), some (.int 11), some (.int 4), some (.int 0)], [.int 0], 0, 0, (mSH, (mUp I 34 12 (nI a1)), L))) rfl ?_
                  refine mBT (s2 := (d + 2, 154, 50, [some (.ref 34), some (.int 11), some (.int 4), some (.int 0)], [], 0, 0, (mSH, (mUp I 34 12 (nI a1)), L))) rfl (by decide) ?_
                  refine mB 9 (s2 := (d + 2, 154, 15, [some (.ref 34), some (.int 11), some (.int 5), some (.int 0)], [.int 16, .ref 41], 0, 0, (mSH, (mUp I 34 12 (nI a1)), L))) rfl ?_
                  refine mRq (s2 := (d + 2, 154, 16, [some (.ref 34), some (.int 11), some (.int 5), some (.int 0)], [.int (I 41 16)], 0, 0, (mSH, (mUp I 34 12 (nI a1)), L))) rfl (by decide) ?_
                  refine mB 1 (s2 := (d + 2, 154, 18, [some (.ref 34), some (.int 11), some (.int 5), some (.int 0)], [.int 32, .int (I 41 16)], 0, 0, (mSH, (mUp I 34 12 (nI a1)), L))) rfl ?_
                  refine mBT (s2 := (d + 2, 154, 58, [some (.ref 34), some (.int 11), some (.int 5), some (.int 0)], [], 0, 0, (mSH, (mUp I 34 12 (nI a1)), L))) rfl (by first | (simp only [f41_0, f41_1, f41_2, f41_3, f41_4, f41_5, f41_6, f41_7, f41_8, f41_9, f41_10, f41_11, f41_12, f41_13, f41_14, f41_15, f41_16, f41_17, f41_18, f41_19, f41_20, f41_21, f41_22]; first | decide | rfl) | decide | rfl) ?_
                  refine mB 1 (s2 := (d + 2, 154, 59, [some (.ref 34), some (.int 11), some (.int 5), some (.int 0)], [.int 0], 0, 0, (mSH, (mUp I 34 12 (nI a1)), L))) rfl ?_
                  refine mBT (s2 := (d + 2, 154, 86, [some (.ref 34), some (.int 11), some (.int 5), some (.int 0)], [], 0, 0, (mSH, (mUp I 34 12 (nI a1)), L))) rfl (by decide) ?_
                  refine mB 6 (s2 := (d + 2, 154, 94, [some (.ref 34), some (.int 11), some (.int 5), some (.int 0)], [.int 0, .int (nI a1), .ref 34], 0, 0, (mSH, (mUp I 34 12 (nI a1)), L))) rfl ?_
                  refine mBT (s2 := (d + 2, 154, 101, [some (.ref 34), some (.int 11), some (.int 5), some (.int 0)], [.int (nI a1), .ref 34], 0, 0, (mSH, (mUp I 34 12 (nI a1)), L))) rfl (by decide) ?_
                  refine mB 4 (s2 := (d + 2, 154, 107, [some (.ref 34), some (.int 11), some (.int 5), some (.int 0)], [.int 0], 0, 0, (mSH, (mUp (mUp I 34 12 (nI a1)) 34 12 ((nI a1) + 0)), L))) rfl ?_
                  refine mRt (r := (some (.int 0))) (h := (mSH, (mUp (mUp I 34 12 (nI a1)) 34 12 ((nI a1) + 0)), L)) rfl rfl ?_
                  exact mWq q0 hla1 (nI_add a1 0) (by omega)
            · refine mB 9 (s2 := (d + 2, 154, 15, [some (.ref 34), some (.int 11), some (.int 3), some (.int 0)], [.int 14, .ref 41], 0, 0, (mSH, (mUp I 34 12 (nI a1)), L))) rfl ?_
              refine mRq (s2 := (d + 2, 154, 16, [some (.ref 34), some (.int 11), some (.int 3), some (.int 0)], [.int (I 41 14)], 0, 0, (mSH, (mUp I 34 12 (nI a1)), L))) rfl (by decide) ?_
              refine mB 1 (s2 := (d + 2, 154, 18, [some (.ref 34), some (.int 11), some (.int 3), some (.int 0)], [.int 32, .int (I 41 14)], 0, 0, (mSH, (mUp I 34 12 (nI a1)), L))) rfl ?_
              refine mBF (s3 := (d + 2, 154, 21, [some (.ref 34), some (.int 11), some (.int 3), some (.int 0)], [], 0, 0, (mSH, (mUp I 34 12 (nI a1)), L))) rfl (by first | (simp only [f41_0, f41_1, f41_2, f41_3, f41_4, f41_5, f41_6, f41_7, f41_8, f41_9, f41_10, f41_11, f41_12, f41_13, f41_14, f41_15, f41_16, f41_17, f41_18, f41_19, f41_20, f41_21, f41_22]; first | decide | rfl) | decide | rfl) ?_
              refine mB 1 (s2 := (d + 2, 154, 22, [some (.ref 34), some (.int 11), some (.int 3), some (.int 0)], [.int 0], 0, 0, (mSH, (mUp I 34 12 (nI a1)), L))) rfl ?_
              refine mBT (s2 := (d + 2, 154, 50, [some (.ref 34), some (.int 11), some (.int 3), some (.int 0)], [], 0, 0, (mSH, (mUp I 34 12 (nI a1)), L))) rfl (by decide) ?_
              refine mB 9 (s2 := (d + 2, 154, 15, [some (.ref 34), some (.int 11), some (.int 4), some (.int 0)], [.int 15, .ref 41], 0, 0, (mSH, (mUp I 34 12 (nI a1)), L))) rfl ?_
              refine mRq (s2 := (d + 2, 154, 16, [some (.ref 34), some (.int 11), some (.int 4), some (.int 0)], [.int (I 41 15)], 0, 0, (mSH, (mUp I 34 12 (nI a1)), L))) rfl (by decide) ?_
              refine mB 1 (s2 := (d + 2, 154, 18, [some (.ref 34), some (.int 11), some (.int 4), some (.int 0)], [.int 32, .int (I 41 15)], 0, 0, (mSH, (mUp I 34 12 (nI a1)), L))) rfl ?_
              refine mBF (s3 := (d + 2, 154, 21, [some (.ref 34), some (.int 11), some (.int 4), some (.int 0)], [], 0, 0, (mSH, (mUp I 34 12 (nI a1)), L))) rfl (by first | (simp only [f41_0, f41_1, f41_2, f41_3, f41_4, f41_5, f41_6, f41_7, f41_8, f41_9, f41_10, f41_11, f41_12, f41_13, f41_14, f41_15, f41_16, f41_17, f41_18, f41_19, f41_20, f41_21, f41_22]; first | decide | rfl) | decide | rfl) ?_
              refine mB 1 (s2 := (d + 2, 154, 22, [some (.ref 34), some (.int 11), some (.int 4), some (.int 0)], [.int 0], 0, 0, (mSH, (mUp I 34 12 (nI a1)), L))) rfl ?_
              refine mBT (s2 := (d + 2, 154, 50, [some (.ref 34), some (.int 11), some (.int 4), some (.int 0)], [], 0, 0, (mSH, (mUp I 34 12 (nI a1)), L))) rfl (by decide) ?_
              refine mB 9 (s2 := (d + 2, 154, 15, [some (.ref 34), some (.int 11), some (.int 5), some (.int 0)], [.int 16, .ref 41], 0, 0, (mSH, (mUp I 34 12 (nI a1)), L))) rfl ?_
              refine mRq (s2 := (d + 2, 154, 16, [some (.ref 34), some (.int 11), some (.int 5), some (.int 0)], [.int (I 41 16)], 0, 0, (mSH, (mUp I 34 12 (nI a1)), L))) rfl (by decide) ?_
              refine mB 1 (s2 := (d + 2, 154, 18, [some (.ref 34), some (.int 11), some (.int 5), some (.int 0)], [.int 32, .int (I 41 16)], 0, 0, (mSH, (mUp I 34 12 (nI a1)), L))) rfl ?_
              refine mBT (s2 := (d + 2, 154, 58, [some (.ref 34), some (.int 11), some (.int 5), some (.int 0)], [], 0, 0, (mSH, (mUp I 34 12 (nI a1)), L))) rfl (by first | (simp only [f41_0, f41_1, f41_2, f41_3, f41_4, f41_5, f41_6, f41_7, f41_8, f41_9, f41_10, f41_11, f41_12, f41_13, f41_14, f41_15, f41_16, f41_17, f41_18, f41_19, f41_20, f41_21, f41_22]; first | decide | rfl) | decide | rfl) ?_
              refine mB 1 (s2 := (d + 2, 154, 59, [some (.ref 34), some (.int 11), some (.int 5), some (.int 0)], [.int 0], 0, 0, (mSH, (mUp I 34 12 (nI a1)), L))) rfl ?_
              refine mBT (s2 := (d + 2, 154, 86, [some (.ref 34), some (.int 11), some (.int 5), some (.int 0)], [], 0, 0, (mSH, (mUp I 34 12 (nI a1)), L))) rfl (by decide) ?_
              refine mB 6 (s2 := (d + 2, 154, 94, [some (.ref 34), some (.int 11), some (.int 5), some (.int 0)], [.int 0, .int (nI a1), .ref 34], 0, 0, (mSH, (mUp I 34 12 (nI a1)), L))) rfl ?_
              refine mBT (s2 := (d + 2, 154, 101, [some (.ref 34), some (.int 11), some (.int 5), some (.int 0)], [.int (nI a1), .ref 34], 0, 0, (mSH, (mUp I 34 12 (nI a1)), L))) rfl (by decide) ?_
              refine mB 4 (s2 := (d + 2, 154, 107, [some (.ref 34), some (.int 11), some (.int 5), some (.int 0)], [.int 0], 0, 0, (mSH, (mUp (mUp I 34 12 (nI a1)) 34 12 ((nI a1) + 0)), L))) rfl ?_
              refine mRt (r := (some (.int 0))) (h := (mSH, (mUp (mUp I 34 12 (nI a1)) 34 12 ((nI a1) + 0)), L)) rfl rfl ?_
              exact mWq q0 hla1 (nI_add a1 0) (by omega)
        · refine mB 9 (s2 := (d + 2, 154, 15, [some (.ref 34), some (.int 11), some (.int 2), some (.int 0)], [.int 13, .ref 41], 0, 0, (mSH, (mUp I 34 12 (nI a1)), L))) rfl ?_
          refine mRq (s2 := (d + 2, 154, 16, [some (.ref 34), some (.int 11), some (.int 2), some (.int 0)], [.int (I 41 13)], 0, 0, (mSH, (mUp I 34 12 (nI a1)), L))) rfl (by decide) ?_
          refine mB 1 (s2 := (d + 2, 154, 18, [some (.ref 34), some (.int 11), some (.int 2), some (.int 0)], [.int 32, .int (I 41 13)], 0, 0, (mSH, (mUp I 34 12 (nI a1)), L))) rfl ?_
          refine mBF (s3 := (d + 2, 154, 21, [some (.ref 34), some (.int 11), some (.int 2), some (.int 0)], [], 0, 0, (mSH, (mUp I 34 12 (nI a1)), L))) rfl (by first | (simp only [f41_0, f41_1, f41_2, f41_3, f41_4, f41_5, f41_6, f41_7, f41_8, f41_9, f41_10, f41_11, f41_12, f41_13, f41_14, f41_15, f41_16, f41_17, f41_18, f41_19, f41_20, f41_21, f41_22]; first | decide | rfl) | decide | rfl) ?_
          refine mB 1 (s2 := (d + 2, 154, 22, [some (.ref 34), some (.int 11), some (.int 2), some (.int 0)], [.int 0], 0, 0, (mSH, (mUp I 34 12 (nI a1)), L))) rfl ?_
          refine mBT (s2 := (d + 2, 154, 50, [some (.ref 34), some (.int 11), some (.int 2), some (.int 0)], [], 0, 0, (mSH, (mUp I 34 12 (nI a1)), L))) rfl (by decide) ?_
          refine mB 9 (s2 := (d + 2, 154, 15, [some (.ref 34), some (.int 11), some (.int 3), some (.int 0)], [.int 14, .ref 41], 0, 0, (mSH, (mUp I 34 12 (nI a1)), L))) rfl ?_
          refine mRq (s2 := (d + 2, 154, 16, [some (.ref 34), some (.int 11), some (.int 3), some (.int 0)], [.int (I 41 14)], 0, 0, (mSH, (mUp I 34 12 (nI a1)), L))) rfl (by decide) ?_
          refine mB 1 (s2 := (d + 2, 154, 18, [some (.ref 34), some (.int 11), some (.int 3), some (.int 0)], [.int 32, .int (I 41 14)], 0, 0, (mSH, (mUp I 34 12 (nI a1)), L))) rfl ?_
          refine mBF (s3 := (d + 2, 154, 21, [some (.ref 34), some (.int 11), some (.int 3), some (.int 0)], [], 0, 0, (mSH, (mUp I 34 12 (nI a1)), L))) rfl (by first | (simp only [f41_0, f41_1, f41_2, f41_3, f41_4, f41_5, f41_6, f41_7, f41_8, f41_9, f41_10, f41_11, f41_12, f41_13, f41_14, f41_15, f41_16, f41_17, f41_18, f41_19, f41_20, f41_21, f41_22]; first | decide | rfl) | decide | rfl) ?_
          refine mB 1 (s2 := (d + 2, 154, 22, [some (.ref 34), some (.int 11), some (.int 3), some (.int 0)], [.int 0], 0, 0, (mSH, (mUp I 34 12 (nI a1)), L))) rfl ?_
          refine mBT (s2 := (d + 2, 154, 50, [some (.ref 34), some (.int 11), some (.int 3), some (.int 0)], [], 0, 0, (mSH, (mUp I 34 12 (nI a1)), L))) rfl (by decide) ?_
          refine mB 9 (s2 := (d + 2, 154, 15, [some (.ref 34), some (.int 11), some (.int 4), some (.int 0)], [.int 15, .ref 41], 0, 0, (mSH, (mUp I 34 12 (nI a1)), L))) rfl ?_
          refine mRq (s2 := (d + 2, 154, 16, [some (.ref 34), some (.int 11), some (.int 4), some (.int 0)], [.int (I 41 15)], 0, 0, (mSH, (mUp I 34 12 (nI a1)), L))) rfl (by decide) ?_
          refine mB 1 (s2 := (d + 2, 154, 18, [some (.ref 34), some (.int 11), some (.int 4), some (.int 0)], [.int 32, .int (I 41 15)], 0, 0, (mSH, (mUp I 34 12 (nI a1)), L))) rfl ?_
          refine mBF (s3 := (d + 2, 154, 21, [some (.ref 34), some (.int 11), some (.int 4), some (.int 0)], [], 0, 0, (mSH, (mUp I 34 12 (nI a1)), L))) rfl (by first | (simp only [f41_0, f41_1, f41_2, f41_3, f41_4, f41_5, f41_6, f41_7, f41_8, f41_9, f41_10, f41_11, f41_12, f41_13, f41_14, f41_15, f41_16, f41_17, f41_18, f41_19, f41_20, f41_21, f41_22]; first | decide | rfl) | decide | rfl) ?_
          refine mB 1 (s2 := (d + 2, 154, 22, [some (.ref 34), some (.int 11), some (.int 4), some (.int 0)], [.int 0], 0, 0, (mSH, (mUp I 34 12 (nI a1)), L))) rfl ?_
          refine mBT (s2 := (d + 2, 154, 50, [some (.ref 34), some (.int 11), some (.int 4), some (.int 0)], [], 0, 0, (mSH, (mUp I 34 12 (nI a1)), L))) rfl (by decide) ?_
          refine mB 9 (s2 := (d + 2, 154, 15, [some (.ref 34), some (.int 11), some (.int 5), some (.int 0)], [.int 16, .ref 41], 0, 0, (mSH, (mUp I 34 12 (nI a1)), L))) rfl ?_
          refine mRq (s2 := (d + 2, 154, 16, [some (.ref 34), some (.int 11), some (.int 5), some (.int 0)], [.int (I 41 16)], 0, 0, (mSH, (mUp I 34 12 (nI a1)), L))) rfl (by decide) ?_
          refine mB 1 (s2 := (d + 2, 154, 18, [some (.ref 34), some (.int 11), some (.int 5), some (.int 0)], [.int 32, .int (I 41 16)], 0, 0, (mSH, (mUp I 34 12 (nI a1)), L))) rfl ?_
          refine mBT (s2 := (d + 2, 154, 58, [some (.ref 34), some (.int 11), some (.int 5), some (.int 0)], [], 0, 0, (mSH, (mUp I 34 12 (nI a1)), L))) rfl (by first | (simp only [f41_0, f41_1, f41_2, f41_3, f41_4, f41_5, f41_6, f41_7, f41_8, f41_9, f41_10, f41_11, f41_12, f41_13, f41_14, f41_15, f41_16, f41_17, f41_18, f41_19, f41_20, f41_21, f41_22]; first | decide | rfl) | decide | rfl) ?_
          refine mB 1 (s2 := (d + 2, 154, 59, [some (.ref 34), some (.int 11), some (.int 5), some (.int 0)], [.int 0], 0, 0, (mSH, (mUp I 34 12 (nI a1)), L))) rfl ?_
          refine mBT (s2 := (d + 2, 154, 86, [some (.ref 34), some (.int 11), some (.int 5), some (.int 0)], [], 0, 0, (mSH, (mUp I 34 12 (nI a1)), L))) rfl (by decide) ?_
          refine mB 6 (s2 := (d + 2, 154, 94, [some (.ref 34), some (.int 11), some (.int 5), some (.int 0)], [.int 0, .int (nI a1), .ref 34], 0, 0, (mSH, (mUp I 34 12 (nI a1)), L))) rfl ?_
          refine mBT (s2 := (d + 2, 154, 101, [some (.ref 34), some (.int 11), some (.int 5), some (.int 0)], [.int (nI a1), .ref 34], 0, 0, (mSH, (mUp I 34 12 (nI a1)), L))) rfl (by decide) ?_
          refine mB 4 (s2 := (d + 2, 154, 107, [some (.ref 34), some (.int 11), some (.int 5), some (.int 0)], [.int 0], 0, 0, (mSH, (mUp (mUp I 34 12 (nI a1)) 34 12 ((nI a1) + 0)), L))) rfl ?_
          refine mRt (r := (some (.int 0))) (h := (mSH, (mUp (mUp I 34 12 (nI a1)) 34 12 ((nI a1) + 0)), L)) rfl rfl ?_
          exact mWq q0 hla1 (nI_add a1 0) (by omega)
    · refine mB 9 (s2 := (d + 2, 154, 15, [some (.ref 34), some (.int 11), some (.int 1), some (.int 0)], [.int 12, .ref 41], 0, 0, (mSH, (mUp I 34 12 (nI a1)), L))) rfl ?_
      refine mRq (s2 := (d + 2, 154, 16, [some (.ref 34), some (.int 11), some (.int 1), some (.int 0)], [.int (I 41 12)], 0, 0, (mSH, (mUp I 34 12 (nI a1)), L))) rfl (by decide) ?_
      refine mB 1 (s2 := (d + 2, 154, 18, [some (.ref 34), some (.int 11), some (.int 1), some (.int 0)], [.int 32, .int (I 41 12)], 0, 0, (mSH, (mUp I 34 12 (nI a1)), L))) rfl ?_
      refine mBF (s3 := (d + 2, 154, 21, [some (.ref 34), some (.int 11), some (.int 1), some (.int 0)], [], 0, 0, (mSH, (mUp I 34 12 (nI a1)), L))) rfl (by first | (simp only [f41_0, f41_1, f41_2, f41_3, f41_4, f41_5, f41_6, f41_7, f41_8, f41_9, f41_10, f41_11, f41_12, f41_13, f41_14, f41_15, f41_16, f41_17, f41_18, f41_19, f41_20, f41_21, f41_22]; first | decide | rfl) | decide | rfl) ?_
      refine mB 1 (s2 := (d + 2, 154, 22, [some (.ref 34), some (.int 11), some (.int 1), some (.int 0)], [.int 0], 0, 0, (mSH, (mUp I 34 12 (nI a1)), L))) rfl ?_
      refine mBT (s2 := (d + 2, 154, 50, [some (.ref 34), some (.int 11), some (.int 1), some (.int 0)], [], 0, 0, (mSH, (mUp I 34 12 (nI a1)), L))) rfl (by decide) ?_
      refine mB 9 (s2 := (d + 2, 154, 15, [some (.ref 34), some (.int 11), some (.int 2), some (.int 0)], [.int 13, .ref 41], 0, 0, (mSH, (mUp I 34 12 (nI a1)), L))) rfl ?_
      refine mRq (s2 := (d + 2, 154, 16, [some (.ref 34), some (.int 11), some (.int 2), some (.int 0)], [.int (I 41 13)], 0, 0, (mSH, (mUp I 34 12 (nI a1)), L))) rfl (by decide) ?_
      refine mB 1 (s2 := (d + 2, 154, 18, [some (.ref 34), some (.int 11), some (.int 2), some (.int 0)], [.int 32, .int (I 41 13)], 0, 0, (mSH, (mUp I 34 12 (nI a1)), L))) rfl ?_
      refine mBF (s3 := (d + 2, 154, 21, [some (.ref 34), some (.int 11), some (.int 2), some (.int 0)], [], 0, 0, (mSH, (mUp I 34 12 (nI a1)), L))) rfl (by first | (simp only [f41_0, f41_1, f41_2, f41_3, f41_4, f41_5, f41_6, f41_7, f41_8, f41_9, f41_10, f41_11, f41_12, f41_13, f41_14, f41_15, f41_16, f41_17, f41_18, f41_19, f41_20, f41_21, f41_22]; first | decide | rfl) | decide | rfl) ?_
      refine mB 1 (s2 := (d + 2, 154, 22, [some (.ref 34), some (.int 11), some (.int 2), some (.int 0)], [.int 0], 0, 0, (mSH, (mUp I 34 12 (nI a1)), L))) rfl ?_
      refine mBT (s2 := (d + 2, 154, 50, [some (.ref 34), some (.int 11), some (.int 2), some (.int 0)], [], 0, 0, (mSH, (mUp I 34 12 (nI a1)), L))) rfl (by decide) ?_
      refine mB 9 (s2 := (d + 2, 154, 15, [some (.ref 34), some (.int 11), some (.int 3), some (.int 0)], [.int 14, .ref 41], 0, 0, (mSH, (mUp I 34 12 (nI a1)), L))) rfl ?_
      refine mRq (s2 := (d + 2, 154, 16, [some (.ref 34), some (.int 11), some (.int 3), some (.int 0)], [.int (I 41 14)], 0, 0, (mSH, (mUp I 34 12 (nI a1)), L))) rfl (by decide) ?_
      refine mB 1 (s2 := (d + 2, 154, 18, [some (.ref 34), some (.int 11), some (.int 3), some (.int 0)], [.int 32, .int (I 41 14)], 0, 0, (mSH, (mUp I 34 12 (nI a1)), L))) rfl ?_
      refine mBF (s3 := (d + 2, 154, 21, [some (.ref 34), some (.int 11), some (.int 3), some (.int 0)], [], 0, 0, (mSH, (mUp I 34 12 (nI a1)), L))) rfl (by first | (simp only [f41_0, f41_1, f41_2, f41_3, f41_4, f41_5, f41_6, f41_7, f41_8, f41_9, f41_10, f41_11, f41_12, f41_13, f41_14, f41_15, f41_16, f41_17, f41_18, f41_19, f41_20, f41_21, f41_22]; first | decide | rfl) | decide | rfl) ?_
      refine mB 1 (s2 := (d + 2, 154, 22, [some (.ref 34), some (.int 11), some (.int 3), some (.int 0)], [.int 0], 0, 0, (mSH, (mUp I 34 12 (nI a1)), L))) rfl ?_
      refine mBT (s2 := (d + 2, 154, 50, [some (.ref 34), some (.int 11), some (.int 3), some (.int 0)], [], 0, 0, (mSH, (mUp I 34 12 (nI a1)), L))) rfl (by decide) ?_
      refine mB 9 (s2 := (d + 2, 154, 15, [some (.ref 34), some (.int 11), some (.int 4), some (.int 0)], [.int 15, .ref 41], 0, 0, (mSH, (mUp I 34 12 (nI a1)), L))) rfl ?_
      refine mRq (s2 := (d + 2, 154, 16, [some (.ref 34), some (.int 11), some (.int 4), some (.int 0)], [.int (I 41 15)], 0, 0, (mSH, (mUp I 34 12 (nI a1)), L))) rfl (by decide) ?_
      refine mB 1 (s2 := (d + 2, 154, 18, [some (.ref 34), some (.int 11), some (.int 4), some (.int 0)], [.int 32, .int (I 41 15)], 0, 0, (mSH, (mUp I 34 12 (nI a1)), L))) rfl ?_
      refine mBF (s3 := (d + 2, 154, 21, [some (.ref 34), some (.int 11), some (.int 4), some (.int 0)], [], 0, 0, (mSH, (mUp I 34 12 (nI a1)), L))) rfl (by first | (simp only [f41_0, f41_1, f41_2, f41_3, f41_4, f41_5, f41_6, f41_7, f41_8, f41_9, f41_10, f41_11, f41_12, f41_13, f41_14, f41_15, f41_16, f41_17, f41_18, f41_19, f41_20, f41_21, f41_22]; first | decide | rfl) | decide | rfl) ?_
      refine mB 1 (s2 := (d + 2, 154, 22, [some (.ref 34), some (.int 11), some (.int 4), some (.int 0)], [.int 0], 0, 0, (mSH, (mUp I 34 12 (nI a1)), L))) rfl ?_
      refine mBT (s2 := (d + 2, 154, 50, [some (.ref 34), some (.int 11), some (.int 4), some (.int 0)], [], 0, 0, (mSH, (mUp I 34 12 (nI a1)), L))) rfl (by decide) ?_
      refine mB 9 (s2 := (d + 2, 154, 15, [some (.ref 34), some (.int 11), some (.int 5), some (.int 0)], [.int 16, .ref 41], 0, 0, (mSH, (mUp I 34 12 (nI a1)), L))) rfl ?_
      refine mRq (s2 := (d + 2, 154, 16, [some (.ref 34), some (.int 11), some (.int 5), some (.int 0)], [.int (I 41 16)], 0, 0, (mSH, (mUp I 34 12 (nI a1)), L))) rfl (by decide) ?_
      refine mB 1 (s2 := (d + 2, 154, 18, [some (.ref 34), some (.int 11), some (.int 5), some (.int 0)], [.int 32, .int (I 41 16)], 0, 0, (mSH, (mUp I 34 12 (nI a1)), L))) rfl ?_
      refine mBT (s2 := (d + 2, 154, 58, [some (.ref 34), some (.int 11), some (.int 5), some (.int 0)], [], 0, 0, (mSH, (mUp I 34 12 (nI a1)), L))) rfl (by first | (simp only [f41_0, f41_1, f41_2, f41_3, f41_4, f41_5, f41_6, f41_7, f41_8, f41_9, f41_10, f41_11, f41_12, f41_13, f41_14, f41_15, f41_16, f41_17, f41_18, f41_19, f41_20, f41_21, f41_22]; first | decide | rfl) | decide | rfl) ?_
      refine mB 1 (s2 := (d + 2, 154, 59, [some (.ref 34), some (.int 11), some (.int 5), some (.int 0)], [.int 0], 0, 0, (mSH, (mUp I 34 12 (nI a1)), L))) rfl ?_
      refine mBT (s2 := (d + 2, 154, 86, [some (.ref 34), some (.int 11), some (.int 5), some (.int 0)], [], 0, 0, (mSH, (mUp I 34 12 (nI a1)), L))) rfl (by decide) ?_
      refine mB 6 (s2 := (d + 2, 154, 94, [some (.ref 34), some (.int 11), some (.int 5), some (.int 0)], [.int 0, .int (nI a1), .ref 34], 0, 0, (mSH, (mUp I 34 12 (nI a1)), L))) rfl ?_
      refine mBT (s2 := (d + 2, 154, 101, [some (.ref 34), some (.int 11), some (.int 5), some (.int 0)], [.int (nI a1), .ref 34], 0, 0, (mSH, (mUp I 34 12 (nI a1)), L))) rfl (by decide) ?_
      refine mB 4 (s2 := (d + 2, 154, 107, [some (.ref 34), some (.int 11), some (.int 5), some (.int 0)], [.int 0], 0, 0, (mSH, (mUp (mUp I 34 12 (nI a1)) 34 12 ((nI a1) + 0)), L))) rfl ?_
      refine mRt (r := (some (.int 0))) (h := (mSH, (mUp (mUp I 34 12 (nI a1)) 34 12 ((nI a1) + 0)), L)) rfl rfl ?_
      exact mWq q0 hla1 (nI_add a1 0) (by omega)
theorem w_isw_17 {ro : Nat → Nat × (Nat → Int32)} {Q : mPo} {d : Nat} {I : Nat → Nat → Int32} {L : Nat → Nat → Int64} {s n t : Nat} {a : Nat} {B : Nat} (hB : 120 ≤ B) (hB2 : B ≤ 1000) (hm : mM s n t I) (hat : I 34 12 = nI a) (ha : a ≤ B) (q0 : ∀ a', a' ≤ B + 5 → Q (some (.int 0)) (mSH, mUp I 34 12 (nI a'), L)) (q1 : ∀ a', a' ≤ B + 5 → Q (some (.int 1)) (mSH, mUp I 34 12 (nI a'), L))   : mWP mTb_ mFT ro (d + 2, 154, 0, [some (.ref 34), some (.int 17), none, none], [], 0, 0, (mSH, I, L)) Q := by
  obtain ⟨f41_0, f41_1, f41_2, f41_3, f41_4, f41_5, f41_6, f41_7, f41_8, f41_9, f41_10, f41_11, f41_12, f41_13, f41_14, f41_15, f41_16, f41_17, f41_18, f41_19, f41_20, f41_21, f41_22⟩ : I 41 0 = 121 ∧ I 41 1 = 101 ∧ I 41 2 = 97 ∧ I 41 3 = 114 ∧ I 41 4 = 115 ∧ I 41 5 = 32 ∧ I 41 6 = 99 ∧ I 41 7 = 111 ∧ I 41 8 = 114 ∧ I 41 9 = 101 ∧ I 41 10 = 32 ∧ I 41 11 = 110 ∧ I 41 12 = 111 ∧ I 41 13 = 114 ∧ I 41 14 = 116 ∧ I 41 15 = 104 ∧ I 41 16 = 32 ∧ I 41 17 = 115 ∧ I 41 18 = 111 ∧ I 41 19 = 117 ∧ I 41 20 = 116 ∧ I 41 21 = 104 ∧ I 41 22 = 32 := ⟨hm.2.2.2.2.2 0 (by omega), hm.2.2.2.2.2 1 (by omega), hm.2.2.2.2.2 2 (by omega), hm.2.2.2.2.2 3 (by omega), hm.2.2.2.2.2 4 (by omega), hm.2.2.2.2.2 5 (by omega), hm.2.2.2.2.2 6 (by omega), hm.2.2.2.2.2 7 (by omega), hm.2.2.2.2.2 8 (by omega), hm.2.2.2.2.2 9 (by omega), hm.2.2.2.2.2 10 (by omega), hm.2.2.2.2.2 11 (by omega), hm.2.2.2.2.2 12 (by omega), hm.2.2.2.2.2 13 (by omega), hm.2.2.2.2.2 14 (by omega), hm.2.2.2.2.2 15 (by omega), hm.2.2.2.2.2 16 (by omega), hm.2.2.2.2.2 17 (by omega), hm.2.2.2.2.2 18 (by omega), hm.2.2.2.2.2 19 (by omega), hm.2.2.2.2.2 20 (by omega), hm.2.2.2.2.2 21 (by omega), hm.2.2.2.2.2 22 (by omega)⟩
  refine mB 1 (s2 := (d + 2, 154, 1, [some (.ref 34), some (.int 17), none, none], [.ref 34], 0, 0, (mSH, I, L))) rfl ?_
  refine mCall (s2 := (d + 1, 152, 0, [some (.ref 34)], [], 0, 0, (mSH, I, L))) rfl ?_
  refine w_skips hB hB2 (hm) hat ha (fun a1 hla1 => ?_)
  show mWP mTb_ mFT ro (d + 2, 154, 4, [some (.ref 34), some (.int 17), none, none], [], 0, 0, (mSH, (mUp I 34 12 (nI a1)), L)) _
  refine mB 9 (s2 := (d + 2, 154, 15, [some (.ref 34), some (.int 17), some (.int 0), some (.int 1)], [.int 17, .ref 41], 0, 0, (mSH, (mUp I 34 12 (nI a1)), L))) rfl ?_
  refine mRq (s2 := (d + 2, 154, 16, [some (.ref 34), some (.int 17), some (.int 0), some (.int 1)], [.int (I 41 17)], 0, 0, (mSH, (mUp I 34 12 (nI a1)), L))) rfl (by decide) ?_
  refine mB 1 (s2 := (d + 2, 154, 18, [some (.ref 34), some (.int 17), some (.int 0), some (.int 1)], [.int 32, .int (I 41 17)], 0, 0, (mSH, (mUp I 34 12 (nI a1)), L))) rfl ?_
  refine mBF (s3 := (d + 2, 154, 21, [some (.ref 34), some (.int 17), some (.int 0), some (.int 1)], [], 0, 0, (mSH, (mUp I 34 12 (nI a1)), L))) rfl (by first | (simp only [f41_0, f41_1, f41_2, f41_3, f41_4, f41_5, f41_6, f41_7, f41_8, f41_9, f41_10, f41_11, f41_12, f41_13, f41_14, f41_15, f41_16, f41_17, f41_18, f41_19, f41_20, f41_21, f41_22]; first | decide | rfl) | decide | rfl) ?_
  refine mB 1 (s2 := (d + 2, 154, 22, [some (.ref 34), some (.int 17), some (.int 0), some (.int 1)], [.int 1], 0, 0, (mSH, (mUp I 34 12 (nI a1)), L))) rfl ?_
  refine mBF (s3 := (d + 2, 154, 25, [some (.ref 34), some (.int 17), some (.int 0), some (.int 1)], [], 0, 0, (mSH, (mUp I 34 12 (nI a1)), L))) rfl (by decide) ?_
  refine mB 5 (s2 := (d + 2, 154, 32, [some (.ref 34), some (.int 17), some (.int 0), some (.int 1)], [.int ((nI a1) + 0), .ref 34], 0, 0, (mSH, (mUp I 34 12 (nI a1)), L))) rfl ?_
  refine mCall (s2 := (d + 1, 151, 0, [some (.ref 34), some (.int ((nI a1) + 0))], [], 0, 0, (mSH, (mUp I 34 12 (nI a1)), L))) rfl ?_
  refine w_byte (k := a1 + 0) (hm) (nI_add a1 0) (by omega) ?_ ?_
  · show mWP mTb_ mFT ro (d + 2, 154, 35, [some (.ref 34), some (.int 17), some (.int 0), some (.int 1)], [.int (-1)], 0, 0, (mSH, (mUp I 34 12 (nI a1)), L)) _
    refine mB 5 (s2 := (d + 2, 154, 42, [some (.ref 34), some (.int 17), some (.int 0), some (.int 1)], [.int 17, .ref 41, .int (-1)], 0, 0, (mSH, (mUp I 34 12 (nI a1)), L))) rfl ?_
    refine mRq (s2 := (d + 2, 154, 43, [some (.ref 34), some (.int 17), some (.int 0), some (.int 1)], [.int (I 41 17), .int (-1)], 0, 0, (mSH, (mUp I 34 12 (nI a1)), L))) rfl (by decide) ?_
    refine mBF (s3 := (d + 2, 154, 50, [some (.ref 34), some (.int 17), some (.int 0), some (.int 1)], [], 0, 0, (mSH, (mUp I 34 12 (nI a1)), L))) rfl (by first | (simp only [f41_0, f41_1, f41_2, f41_3, f41_4, f41_5, f41_6, f41_7, f41_8, f41_9, f41_10, f41_11, f41_12, f41_13, f41_14, f41_15, f41_16, f41_17, f41_18, f41_19, f41_20, f41_21, f41_22]; first | decide | rfl) | decide | rfl) ?_
    refine mB 9 (s2 := (d + 2, 154, 15, [some (.ref 34), some (.int 17), some (.int 1), some (.int 0)], [.int 18, .ref 41], 0, 0, (mSH, (mUp I 34 12 (nI a1)), L))) rfl ?_
    refine mRq (s2 := (d + 2, 154, 16, [some (.ref 34), some (.int 17), some (.int 1), some (.int 0)], [.int (I 41 18)], 0, 0, (mSH, (mUp I 34 12 (nI a1)), L))) rfl (by decide) ?_
    refine mB 1 (s2 := (d + 2, 154, 18, [some (.ref 34), some (.int 17), some (.int 1), some (.int 0)], [.int 32, .int (I 41 18)], 0, 0, (mSH, (mUp I 34 12 (nI a1)), L))) rfl ?_
    refine mBF (s3 := (d + 2, 154, 21, [some (.ref 34), some (.int 17), some (.int 1), some (.int 0)], [], 0, 0, (mSH, (mUp I 34 12 (nI a1)), L))) rfl (by first | (simp only [f41_0, f41_1, f41_2, f41_3, f41_4, f41_5, f41_6, f41_7, f41_8, f41_9, f41_10, f41_11, f41_12, f41_13, f41_14, f41_15, f41_16, f41_17, f41_18, f41_19, f41_20, f41_21, f41_22]; first | decide | rfl) | decide | rfl) ?_
    refine mB 1 (s2 := (d + 2, 154, 22, [some (.ref 34), some (.int 17), some (.int 1), some (.int 0)], [.int 0], 0, 0, (mSH, (mUp I 34 12 (nI a1)), L))) rfl ?_
    refine mBT (s2 := (d + 2, 154, 50, [some (.ref 34), some (.int 17), some (.int 1), some (.int 0)], [], 0, 0, (mSH, (mUp I 34 12 (nI a1)), L))) rfl (by decide) ?_
    refine mB 9 (s2 := (d + 2, 154, 15, [some (.ref 34), some (.int 17), some (.int 2), some (.int 0)], [.int 19, .ref 41], 0, 0, (mSH, (mUp I 34 12 (nI a1)), L))) rfl ?_
    refine mRq (s2 := (d + 2, 154, 16, [some (.ref 34), some (.int 17), some (.int 2), some (.int 0)], [.int (I 41 19)], 0, 0, (mSH, (mUp I 34 12 (nI a1)), L))) rfl (by decide) ?_
    refine mB 1 (s2 := (d + 2, 154, 18, [some (.ref 34), some (.int 17), some (.int 2), some (.int 0)], [.int 32, .int (I 41 19)], 0, 0, (mSH, (mUp I 34 12 (nI a1)), L))) rfl ?_
    refine mBF (s3 := (d + 2, 154, 21, [some (.ref 34), some (.int 17), some (.int 2), some (.int 0)], [], 0, 0, (mSH, (mUp I 34 12 (nI a1)), L))) rfl (by first | (simp only [f41_0, f41_1, f41_2, f41_3, f41_4, f41_5, f41_6, f41_7, f41_8, f41_9, f41_10, f41_11, f41_12, f41_13, f41_14, f41_15, f41_16, f41_17, f41_18, f41_19, f41_20, f41_21, f41_22]; first | decide | rfl) | decide | rfl) ?_
    refine mB 1 (s2 := (d + 2, 154, 22, [some (.ref 34), some (.int 17), some (.int 2), some (.int 0)], [.int 0], 0, 0, (mSH, (mUp I 34 12 (nI a1)), L))) rfl ?_
    refine mBT (s2 := (d + 2, 154, 50, [some (.ref 34), some (.int 17), some (.int 2), some (.int 0)], [], 0, 0, (mSH, (mUp I 34 12 (nI a1)), L))) rfl (by decide) ?_
    refine mB 9 (s2 := (d + 2, 154, 15, [some (.ref 34), some (.int 17), some (.int 3), some (.int 0)], [.int 20, .ref 41], 0, 0, (mSH, (mUp I 34 12 (nI a1)), L))) rfl ?_
    refine mRq (s2 := (d + 2, 154, 16, [some (.ref 34), some (.int 17), some (.int 3), some (.int 0)], [.int (I 41 20)], 0, 0, (mSH, (mUp I 34 12 (nI a1)), L))) rfl (by decide) ?_
    refine mB 1 (s2 := (d + 2, 154, 18, [some (.ref 34), some (.int 17), some (.int 3), some (.int 0)], [.int 32, .int (I 41 20)], 0, 0, (mSH, (mUp I 34 12 (nI a1)), L))) rfl ?_
    refine mBF (s3 := (d + 2, 154, 21, [some (.ref 34), some (.int 17), some (.int 3), some (.int 0)], [], 0, 0, (mSH, (mUp I 34 12 (nI a1)), L))) rfl (by first | (simp only [f41_0, f41_1, f41_2, f41_3, f41_4, f41_5, f41_6, f41_7, f41_8, f41_9, f41_10, f41_11, f41_12, f41_13, f41_14, f41_15, f41_16, f41_17, f41_18, f41_19, f41_20, f41_21, f41_22]; first | decide | rfl) | decide | rfl) ?_
    refine mB 1 (s2 := (d + 2, 154, 22, [some (.ref 34), some (.int 17), some (.int 3), some (.int 0)], [.int 0], 0, 0, (mSH, (mUp I 34 12 (nI a1)), L))) rfl ?_
    refine mBT (s2 := (d + 2, 154, 50, [some (.ref 34), some (.int 17), some (.int 3), some (.int 0)], [], 0, 0, (mSH, (mUp I 34 12 (nI a1)), L))) rfl (by decide) ?_
    refine mB 9 (s2 := (d + 2, 154, 15, [some (.ref 34), some (.int 17), some (.int 4), some (.int 0)], [.int 21, .ref 41], 0, 0, (mSH, (mUp I 34 12 (nI a1)), L))) rfl ?_
    refine mRq (s2 := (d + 2, 154, 16, [some (.ref 34), some (.int 17), some (.int 4), some (.int 0)], [.int (I 41 21)], 0, 0, (mSH, (mUp I 34 12 (nI a1)), L))) rfl (by decide) ?_
    refine mB 1 (s2 := (d + 2, 154, 18, [some (.ref 34), some (.int 17), some (.int 4), some (.int 0)], [.int 32, .int (I 41 21)], 0, 0, (mSH, (mUp I 34 12 (nI a1)), L))) rfl ?_
    refine mBF (s3 := (d + 2, 154, 21, [some (.ref 34), some (.int 17), some (.int 4), some (.int 0)], [], 0, 0, (mSH, (mUp I 34 12 (nI a1)), L))) rfl (by first | (simp only [f41_0, f41_1, f41_2, f41_3, f41_4, f41_5, f41_6, f41_7, f41_8, f41_9, f41_10, f41_11, f41_12, f41_13, f41_14, f41_15, f41_16, f41_17, f41_18, f41_19, f41_20, f41_21, f41_22]; first | decide | rfl) | decide | rfl) ?_
    refine mB 1 (s2 := (d + 2, 154, 22, [some (.ref 34), some (.int 17), some (.int 4), some (.int 0)], [.int 0], 0, 0, (mSH, (mUp I 34 12 (nI a1)), L))) rfl ?_
    refine mBT (s2 := (d + 2, 154, 50, [some (.ref 34), some (.int 17), some (.int 4), some (.int 0)], [], 0, 0, (mSH, (mUp I 34 12 (nI a1)), L))) rfl (by decide) ?_
    refine mB 9 (s2 := (d + 2, 154, 15, [some (.ref 34), some (.int 17), some (.int 5), some (.int 0)], [.int 22, .ref 41], 0, 0, (mSH, (mUp I 34 12 (nI a1)), L))) rfl ?_
    refine mRq (s2 := (d + 2, 154, 16, [some (.ref 34), some (.int 17), some (.int 5), some (.int 0)], [.int (I 41 22)], 0, 0, (mSH, (mUp I 34 12 (nI a1)), L))) rfl (by decide) ?_
    refine mB 1 (s2 := (d + 2, 154, 18, [some (.ref 34), some (.int 17), some (.int 5), some (.int 0)], [.int 32, .int (I 41 22)], 0, 0, (mSH, (mUp I 34 12 (nI a1)), L))) rfl ?_
    refine mBT (s2 := (d + 2, 154, 58, [some (.ref 34), some (.int 17), some (.int 5), some (.int 0)], [], 0, 0, (mSH, (mUp I 34 12 (nI a1)), L))) rfl (by first | (simp only [f41_0, f41_1, f41_2, f41_3, f41_4, f41_5, f41_6, f41_7, f41_8, f41_9, f41_10, f41_11, f41_12, f41_13, f41_14, f41_15, f41_16, f41_17, f41_18, f41_19, f41_20, f41_21, f41_22]; first | decide | rfl) | decide | rfl) ?_
    refine mB 1 (s2 := (d + 2, 154, 59, [some (.ref 34), some (.int 17), some (.int 5), some (.int 0)], [.int 0], 0, 0, (mSH, (mUp I 34 12 (nI a1)), L))) rfl ?_
    refine mBT (s2 := (d + 2, 154, 86, [some (.ref 34), some (.int 17), some (.int 5), some (.int 0)], [], 0, 0, (mSH, (mUp I 34 12 (nI a1)), L))) rfl (by decide) ?_
    refine mB 6 (s2 := (d + 2, 154, 94, [some (.ref 34), some (.int 17), some (.int 5), some (.int 0)], [.int 0, .int (nI a1), .ref 34], 0, 0, (mSH, (mUp I 34 12 (nI a1)), L))) rfl ?_
    refine mBT (s2 := (d + 2, 154, 101, [some (.ref 34), some (.int 17), some (.int 5), some (.int 0)], [.int (nI a1), .ref 34], 0, 0, (mSH, (mUp I 34 12 (nI a1)), L))) rfl (by decide) ?_
    refine mB 4 (s2 := (d + 2, 154, 107, [some (.ref 34), some (.int 17), some (.int 5), some (.int 0)], [.int 0], 0, 0, (mSH, (mUp (mUp I 34 12 (nI a1)) 34 12 ((nI a1) + 0)), L))) rfl ?_
    refine mRt (r := (some (.int 0))) (h := (mSH, (mUp (mUp I 34 12 (nI a1)) 34 12 ((nI a1) + 0)), L)) rfl rfl ?_
    exact mWq q0 hla1 (nI_add a1 0) (by omega)
  · intro l2
    show mWP mTb_ mFT ro (d + 2, 154, 35, [some (.ref 34), some (.int 17), some (.int 0), some (.int 1)], [.int (I 40 (a1 + 0))], 0, 0, (mSH, (mUp I 34 12 (nI a1)), L)) _
    refine mB 5 (s2 := (d + 2, 154, 42, [some (.ref 34), some (.int 17), some (.int 0), some (.int 1)], [.int 17, .ref 41, .int (I 40 (a1 + 0))], 0, 0, (mSH, (mUp I 34 12 (nI a1)), L))) rfl ?_
    refine mRq (s2 := (d + 2, 154, 43, [some (.ref 34), some (.int 17), some (.int 0), some (.int 1)], [.int (I 41 17), .int (I 40 (a1 + 0))], 0, 0, (mSH, (mUp I 34 12 (nI a1)), L))) rfl (by decide) ?_
    refine mBr (s2 := (d + 2, 154, 46, [some (.ref 34), some (.int 17), some (.int 0), some (.int 1)], [], 0, 0, (mSH, (mUp I 34 12 (nI a1)), L))) (s3 := (d + 2, 154, 50, [some (.ref 34), some (.int 17), some (.int 0), some (.int 1)], [], 0, 0, (mSH, (mUp I 34 12 (nI a1)), L))) rfl (fun c1 => ?_) (fun c1 => ?_)
    · refine mB 10 (s2 := (d + 2, 154, 15, [some (.ref 34), some (.int 17), some (.int 1), some (.int 1)], [.int 18, .ref 41], 0, 0, (mSH, (mUp I 34 12 (nI a1)), L))) rfl ?_
      refine mRq (s2 := (d + 2, 154, 16, [some (.ref 34), some (.int 17), some (.int 1), some (.int 1)], [.int (I 41 18)], 0, 0, (mSH, (mUp I 34 12 (nI a1)), L))) rfl (by decide) ?_
      refine mB 1 (s2 := (d + 2, 154, 18, [some (.ref 34), some (.int 17), some (.int 1), some (.int 1)], [.int 32, .int (I 41 18)], 0, 0, (mSH, (mUp I 34 12 (nI a1)), L))) rfl ?_
      refine mBF (s3 := (d + 2, 154, 21, [some (.ref 34), some (.int 17), some (.int 1), some (.int 1)], [], 0, 0, (mSH, (mUp I 34 12 (nI a1)), L))) rfl (by first | (simp only [f41_0, f41_1, f41_2, f41_3, f41_4, f41_5, f41_6, f41_7, f41_8, f41_9, f41_10, f41_11, f41_12, f41_13, f41_14, f41_15, f41_16, f41_17, f41_18, f41_19, f41_20, f41_21, f41_22]; first | decide | rfl) | decide | rfl) ?_
      refine mB 1 (s2 := (d + 2, 154, 22, [some (.ref 34), some (.int 17), some (.int 1), some (.int 1)], [.int 1], 0, 0, (mSH, (mUp I 34 12 (nI a1)), L))) rfl ?_
      refine mBF (s3 := (d + 2, 154, 25, [some (.ref 34), some (.int 17), some (.int 1), some (.int 1)], [], 0, 0, (mSH, (mUp I 34 12 (nI a1)), L))) rfl (by decide) ?_
      refine mB 5 (s2 := (d + 2, 154, 32, [some (.ref 34), some (.int 17), some (.int 1), some (.int 1)], [.int ((nI a1) + 1), .ref 34], 0, 0, (mSH, (mUp I 34 12 (nI a1)), L))) rfl ?_
      refine mCall (s2 := (d + 1, 151, 0, [some (.ref 34), some (.int ((nI a1) + 1))], [], 0, 0, (mSH, (mUp I 34 12 (nI a1)), L))) rfl ?_
      refine w_byte (k := a1 + 1) (hm) (nI_add a1 1) (by omega) ?_ ?_
      · show mWP mTb_ mFT ro (d + 2, 154, 35, [some (.ref 34), some (.int 17), some (.int 1), some (.int 1)], [.int (-1)], 0, 0, (mSH, (mUp I 34 12 (nI a1)), L)) _
        refine mB 5 (s2 := (d + 2, 154, 42, [some (.ref 34), some (.int 17), some (.int 1), some (.int 1)], [.int 18, .ref 41, .int (-1)], 0, 0, (mSH, (mUp I 34 12 (nI a1)), L))) rfl ?_
        refine mRq (s2 := (d + 2, 154, 43, [some (.ref 34), some (.int 17), some (.int 1), some (.int 1)], [.int (I 41 18), .int (-1)], 0, 0, (mSH, (mUp I 34 12 (nI a1)), L))) rfl (by decide) ?_
        refine mBF (s3 := (d + 2, 154, 50, [some (.ref 34), some (.int 17), some (.int 1), some (.int 1)], [], 0, 0, (mSH, (mUp I 34 12 (nI a1)), L))) rfl (by first | (simp only [f41_0, f41_1, f41_2, f41_3, f41_4, f41_5, f41_6, f41_7, f41_8, f41_9, f41_10, f41_11, f41_12, f41_13, f41_14, f41_15, f41_16, f41_17, f41_18, f41_19, f41_20, f41_21, f41_22]; first | decide | rfl) | decide | rfl) ?_
        refine mB 9 (s2 := (d + 2, 154, 15, [some (.ref 34), some (.int 17), some (.int 2), some (.int 0)], [.int 19, .ref 41], 0, 0, (mSH, (mUp I 34 12 (nI a1)), L))) rfl ?_
        refine mRq (s2 := (d + 2, 154, 16, [some (.ref 34), some (.int 17), some (.int 2), some (.int 0)], [.int (I 41 19)], 0, 0, (mSH, (mUp I 34 12 (nI a1)), L))) rfl (by decide) ?_
        refine mB 1 (s2 := (d + 2, 154, 18, [some (.ref 34), some (.int 17), some (.int 2), some (.int 0)], [.int 32, .int (I 41 19)], 0, 0, (mSH, (mUp I 34 12 (nI a1)), L))) rfl ?_
        refine mBF (s3 := (d + 2, 154, 21, [some (.ref 34), some (.int 17), some (.int 2), some (.int 0)], [], 0, 0, (mSH, (mUp I 34 12 (nI a1)), L))) rfl (by first | (simp only [f41_0, f41_1, f41_2, f41_3, f41_4, f41_5, f41_6, f41_7, f41_8, f41_9, f41_10, f41_11, f41_12, f41_13, f41_14, f41_15, f41_16, f41_17, f41_18, f41_19, f41_20, f41_21, f41_22]; first | decide | rfl) | decide | rfl) ?_
        refine mB 1 (s2 := (d + 2, 154, 22, [some (.ref 34), some (.int 17), some (.int 2), some (.int 0)], [.int 0], 0, 0, (mSH, (mUp I 34 12 (nI a1)), L))) rfl ?_
        refine mBT (s2 := (d + 2, 154, 50, [some (.ref 34), some (.int 17), some (.int 2), some (.int 0)], [], 0, 0, (mSH, (mUp I 34 12 (nI a1)), L))) rfl (by decide) ?_
        refine mB 9 (s2 := (d + 2, 154, 15, [some (.ref 34), some (.int 17), some (.int 3), some (.int 0)], [.int 20, .ref 41], 0, 0, (mSH, (mUp I 34 12 (nI a1)), L))) rfl ?_
        refine mRq (s2 := (d + 2, 154, 16, [some (.ref 34), some (.int 17), some (.int 3), some (.int 0)], [.int (I 41 20)], 0, 0, (mSH, (mUp I 34 12 (nI a1)), L))) rfl (by decide) ?_
        refine mB 1 (s2 := (d + 2, 154, 18, [some (.ref 34), some (.int 17), some (.int 3), some (.int 0)], [.int 32, .int (I 41 20)], 0, 0, (mSH, (mUp I 34 12 (nI a1)), L))) rfl ?_
        refine mBF (s3 := (d + 2, 154, 21, [some (.ref 34), some (.int 17), some (.int 3), some (.int 0)], [], 0, 0, (mSH, (mUp I 34 12 (nI a1)), L))) rfl (by first | (simp only [f41_0, f41_1, f41_2, f41_3, f41_4, f41_5, f41_6, f41_7, f41_8, f41_9, f41_10, f41_11, f41_12, f41_13, f41_14, f41_15, f41_16, f41_17, f41_18, f41_19, f41_20, f41_21, f41_22]; first | decide | rfl) | decide | rfl) ?_
        refine mB 1 (s2 := (d + 2, 154, 22, [some (.ref 34), some (.int 17), some (.int 3), some (.int 0)], [.int 0], 0, 0, (mSH, (mUp I 34 12 (nI a1)), L))) rfl ?_
        refine mBT (s2 := (d + 2, 154, 50, [some (.ref 34), some (.int 17), some (.int 3), some (.int 0)], [], 0, 0, (mSH, (mUp I 34 12 (nI a1)), L))) rfl (by decide) ?_
        refine mB 9 (s2 := (d + 2, 154, 15, [some (.ref 34), some (.int 17), some (.int 4), some (.int 0)], [.int 21, .ref 41], 0, 0, (mSH, (mUp I 34 12 (nI a1)), L))) rfl ?_
        refine mRq (s2 := (d + 2, 154, 16, [some (.ref 34), some (.int 17), some (.int 4), some (.int 0)], [.int (I 41 21)], 0, 0, (mSH, (mUp I 34 12 (nI a1)), L))) rfl (by decide) ?_
        refine mB 1 (s2 := (d + 2, 154, 18, [some (.ref 34), some (.int 17), some (.int 4), some (.int 0)], [.int 32, .int (I 41 21)], 0, 0, (mSH, (mUp I 34 12 (nI a1)), L))) rfl ?_
        refine mBF (s3 := (d + 2, 154, 21, [some (.ref 34), some (.int 17), some (.int 4), some (.int 0)], [], 0, 0, (mSH, (mUp I 34 12 (nI a1)), L))) rfl (by first | (simp only [f41_0, f41_1, f41_2, f41_3, f41_4, f41_5, f41_6, f41_7, f41_8, f41_9, f41_10, f41_11, f41_12, f41_13, f41_14, f41_15, f41_16, f41_17, f41_18, f41_19, f41_20, f41_21, f41_22]; first | decide | rfl) | decide | rfl) ?_
        refine mB 1 (s2 := (d + 2, 154, 22, [some (.ref 34), some (.int 17), some (.int 4), some (.int 0)], [.int 0], 0, 0, (mSH, (mUp I 34 12 (nI a1)), L))) rfl ?_
        refine mBT (s2 := (d + 2, 154, 50, [some (.ref 34), some (.int 17), some (.int 4), some (.int 0)], [], 0, 0, (mSH, (mUp I 34 12 (nI a1)), L))) rfl (by decide) ?_
        refine mB 9 (s2 := (d + 2, 154, 15, [some (.ref 34), some (.int 17), some (.int 5), some (.int 0)], [.int 22, .ref 41], 0, 0, (mSH, (mUp I 34 12 (nI a1)), L))) rfl ?_
        refine mRq (s2 := (d + 2, 154, 16, [some (.ref 34), some (.int 17), some (.int 5), some (.int 0)], [.int (I 41 22)], 0, 0, (mSH, (mUp I 34 12 (nI a1)), L))) rfl (by decide) ?_
        refine mB 1 (s2 := (d + 2, 154, 18, [some (.ref 34), some (.int 17), some (.int 5), some (.int 0)], [.int 32, .int (I 41 22)], 0, 0, (mSH, (mUp I 34 12 (nI a1)), L))) rfl ?_
        refine mBT (s2 := (d + 2, 154, 58, [some (.ref 34), some (.int 17), some (.int 5), some (.int 0)], [], 0, 0, (mSH, (mUp I 34 12 (nI a1)), L))) rfl (by first | (simp only [f41_0, f41_1, f41_2, f41_3, f41_4, f41_5, f41_6, f41_7, f41_8, f41_9, f41_10, f41_11, f41_12, f41_13, f41_14, f41_15, f41_16, f41_17, f41_18, f41_19, f41_20, f41_21, f41_22]; first | decide | rfl) | decide | rfl) ?_
        refine mB 1 (s2 := (d + 2, 154, 59, [some (.ref 34), some (.int 17), some (.int 5), some (.int 0)], [.int 0], 0, 0, (mSH, (mUp I 34 12 (nI a1)), L))) rfl ?_
        refine mBT (s2 := (d + 2, 154, 86, [some (.ref 34), some (.int 17), some (.int 5), some (.int 0)], [], 0, 0, (mSH, (mUp I 34 12 (nI a1)), L))) rfl (by decide) ?_
        refine mB 6 (s2 := (d + 2, 154, 94, [some (.ref 34), some (.int 17), some (.int 5), some (.int 0)], [.int 0, .int (nI a1), .ref 34], 0, 0, (mSH, (mUp I 34 12 (nI a1)), L))) rfl ?_
        refine mBT (s2 := (d + 2, 154, 101, [some (.ref 34), some (.int 17), some (.int 5), some (.int 0)], [.int (nI a1), .ref 34], 0, 0, (mSH, (mUp I 34 12 (nI a1)), L))) rfl (by decide) ?_
        refine mB 4 (s2 := (d + 2, 154, 107, [some (.ref 34), some (.int 17), some (.int 5), some (.int 0)], [.int 0], 0, 0, (mSH, (mUp (mUp I 34 12 (nI a1)) 34 12 ((nI a1) + 0)), L))) rfl ?_
        refine mRt (r := (some (.int 0))) (h := (mSH, (mUp (mUp I 34 12 (nI a1)) 34 12 ((nI a1) + 0)), L)) rfl rfl ?_
        exact mWq q0 hla1 (nI_add a1 0) (by omega)
      · intro l3
        show mWP mTb_ mFT ro (d + 2, 154, 35, [some (.ref 34), some (.int 17), some (.int 1), some (.int 1)], [.int (I 40 (a1 + 1))], 0, 0, (mSH, (mUp I 34 12 (nI a1)), L)) _
        refine mB 5 (s2 := (d + 2, 154, 42, [some (.ref 34), some (.int 17), some (.int 1), some (.int 1)], [.int 18, .ref 41, .int (I 40 (a1 + 1))], 0, 0, (mSH, (mUp I 34 12 (nI a1)), L))) rfl ?_
        refine mRq (s2 := (d + 2, 154, 43, [some (.ref 34), some (.int 17), some (.int 1), some (.int 1)], [.int (I 41 18), .int (I 40 (a1 + 1))], 0, 0, (mSH, (mUp I 34 12 (nI a1)), L))) rfl (by decide) ?_
        refine mBr (s2 := (d + 2, 154, 46, [some (.ref 34), some (.int 17), some (.int 1), some (.int 1)], [], 0, 0, (mSH, (mUp I 34 12 (nI a1)), L))) (s3 := (d + 2, 154, 50, [some (.ref 34), some (.int 17), some (.int 1), some (.int 1)], [], 0, 0, (mSH, (mUp I 34 12 (nI a1)), L))) rfl (fun c2 => ?_) (fun c2 => ?_)
        · refine mB 10 (s2 := (d + 2, 154, 15, [some (.ref 34), some (.int 17), some (.int 2), some (.int 1)], [.int 19, .ref 41], 0, 0, (mSH, (mUp I 34 12 (nI a1)), L))) rfl ?_
          refine mRq (s2 := (d + 2, 154, 16, [some (.ref 34), some (.int 17), some (.int 2), some (.int 1)], [.int (I 41 19)], 0, 0, (mSH, (mUp I 34 12 (nI a1)), L))) rfl (by decide) ?_
          refine mB 1 (s2 := (d + 2, 154, 18, [some (.ref 34), some (.int 17), some (.int 2), some (.int 1)], [.int 32, .int (I 41 19)], 0, 0, (mSH, (mUp I 34 12 (nI a1)), L))) rfl ?_
          refine mBF (s3 := (d + 2, 154, 21, [some (.ref 34), some (.int 17), some (.int 2), some (.int 1)], [], 0, 0, (mSH, (mUp I 34 12 (nI a1)), L))) rfl (by first | (simp only [f41_0, f41_1, f41_2, f41_3, f41_4, f41_5, f41_6, f41_7, f41_8, f41_9, f41_10, f41_11, f41_12, f41_13, f41_14, f41_15, f41_16, f41_17, f41_18, f41_19, f41_20, f41_21, f41_22]; first | decide | rfl) | decide | rfl) ?_
          refine mB 1 (s2 := (d + 2, 154, 22, [some (.ref 34), some (.int 17), some (.int 2), some (.int 1)], [.int 1], 0, 0, (mSH, (mUp I 34 12 (nI a1)), L))) rfl ?_
          refine mBF (s3 := (d + 2, 154, 25, [some (.ref 34), some (.int 17), some (.int 2), some (.int 1)], [], 0, 0, (mSH, (mUp I 34 12 (nI a1)), L))) rfl (by decide) ?_
          refine mB 5 (s2 := (d + 2, 154, 32, [some (.ref 34), some (.int 17), some (.int 2), some (.int 1)], [.int ((nI a1) + 2), .ref 34], 0, 0, (mSH, (mUp I 34 12 (nI a1)), L))) rfl ?_
          refine mCall (s2 := (d + 1, 151, 0, [some (.ref 34), some (.int ((nI a1) + 2))], [], 0, 0, (mSH, (mUp I 34 12 (nI a1)), L))) rfl ?_
          refine w_byte (k := a1 + 2) (hm) (nI_add a1 2) (by omega) ?_ ?_
          · show mWP mTb_ mFT ro (d + 2, 154, 35, [some (.ref 34), some (.int 17), some (.int 2), some (.int 1)], [.int (-1)], 0, 0, (mSH, (mUp I 34 12 (nI a1)), L)) _
            refine mB 5 (s2 := (d + 2, 154, 42, [some (.ref 34), some (.int 17), some (.int 2), some (.int 1)], [.int 19, .ref 41, .int (-1)], 0, 0, (mSH, (mUp I 34 12 (nI a1)), L))) rfl ?_
            refine mRq (s2 := (d + 2, 154, 43, [some (.ref 34), some (.int 17), some (.int 2), some (.int 1)], [.int (I 41 19), .int (-1)], 0, 0, (mSH, (mUp I 34 12 (nI a1)), L))) rfl (by decide) ?_
            refine mBF (s3 := (d + 2, 154, 50, [some (.ref 34), some (.int 17), some (.int 2), some (.int 1)], [], 0, 0, (mSH, (mUp I 34 12 (nI a1)), L))) rfl (by first | (simp only [f41_0, f41_1, f41_2, f41_3, f41_4, f41_5, f41_6, f41_7, f41_8, f41_9, f41_10, f41_11, f41_12, f41_13, f41_14, f41_15, f41_16, f41_17, f41_18, f41_19, f41_20, f41_21, f41_22]; first | decide | rfl) | decide | rfl) ?_
            refine mB 9 (s2 := (d + 2, 154, 15, [some (.ref 34), some (.int 17), some (.int 3), some (.int 0)], [.int 20, .ref 41], 0, 0, (mSH, (mUp I 34 12 (nI a1)), L))) rfl ?_
            refine mRq (s2 := (d + 2, 154, 16, [some (.ref 34), some (.int 17), some (.int 3), some (.int 0)], [.int (I 41 20)], 0, 0, (mSH, (mUp I 34 12 (nI a1)), L))) rfl (by decide) ?_
            refine mB 1 (s2 := (d + 2, 154, 18, [some (.ref 34), some (.int 17), some (.int 3), some (.int 0)], [.int 32, .int (I 41 20)], 0, 0, (mSH, (mUp I 34 12 (nI a1)), L))) rfl ?_
            refine mBF (s3 := (d + 2, 154, 21, [some (.ref 34), some (.int 17), some (.int 3), some (.int 0)], [], 0, 0, (mSH, (mUp I 34 12 (nI a1)), L))) rfl (by first | (simp only [f41_0, f41_1, f41_2, f41_3, f41_4, f41_5, f41_6, f41_7, f41_8, f41_9, f41_10, f41_11, f41_12, f41_13, f41_14, f41_15, f41_16, f41_17, f41_18, f41_19, f41_20, f41_21, f41_22]; first | decide | rfl) | decide | rfl) ?_
            refine mB 1 (s2 := (d + 2, 154, 22, [some (.ref 34), some (.int 17), some (.int 3), some (.int 0)], [.int 0], 0, 0, (mSH, (mUp I 34 12 (nI a1)), L))) rfl ?_
            refine mBT (s2 := (d + 2, 154, 50, [some (.ref 34), some (.int 17), some (.int 3), some (.int 0)], [], 0, 0, (mSH, (mUp I 34 12 (nI a1)), L))) rfl (by decide) ?_
            refine mB 9 (s2 := (d + 2, 154, 15, [some (.ref 34), some (.int 17), some (.int 4), some (.int 0)], [.int 21, .ref 41], 0, 0, (mSH, (mUp I 34 12 (nI a1)), L))) rfl ?_
            refine mRq (s2 := (d + 2, 154, 16, [some (.ref 34), some (.int 17), some (.int 4), some (.int 0)], [.int (I 41 21)], 0, 0, (mSH, (mUp I 34 12 (nI a1)), L))) rfl (by decide) ?_
            refine mB 1 (s2 := (d + 2, 154, 18, [some (.ref 34), some (.int 17), some (.int 4), some (.int 0)], [.int 32, .int (I 41 21)], 0, 0, (mSH, (mUp I 34 12 (nI a1)), L))) rfl ?_
            refine mBF (s3 := (d + 2, 154, 21, [some (.ref 34), some (.int 17), some (.int 4), some (.int 0)], [], 0, 0, (mSH, (mUp I 34 12 (nI a1)), L))) rfl (by first | (simp only [f41_0, f41_1, f41_2, f41_3, f41_4, f41_5, f41_6, f41_7, f41_8, f41_9, f41_10, f41_11, f41_12, f41_13, f41_14, f41_15, f41_16, f41_17, f41_18, f41_19, f41_20, f41_21, f41_22]; first | decide | rfl) | decide | rfl) ?_
            refine mB 1 (s2 := (d + 2, 154, 22, [some (.ref 34), some (.int 17), some (.int 4), some (.int 0)], [.int 0], 0, 0, (mSH, (mUp I 34 12 (nI a1)), L))) rfl ?_
            refine mBT (s2 := (d + 2, 154, 50, [some (.ref 34), some (.int 17), some (.int 4), some (.int 0)], [], 0, 0, (mSH, (mUp I 34 12 (nI a1)), L))) rfl (by decide) ?_
            refine mB 9 (s2 := (d + 2, 154, 15, [some (.ref 34), some (.int 17), some (.int 5), some (.int 0)], [.int 22, .ref 41], 0, 0, (mSH, (mUp I 34 12 (nI a1)), L))) rfl ?_
            refine mRq (s2 := (d + 2, 154, 16, [some (.ref 34), some (.int 17), some (.int 5), some (.int 0)], [.int (I 41 22)], 0, 0, (mSH, (mUp I 34 12 (nI a1)), L))) rfl (by decide) ?_
            refine mB 1 (s2 := (d + 2, 154, 18, [some (.ref 34), some (.int 17), some (.int 5), some (.int 0)], [.int 32, .int (I 41 22)], 0, 0, (mSH, (mUp I 34 12 (nI a1)), L))) rfl ?_
            refine mBT (s2 := (d + 2, 154, 58, [some (.ref 34), some (.int 17), some (.int 5), some (.int 0)], [], 0, 0, (mSH, (mUp I 34 12 (nI a1)), L))) rfl (by first | (simp only [f41_0, f41_1, f41_2, f41_3, f41_4, f41_5, f41_6, f41_7, f41_8, f41_9, f41_10, f41_11, f41_12, f41_13, f41_14, f41_15, f41_16, f41_17, f41_18, f41_19, f41_20, f41_21, f41_22]; first | decide | rfl) | decide | rfl) ?_
            refine mB 1 (s2 := (d + 2, 154, 59, [some (.ref 34), some (.int 17), some (.int 5), some (.int 0)], [.int 0], 0, 0, (mSH, (mUp I 34 12 (nI a1)), L))) rfl ?_
            refine mBT (s2 := (d + 2, 154, 86, [some (.ref 34), some (.int 17), some (.int 5), some (.int 0)], [], 0, 0, (mSH, (mUp I 34 12 (nI a1)), L))) rfl (by decide) ?_
            refine mB 6 (s2 := (d + 2, 154, 94, [some (.ref 34), some (.int 17), some (.int 5), some (.int 0)], [.int 0, .int (nI a1), .ref 34], 0, 0, (mSH, (mUp I 34 12 (nI a1)), L))) rfl ?_
            refine mBT (s2 := (d + 2, 154, 101, [some (.ref 34), some (.int 17), some (.int 5), some (.int 0)], [.int (nI a1), .ref 34], 0, 0, (mSH, (mUp I 34 12 (nI a1)), L))) rfl (by decide) ?_
            refine mB 4 (s2 := (d + 2, 154, 107, [some (.ref 34), some (.int 17), some (.int 5), some (.int 0)], [.int 0], 0, 0, (mSH, (mUp (mUp I 34 12 (nI a1)) 34 12 ((nI a1) + 0)), L))) rfl ?_
            refine mRt (r := (some (.int 0))) (h := (mSH, (mUp (mUp I 34 12 (nI a1)) 34 12 ((nI a1) + 0)), L)) rfl rfl ?_
            exact mWq q0 hla1 (nI_add a1 0) (by omega)
          · intro l4
            show mWP mTb_ mFT ro (d + 2, 154, 35, [some (.ref 34), some (.int 17), some (.int 2), some (.int 1)], [.int (I 40 (a1 + 2))], 0, 0, (mSH, (mUp I 34 12 (nI a1)), L)) _
            refine mB 5 (s2 := (d + 2, 154, 42, [some (.ref 34), some (.int 17), some (.int 2), some (.int 1)], [.int 19, .ref 41, .int (I 40 (a1 + 2))], 0, 0, (mSH, (mUp I 34 12 (nI a1)), L))) rfl ?_
            refine mRq (s2 := (d + 2, 154, 43, [some (.ref 34), some (.int 17), some (.int 2), some (.int 1)], [.int (I 41 19), .int (I 40 (a1 + 2))], 0, 0, (mSH, (mUp I 34 12 (nI a1)), L))) rfl (by decide) ?_
            refine mBr (s2 := (d + 2, 154, 46, [some (.ref 34), some (.int 17), some (.int 2), some (.int 1)], [], 0, 0, (mSH, (mUp I 34 12 (nI a1)), L))) (s3 := (d + 2, 154, 50, [some (.ref 34), some (.int 17), some (.int 2), some (.int 1)], [], 0, 0, (mSH, (mUp I 34 12 (nI a1)), L))) rfl (fun c3 => ?_) (fun c3 => ?_)
            · refine mB 10 (s2 := (d + 2, 154, 15, [some (.ref 34), some (.int 17), some (.int 3), some (.int 1)], [.int 20, .ref 41], 0, 0, (mSH, (mUp I 34 12 (nI a1)), L))) rfl ?_
              refine mRq (s2 := (d + 2, 154, 16, [some (.ref 34), some (.int 17), some (.int 3), some (.int 1)], [.int (I 41 20)], 0, 0, (mSH, (mUp I 34 12 (nI a1)), L))) rfl (by decide) ?_
              refine mB 1 (s2 := (d + 2, 154, 18, [some (.ref 34), some (.int 17), some (.int 3), some (.int 1)], [.int 32, .int (I 41 20)], 0, 0, (mSH, (mUp I 34 12 (nI a1)), L))) rfl ?_
              refine mBF (s3 := (d + 2, 154, 21, [some (.ref 34), some (.int 17), some (.int 3), some (.int 1)], [], 0, 0, (mSH, (mUp I 34 12 (nI a1)), L))) rfl (by first | (simp only [f41_0, f41_1, f41_2, f41_3, f41_4, f41_5, f41_6, f41_7, f41_8, f41_9, f41_10, f41_11, f41_12, f41_13, f41_14, f41_15, f41_16, f41_17, f41_18, f41_19, f41_20, f41_21, f41_22]; first | decide | rfl) | decide | rfl) ?_
              refine mB 1 (s2 := (d + 2, 154, 22, [some (.ref 34), some (.int 17), some (.int 3), some (.int 1)], [.int 1], 0, 0, (mSH, (mUp I 34 12 (nI a1)), L))) rfl ?_
              refine mBF (s3 := (d + 2, 154, 25, [some (.ref 34), some (.int 17), some (.int 3), some (.int 1)], [], 0, 0, (mSH, (mUp I 34 12 (nI a1)), L))) rfl (by decide) ?_
              refine mB 5 (s2 := (d + 2, 154, 32, [some (.ref 34), some (.int 17), some (.int 3), some (.int 1)], [.int ((nI a1) + 3), .ref 34], 0, 0, (mSH, (mUp I 34 12 (nI a1)), L))) rfl ?_
              refine mCall (s2 := (d + 1, 151, 0, [some (.ref 34), some (.int ((nI a1) + 3))], [], 0, 0, (mSH, (mUp I 34 12 (nI a1)), L))) rfl ?_
              refine w_byte (k := a1 + 3) (hm) (nI_add a1 3) (by omega) ?_ ?_
              · show mWP mTb_ mFT ro (d + 2, 154, 35, [some (.ref 34), some (.int 17), some (.int 3), some (.int 1)], [.int (-1)], 0, 0, (mSH, (mUp I 34 12 (nI a1)), L)) _
                refine mB 5 (s2 := (d + 2, 154, 42, [some (.ref 34), some (.int 17), some (.int 3), some (.int 1)], [.int 20, .ref 41, .int (-1)], 0, 0, (mSH, (mUp I 34 12 (nI a1)), L))) rfl ?_
                refine mRq (s2 := (d + 2, 154, 43, [some (.ref 34), some (.int 17), some (.int 3), some (.int 1)], [.int (I 41 20), .int (-1)], 0, 0, (mSH, (mUp I 34 12 (nI a1)), L))) rfl (by decide) ?_
                refine mBF (s3 := (d + 2, 154, 50, [some (.ref 34), some (.int 17), some (.int 3), some (.int 1)], [], 0, 0, (mSH, (mUp I 34 12 (nI a1)), L))) rfl (by first | (simp only [f41_0, f41_1, f41_2, f41_3, f41_4, f41_5, f41_6, f41_7, f41_8, f41_9, f41_10, f41_11, f41_12, f41_13, f41_14, f41_15, f41_16, f41_17, f41_18, f41_19, f41_20, f41_21, f41_22]; first | decide | rfl) | decide | rfl) ?_
                refine mB 9 (s2 := (d + 2, 154, 15, [some (.ref 34), some (.int 17), some (.int 4), some (.int 0)], [.int 21, .ref 41], 0, 0, (mSH, (mUp I 34 12 (nI a1)), L))) rfl ?_
                refine mRq (s2 := (d + 2, 154, 16, [some (.ref 34), some (.int 17), some (.int 4), some (.int 0)], [.int (I 41 21)], 0, 0, (mSH, (mUp I 34 12 (nI a1)), L))) rfl (by decide) ?_
                refine mB 1 (s2 := (d + 2, 154, 18, [some (.ref 34), some (.int 17), some (.int 4), some (.int 0)], [.int 32, .int (I 41 21)], 0, 0, (mSH, (mUp I 34 12 (nI a1)), L))) rfl ?_
                refine mBF (s3 := (d + 2, 154, 21, [some (.ref 34), some (.int 17), some (.int 4), some (.int 0)], [], 0, 0, (mSH, (mUp I 34 12 (nI a1)), L))) rfl (by first | (simp only [f41_0, f41_1, f41_2, f41_3, f41_4, f41_5, f41_6, f41_7, f41_8, f41_9, f41_10, f41_11, f41_12, f41_13, f41_14, f41_15, f41_16, f41_17, f41_18, f41_19, f41_20, f41_21, f41_22]; first | decide | rfl) | decide | rfl) ?_
                refine mB 1 (s2 := (d + 2, 154, 22, [some (.ref 34), some (.int 17), some (.int 4), some (.int 0)], [.int 0], 0, 0, (mSH, (mUp I 34 12 (nI a1)), L))) rfl ?_
                refine mBT (s2 := (d + 2, 154, 50, [some (.ref 34), some (.int 17), some (.int 4), some (.int 0)], [], 0, 0, (mSH, (mUp I 34 12 (nI a1)), L))) rfl (by decide) ?_
                refine mB 9 (s2 := (d + 2, 154, 15, [some (.ref 34), some (.int 17), some (.int 5), some (.int 0)], [.int 22, .ref 41], 0, 0, (mSH, (mUp I 34 12 (nI a1)), L))) rfl ?_
                refine mRq (s2 := (d + 2, 154, 16, [some (.ref 34), some (.int 17), some (.int 5), some (.int 0)], [.int (I 41 22)], 0, 0, (mSH, (mUp I 34 12 (nI a1)), L))) rfl (by decide) ?_
                refine mB 1 (s2 := (d + 2, 154, 18, [some (.ref 34), some (.int 17), some (.int 5), some (.int 0)], [.int 32, .int (I 41 22)], 0, 0, (mSH, (mUp I 34 12 (nI a1)), L))) rfl ?_
                refine mBT (s2 := (d + 2, 154, 58, [some (.ref 34), some (.int 17), some (.int 5), some (.int 0)], [], 0, 0, (mSH, (mUp I 34 12 (nI a1)), L))) rfl (by first | (simp only [f41_0, f41_1, f41_2, f41_3, f41_4, f41_5, f41_6, f41_7, f41_8, f41_9, f41_10, f41_11, f41_12, f41_13, f41_14, f41_15, f41_16, f41_17, f41_18, f41_19, f41_20, f41_21, f41_22]; first | decide | rfl) | decide | rfl) ?_
                refine mB 1 (s2 := (d + 2, 154, 59, [some (.ref 34), some (.int 17), some (.int 5), some (.int 0)], [.int 0], 0, 0, (mSH, (mUp I 34 12 (nI a1)), L))) rfl ?_
                refine mBT (s2 := (d + 2, 154, 86, [some (.ref 34), some (.int 17), some (.int 5), some (.int 0)], [], 0, 0, (mSH, (mUp I 34 12 (nI a1)), L))) rfl (by decide) ?_
                refine mB 6 (s2 := (d + 2, 154, 94, [some (.ref 34), some (.int 17), some (.int 5), some (.int 0)], [.int 0, .int (nI a1), .ref 34], 0, 0, (mSH, (mUp I 34 12 (nI a1)), L))) rfl ?_
                refine mBT (s2 := (d + 2, 154, 101, [some (.ref 34), some (.int 17), some (.int 5), some (.int 0)], [.int (nI a1), .ref 34], 0, 0, (mSH, (mUp I 34 12 (nI a1)), L))) rfl (by decide) ?_
                refine mB 4 (s2 := (d + 2, 154, 107, [some (.ref 34), some (.int 17), some (.int 5), some (.int 0)], [.int 0], 0, 0, (mSH, (mUp (mUp I 34 12 (nI a1)) 34 12 ((nI a1) + 0)), L))) rfl ?_
                refine mRt (r := (some (.int 0))) (h := (mSH, (mUp (mUp I 34 12 (nI a1)) 34 12 ((nI a1) + 0)), L)) rfl rfl ?_
                exact mWq q0 hla1 (nI_add a1 0) (by omega)
              · intro l5
                show mWP mTb_ mFT ro (d + 2, 154, 35, [some (.ref 34), some (.int 17), some (.int 3), some (.int 1)], [.int (I 40 (a1 + 3))], 0, 0, (mSH, (mUp I 34 12 (nI a1)), L)) _
                refine mB 5 (s2 := (d + 2, 154, 42, [some (.ref 34), some (.int 17), some (.int 3), some (.int 1)], [.int 20, .ref 41, .int (I 40 (a1 + 3))], 0, 0, (mSH, (mUp I 34 12 (nI a1)), L))) rfl ?_
                refine mRq (s2 := (d + 2, 154, 43, [some (.ref 34), some (.int 17), some (.int 3), some (.int 1)], [.int (I 41 20), .int (I 40 (a1 + 3))], 0, 0, (mSH, (mUp I 34 12 (nI a1)), L))) rfl (by decide) ?_
                refine mBr (s2 := (d + 2, 154, 46, [some (.ref 34), some (.int 17), some (.int 3), some (.int 1)], [], 0, 0, (mSH, (mUp I 34 12 (nI a1)), L))) (s3 := (d + 2, 154, 50, [some (.ref 34), some (.int 17), some (.int 3), some (.int 1)], [], 0, 0, (mSH, (mUp I 34 12 (nI a1)), L))) rfl (fun c4 => ?_) (fun c4 => ?_)
                · refine mB 10 (s2 := (d + 2, 154, 15, [some (.ref 34), some (.int 17), some (.int 4), some (.int 1)], [.int 21, .ref 41], 0, 0, (mSH, (mUp I 34 12 (nI a1)), L))) rfl ?_
                  refine mRq (s2 := (d + 2, 154, 16, [some (.ref 34), some (.int 17), some (.int 4), some (.int 1)], [.int (I 41 21)], 0, 0, (mSH, (mUp I 34 12 (nI a1)), L))) rfl (by decide) ?_
                  refine mB 1 (s2 := (d + 2, 154, 18, [some (.ref 34), some (.int 17), some (.int 4), some (.int 1)], [.int 32, .int (I 41 21)], 0, 0, (mSH, (mUp I 34 12 (nI a1)), L))) rfl ?_
                  refine mBF (s3 := (d + 2, 154, 21, [some (.ref 34), some (.int 17), some (.int 4), some (.int 1)], [], 0, 0, (mSH, (mUp I 34 12 (nI a1)), L))) rfl (by first | (simp only [f41_0, f41_1, f41_2, f41_3, f41_4, f41_5, f41_6, f41_7, f41_8, f41_9, f41_10, f41_11, f41_12, f41_13, f41_14, f41_15, f41_16, f41_17, f41_18, f41_19, f41_20, f41_21, f41_22]; first | decide | rfl) | decide | rfl) ?_
                  refine mB 1 (s2 := (d + 2, 154, 22, [some (.ref 34), some (.int 17), some (.int 4), some (.int 1)], [.int 1], 0, 0, (mSH, (mUp I 34 12 (nI a1)), L))) rfl ?_
                  refine mBF (s3 := (d + 2, 154, 25, [some (.ref 34), some (.int 17), some (.int 4), some (.int 1)], [], 0, 0, (mSH, (mUp I 34 12 (nI a1)), L))) rfl (by decide) ?_
                  refine mB 5 (s2 := (d + 2, 154, 32, [some (.ref 34), some (.int 17), some (.int 4), some (.int 1)], [.int ((nI a1) + 4), .ref 34], 0, 0, (mSH, (mUp I 34 12 (nI a1)), L))) rfl ?_
                  refine mCall (s2 := (d + 1, 151, 0, [some (.ref 34), some (.int ((nI a1) + 4))], [], 0, 0, (mSH, (mUp I 34 12 (nI a1)), L))) rfl ?_
                  refine w_byte (k := a1 + 4) (hm) (nI_add a1 4) (by omega) ?_ ?_
                  · show mWP mTb_ mFT ro (d + 2, 154, 35, [some (.ref 34), some (.int 17), some (.int 4), some (.int 1)], [.int (-1)], 0, 0, (mSH, (mUp I 34 12 (nI a1)), L)) _
                    refine mB 5 (s2 := (d + 2, 154, 42, [some (.ref 34), some (.int 17), some (.int 4), some (.int 1)], [.int 21, .ref 41, .int (-1)], 0, 0, (mSH, (mUp I 34 12 (nI a1)), L))) rfl ?_
                    refine mRq (s2 := (d + 2, 154, 43, [some (.ref 34), some (.int 17), some (.int 4), some (.int 1)], [.int (I 41 21), .int (-1)], 0, 0, (mSH, (mUp I 34 12 (nI a1)), L))) rfl (by decide) ?_
                    refine mBF (s3 := (d + 2, 154, 50, [some (.ref 34), some (.int 17), some (.int 4), some (.int 1)], [], 0, 0, (mSH, (mUp I 34 12 (nI a1)), L))) rfl (by first | (simp only [f41_0, f41_1, f41_2, f41_3, f41_4, f41_5, f41_6, f41_7, f41_8, f41_9, f41_10, f41_11, f41_12, f41_13, f41_14, f41_15, f41_16, f41_17, f41_18, f41_19, f41_20, f41_21, f41_22]; first | decide | rfl) | decide | rfl) ?_
                    refine mB 9 (s2 := (d + 2, 154, 15, [some (.ref 34), some (.int 17), some (.int 5), some (.int 0)], [.int 22, .ref 41], 0, 0, (mSH, (mUp I 34 12 (nI a1)), L))) rfl ?_
                    refine mRq (s2 := (d + 2, 154, 16, [some (.ref 34), some (.int 17), some (.int 5), some (.int 0)], [.int (I 41 22)], 0, 0, (mSH, (mUp I 34 12 (nI a1)), L))) rfl (by decide) ?_
                    refine mB 1 (s2 := (d + 2, 154, 18, [some (.ref 34), some (.int 17), some (.int 5), some (.int 0)], [.int 32, .int (I 41 22)], 0, 0, (mSH, (mUp I 34 12 (nI a1)), L))) rfl ?_
                    refine mBT (s2 := (d + 2, 154, 58, [some (.ref 34), some (.int 17), some (.int 5), some (.int 0)], [], 0, 0, (mSH, (mUp I 34 12 (nI a1)), L))) rfl (by first | (simp only [f41_0, f41_1, f41_2, f41_3, f41_4, f41_5, f41_6, f41_7, f41_8, f41_9, f41_10, f41_11, f41_12, f41_13, f41_14, f41_15, f41_16, f41_17, f41_18, f41_19, f41_20, f41_21, f41_22]; first | decide | rfl) | decide | rfl) ?_
                    refine mB 1 (s2 := (d + 2, 154, 59, [some (.ref 34), some (.int 17), some (.int 5), some (.int 0)], [.int 0], 0, 0, (mSH, (mUp I 34 12 (nI a1)), L))) rfl ?_
                    refine mBT (s2 := (d + 2, 154, 86, [some (.ref 34), some (.int 17), some (.int 5), some (.int 0)], [], 0, 0, (mSH, (mUp I 34 12 (nI a1)), L))) rfl (by decide) ?_
                    refine mB 6 (s2 := (d + 2, 154, 94, [some (.ref 34), some (.int 17), some (.int 5), some (.int 0)], [.int 0, .int (nI a1), .ref 34], 0, 0, (mSH, (mUp I 34 12 (nI a1)), L))) rfl ?_
                    refine mBT (s2 := (d + 2, 154, 101, [some (.ref 34), some (.int 17), some (.int 5), some (.int 0)], [.int (nI a1), .ref 34], 0, 0, (mSH, (mUp I 34 12 (nI a1)), L))) rfl (by decide) ?_
                    refine mB 4 (s2 := (d + 2, 154, 107, [some (.ref 34), some (.int 17), some (.int 5), some (.int 0)], [.int 0], 0, 0, (mSH, (mUp (mUp I 34 12 (nI a1)) 34 12 ((nI a1) + 0)), L))) rfl ?_
                    refine mRt (r := (some (.int 0))) (h := (mSH, (mUp (mUp I 34 12 (nI a1)) 34 12 ((nI a1) + 0)), L)) rfl rfl ?_
                    exact mWq q0 hla1 (nI_add a1 0) (by omega)
                  · intro l6
                    show mWP mTb_ mFT ro (d + 2, 154, 35, [some (.ref 34), some (.int 17), some (.int 4), some (.int 1)], [.int (I 40 (a1 + 4))], 0, 0, (mSH, (mUp I 34 12 (nI a1)), L)) _
                    refine mB 5 (s2 := (d + 2, 154, 42, [some (.ref 34), some (.int 17), some (.int 4), some (.int 1)], [.int 21, .ref 41, .int (I 40 (a1 + 4))], 0, 0, (mSH, (mUp I 34 12 (nI a1)), L))) rfl ?_
                    refine mRq (s2 := (d + 2, 154, 43, [some (.ref 34), some (.int 17), some (.int 4), some (.int 1)], [.int (I 41 21), .int (I 40 (a1 + 4))], 0, 0, (mSH, (mUp I 34 12 (nI a1)), L))) rfl (by decide) ?_
                    refine mBr (s2 := (d + 2, 154, 46, [some (.ref 34), some (.int 17), some (.int 4), some (.int 1)], [], 0, 0, (mSH, (mUp I 34 12 (nI a1)), L))) (s3 := (d + 2, 154, 50, [some (.ref 34), some (.int 17), some (.int 4), some (.int 1)], [], 0, 0, (mSH, (mUp I 34 12 (nI a1)), L))) rfl (fun c5 => ?_) (fun c5 => ?_)
                    · refine mB 10 (s2 := (d + 2, 154, 15, [some (.ref 34), some (.int 17), some (.int 5), some (.int 1)], [.int 22, .ref 41], 0, 0, (mSH, (mUp I 34 12 (nI a1)), L))) rfl ?_
                      refine mRq (s2 := (d + 2, 154, 16, [some (.ref 34), some (.int 17), some (.int 5), some (.int 1)], [.int (I 41 22)], 0, 0, (mSH, (mUp I 34 12 (nI a1)), L))) rfl (by decide) ?_
                      refine mB 1 (s2 := (d + 2, 154, 18, [some (.ref 34), some (.int 17), some (.int 5), some (.int 1)], [.int 32, .int (I 41 22)], 0, 0, (mSH, (mUp I 34 12 (nI a1)), L))) rfl ?_
                      refine mBT (s2 := (d + 2, 154, 58, [some (.ref 34), some (.int 17), some (.int 5), some (.int 1)], [], 0, 0, (mSH, (mUp I 34 12 (nI a1)), L))) rfl (by first | (simp only [f41_0, f41_1, f41_2, f41_3, f41_4, f41_5, f41_6, f41_7, f41_8, f41_9, f41_10, f41_11, f41_12, f41_13, f41_14, f41_15, f41_16, f41_17, f41_18, f41_19, f41_20, f41_21, f41_22]; first | decide | rfl) | decide | rfl) ?_
                      refine mB 1 (s2 := (d + 2, 154, 59, [some (.ref 34), some (.int 17), some (.int 5), some (.int 1)], [.int 1], 0, 0, (mSH, (mUp I 34 12 (nI a1)), L))) rfl ?_
                      refine mBF (s3 := (d + 2, 154, 62, [some (.ref 34), some (.int 17), some (.int 5), some (.int 1)], [], 0, 0, (mSH, (mUp I 34 12 (nI a1)), L))) rfl (by decide) ?_
                      refine mB 5 (s2 := (d + 2, 154, 69, [some (.ref 34), some (.int 17), some (.int 5), some (.int 1)], [.int ((nI a1) + 5), .ref 34], 0, 0, (mSH, (mUp I 34 12 (nI a1)), L))) rfl ?_
                      refine mCall (s2 := (d + 1, 151, 0, [some (.ref 34), some (.int ((nI a1) + 5))], [], 0, 0, (mSH, (mUp I 34 12 (nI a1)), L))) rfl ?_
                      refine w_byte (k := a1 + 5) (hm) (nI_add a1 5) (by omega) ?_ ?_
                      · show mWP mTb_ mFT ro (d + 2, 154, 72, [some (.ref 34), some (.int 17), some (.int 5), some (.int 1)], [.int (-1)], 0, 0, (mSH, (mUp I 34 12 (nI a1)), L)) _
                        refine mB 2 (s2 := (d + 2, 154, 76, [some (.ref 34), some (.int 17), some (.int 5), some (.int 1)], [.int 122, .int 97, .int (-1)], 0, 0, (mSH, (mUp I 34 12 (nI a1)), L))) rfl ?_
                        refine mCall (s2 := (d + 1, 112, 0, [some (.int (-1)), some (.int 97), some (.int 122)], [], 0, 0, (mSH, (mUp I 34 12 (nI a1)), L))) rfl ?_
                        refine mB 2 (s2 := (d + 1, 112, 2, [some (.int (-1)), some (.int 97), some (.int 122)], [.int 97, .int (-1)], 0, 0, (mSH, (mUp I 34 12 (nI a1)), L))) rfl ?_
                        refine mBT (s2 := (d + 1, 112, 14, [some (.int (-1)), some (.int 97), some (.int 122)], [], 0, 0, (mSH, (mUp I 34 12 (nI a1)), L))) rfl (by decide) ?_
                        refine mB 1 (s2 := (d + 1, 112, 15, [some (.int (-1)), some (.int 97), some (.int 122)], [.int 0], 0, 0, (mSH, (mUp I 34 12 (nI a1)), L))) rfl ?_
                        refine mRt (r := (some (.int 0))) (h := (mSH, (mUp I 34 12 (nI a1)), L)) rfl rfl ?_
                        show mWP mTb_ mFT ro (d + 2, 154, 79, [some (.ref 34), some (.int 17), some (.int 5), some (.int 1)], [.int 0], 0, 0, (mSH, (mUp I 34 12 (nI a1)), L)) _
                        refine mBT (s2 := (d + 2, 154, 82, [some (.ref 34), some (.int 17), some (.int 5), some (.int 1)], [], 0, 0, (mSH, (mUp I 34 12 (nI a1)), L))) rfl (by decide) ?_
                        refine mB 7 (s2 := (d + 2, 154, 94, [some (.ref 34), some (.int 17), some (.int 5), some (.int 1)], [.int 1, .int (nI a1), .ref 34], 0, 0, (mSH, (mUp I 34 12 (nI a1)), L))) rfl ?_
                        refine mBF (s3 := (d + 2, 154, 97, [some (.ref 34), some (.int 17), some (.int 5), some (.int 1)], [.int (nI a1), .ref 34], 0, 0, (mSH, (mUp I 34 12 (nI a1)), L))) rfl (by decide) ?_
                        refine mB 5 (s2 := (d + 2, 154, 107, [some (.ref 34), some (.int 17), some (.int 5), some (.int 1)], [.int 1], 0, 0, (mSH, (mUp (mUp I 34 12 (nI a1)) 34 12 ((nI a1) + 5)), L))) rfl ?_
                        refine mRt (r := (some (.int 1))) (h := (mSH, (mUp (mUp I 34 12 (nI a1)) 34 12 ((nI a1) + 5)), L)) rfl rfl ?_
                        exact mWq q1 hla1 (nI_add a1 5) (by omega)
                      · intro l7
                        show mWP mTb_ mFT ro (d + 2, 154, 72, [some (.ref 34), some (.int 17), some (.int 5), some (.int 1)], [.int (I 40 (a1 + 5))], 0, 0, (mSH, (mUp I 34 12 (nI a1)), L)) _
                        refine mB 2 (s2 := (d + 2, 154, 76, [some (.ref 34), some (.int 17), some (.int 5), some (.int 1)], [.int 122, .int 97, .int (I 40 (a1 + 5))], 0, 0, (mSH, (mUp I 34 12 (nI a1)), L))) rfl ?_
                        refine mCall (s2 := (d + 1, 112, 0, [some (.int (I 40 (a1 + 5))), some (.int 97), some (.int 122)], [], 0, 0, (mSH, (mUp I 34 12 (nI a1)), L))) rfl ?_
                        refine mB 2 (s2 := (d + 1, 112, 2, [some (.int (I 40 (a1 + 5))), some (.int 97), some (.int 122)], [.int 97, .int (I 40 (a1 + 5))], 0, 0, (mSH, (mUp I 34 12 (nI a1)), L))) rfl ?_
                        refine mBr (s2 := (d + 1, 112, 14, [some (.int (I 40 (a1 + 5))), some (.int 97), some (.int 122)], [], 0, 0, (mSH, (mUp I 34 12 (nI a1)), L))) (s3 := (d + 1, 112, 5, [some (.int (I 40 (a1 + 5))), some (.int 97), some (.int 122)], [], 0, 0, (mSH, (mUp I 34 12 (nI a1)), L))) rfl (fun c6 => ?_) (fun c6 => ?_)
                        · refine mB 1 (s2 := (d + 1, 112, 15, [some (.int (I 40 (a1 + 5))), some (.int 97), some (.int 122)], [.int 0], 0, 0, (mSH, (mUp I 34 12 (nI a1)), L))) rfl ?_
                          refine mRt (r := (some (.int 0))) (h := (mSH, (mUp I 34 12 (nI a1)), L)) rfl rfl ?_
                          show mWP mTb_ mFT ro (d + 2, 154, 79, [some (.ref 34), some (.int 17), some (.int 5), some (.int 1)], [.int 0], 0, 0, (mSH, (mUp I 34 12 (nI a1)), L)) _
                          refine mBT (s2 := (d + 2, 154, 82, [some (.ref 34), some (.int 17), some (.int 5), some (.int 1)], [], 0, 0, (mSH, (mUp I 34 12 (nI a1)), L))) rfl (by decide) ?_
                          refine mB 7 (s2 := (d + 2, 154, 94, [some (.ref 34), some (.int 17), some (.int 5), some (.int 1)], [.int 1, .int (nI a1), .ref 34], 0, 0, (mSH, (mUp I 34 12 (nI a1)), L))) rfl ?_
                          refine mBF (s3 := (d + 2, 154, 97, [some (.ref 34), some (.int 17), some (.int 5), some (.int 1)], [.int (nI a1), .ref 34], 0, 0, (mSH, (mUp I 34 12 (nI a1)), L))) rfl (by decide) ?_
                          refine mB 5 (s2 := (d + 2, 154, 107, [some (.ref 34), some (.int 17), some (.int 5), some (.int 1)], [.int 1], 0, 0, (mSH, (mUp (mUp I 34 12 (nI a1)) 34 12 ((nI a1) + 5)), L))) rfl ?_
                          refine mRt (r := (some (.int 1))) (h := (mSH, (mUp (mUp I 34 12 (nI a1)) 34 12 ((nI a1) + 5)), L)) rfl rfl ?_
                          exact mWq q1 hla1 (nI_add a1 5) (by omega)
                        · refine mB 2 (s2 := (d + 1, 112, 7, [some (.int (I 40 (a1 + 5))), some (.int 97), some (.int 122)], [.int 122, .int (I 40 (a1 + 5))], 0, 0, (mSH, (mUp I 34 12 (nI a1)), L))) rfl ?_
                          refine mBr (s2 := (d + 1, 112, 14, [some (.int (I 40 (a1 + 5))), some (.int 97), some (.int 122)], [], 0, 0, (mSH, (mUp I 34 12 (nI a1)), L))) (s3 := (d + 1, 112, 10, [some (.int (I 40 (a1 + 5))), some (.int 97), some (.int 122)], [], 0, 0, (mSH, (mUp I 34 12 (nI a1)), L))) rfl (fun c7 => ?_) (fun c7 => ?_)
                          · refine mB 1 (s2 := (d + 1, 112, 15, [some (.int (I 40 (a1 + 5))), some (.int 97), some (.int 122)], [.int 0], 0, 0, (mSH, (mUp I 34 12 (nI a1)), L))) rfl ?_
                            refine mRt (r := (some (.int 0))) (h := (mSH, (mUp I 34 12 (nI a1)), L)) rfl rfl ?_
                            show mWP mTb_ mFT ro (d + 2, 154, 79, [some (.ref 34), some (.int 17), some (.int 5), some (.int 1)], [.int 0], 0, 0, (mSH, (mUp I 34 12 (nI a1)), L)) _
                            refine mBT (s2 := (d + 2, 154, 82, [some (.ref 34), some (.int 17), some (.int 5), some (.int 1)], [], 0, 0, (mSH, (mUp I 34 12 (nI a1)), L))) rfl (by decide) ?_
                            refine mB 7 (s2 := (d + 2, 154, 94, [some (.ref 34), some (.int 17), some (.int 5), some (.int 1)], [.int 1, .int (nI a1), .ref 34], 0, 0, (mSH, (mUp I 34 12 (nI a1)), L))) rfl ?_
                            refine mBF (s3 := (d + 2, 154, 97, [some (.ref 34), some (.int 17), some (.int 5), some (.int 1)], [.int (nI a1), .ref 34], 0, 0, (mSH, (mUp I 34 12 (nI a1)), L))) rfl (by decide) ?_
                            refine mB 5 (s2 := (d + 2, 154, 107, [some (.ref 34), some (.int 17), some (.int 5), some (.int 1)], [.int 1], 0, 0, (mSH, (mUp (mUp I 34 12 (nI a1)) 34 12 ((nI a1) + 5)), L))) rfl ?_
                            refine mRt (r := (some (.int 1))) (h := (mSH, (mUp (mUp I 34 12 (nI a1)) 34 12 ((nI a1) + 5)), L)) rfl rfl ?_
                            exact mWq q1 hla1 (nI_add a1 5) (by omega)
                          · refine mB 2 (s2 := (d + 1, 112, 15, [some (.int (I 40 (a1 + 5))), some (.int 97), some (.int 122)], [.int 1], 0, 0, (mSH, (mUp I 34 12 (nI a1)), L))) rfl ?_
                            refine mRt (r := (some (.int 1))) (h := (mSH, (mUp I 34 12 (nI a1)), L)) rfl rfl ?_
                            show mWP mTb_ mFT ro (d + 2, 154, 79, [some (.ref 34), some (.int 17), some (.int 5), some (.int 1)], [.int 1], 0, 0, (mSH, (mUp I 34 12 (nI a1)), L)) _
                            refine mBF (s3 := (d + 2, 154, 86, [some (.ref 34), some (.int 17), some (.int 5), some (.int 1)], [], 0, 0, (mSH, (mUp I 34 12 (nI a1)), L))) rfl (by decide) ?_
                            refine mB 6 (s2 := (d + 2, 154, 94, [some (.ref 34), some (.int 17), some (.int 5), some (.int 0)], [.int 0, .int (nI a1), .ref 34], 0, 0, (mSH, (mUp I 34 12 (nI a1)), L))) rfl ?_
                            refine mBT (s2 := (d + 2, 154, 101, [some (.ref 34), some (.int 17), some (.int 5), some (.int 0)], [.int (nI a1), .ref 34], 0, 0, (mSH, (mUp I 34 12 (nI a1)), L))) rfl (by decide) ?_
                            refine mB 4 (s2 := (d + 2, 154, 107, [some (.ref 34), some (.int 17), some (.int 5), some (.int 0)], [.int 0], 0, 0, (mSH, (mUp (mUp I 34 12 (nI a1)) 34 12 ((nI a1) + 0)), L))) rfl ?_
                            refine mRt (r := (some (.int 0))) (h := (mSH, (mUp (mUp I 34 12 (nI a1)) 34 12 ((nI a1) + 0)), L)) rfl rfl ?_
                            exact mWq q0 hla1 (nI_add a1 0) (by omega)
                    · refine mB 9 (s2 := (d + 2, 154, 15, [some (.ref 34), some (.int 17), some (.int 5), some (.int 0)], [.int 22, .ref 41], 0, 0, (mSH, (mUp I 34 12 (nI a1)), L))) rfl ?_
                      refine mRq (s2 := (d + 2, 154, 16, [some (.ref 34), some (.int 17), some (.int 5), some (.int 0)], [.int (I 41 22)], 0, 0, (mSH, (mUp I 34 12 (nI a1)), L))) rfl (by decide) ?_
                      refine mB 1 (s2 := (d + 2, 154, 18, [some (.ref 34), some (.int 17), some (.int 5), some (.int 0)], [.int 32, .int (I 41 22)], 0, 0, (mSH, (mUp I 34 12 (nI a1)), L))) rfl ?_
                      refine mBT (s2 := (d + 2, 154, 58, [some (.ref 34), some (.int 17), some (.int 5), some (.int 0)], [], 0, 0, (mSH, (mUp I 34 12 (nI a1)), L))) rfl (by first | (simp only [f41_0, f41_1, f41_2, f41_3, f41_4, f41_5, f41_6, f41_7, f41_8, f41_9, f41_10, f41_11, f41_12, f41_13, f41_14, f41_15, f41_16, f41_17, f41_18, f41_19, f41_20, f41_21, f41_22]; first | decide | rfl) | decide | rfl) ?_
                      refine mB 1 (s2 := (d + 2, 154, 59, [some (.ref 34), some (.int 17), some (.int 5), some (.int 0)], [.int 0], 0, 0, (mSH, (mUp I 34 12 (nI a1)), L))) rfl ?_
                      refine mBT (s2 := (d + 2, 154, 86, [some (.ref 34), some (.int 17), some (.int 5), some (.int 0)], [], 0, 0, (mSH, (mUp I 34 12 (nI a1)), L))) rfl (by decide) ?_
                      refine mB 6 (s2 := (d + 2, 154, 94, [some (.ref 34), some (.int 17), some (.int 5), some (.int 0)], [.int 0, .int (nI a1), .ref 34], 0, 0, (mSH, (mUp I 34 12 (nI a1)), L))) rfl ?_
                      refine mBT (s2 := (d + 2, 154, 101, [some (.ref 34), some (.int 17), some (.int 5), some (.int 0)], [.int (nI a1), .ref 34], 0, 0, (mSH, (mUp I 34 12 (nI a1)), L))) rfl (by decide) ?_
                      refine mB 4 (s2 := (d + 2, 154, 107, [some (.ref 34), some (.int 17), some (.int 5), some (.int 0)], [.int 0], 0, 0, (mSH, (mUp (mUp I 34 12 (nI a1)) 34 12 ((nI a1) + 0)), L))) rfl ?_
                      refine mRt (r := (some (.int 0))) (h := (mSH, (mUp (mUp I 34 12 (nI a1)) 34 12 ((nI a1) + 0)), L)) rfl rfl ?_
                      exact mWq q0 hla1 (nI_add a1 0) (by omega)
                · refine mB 9 (s2 := (d + 2, 154, 15, [some (.ref 34), some (.int 17), some (.int 4), some (.int 0)], [.int 21, .ref 41], 0, 0, (mSH, (mUp I 34 12 (nI a1)), L))) rfl ?_
                  refine mRq (s2 := (d + 2, 154, 16, [some (.ref 34), some (.int 17), some (.int 4), some (.int 0)], [.int (I 41 21)], 0, 0, (mSH, (mUp I 34 12 (nI a1)), L))) rfl (by decide) ?_
                  refine mB 1 (s2 := (d + 2, 154, 18, [some (.ref 34), some (.int 17), some (.int 4), some (.int 0)], [.int 32, .int (I 41 21)], 0, 0, (mSH, (mUp I 34 12 (nI a1)), L))) rfl ?_
                  refine mBF (s3 := (d + 2, 154, 21, [some (.ref 34), some (.int 17), some (.int 4), some (.int 0)], [], 0, 0, (mSH, (mUp I 34 12 (nI a1)), L))) rfl (by first | (simp only [f41_0, f41_1, f41_2, f41_3, f41_4, f41_5, f41_6, f41_7, f41_8, f41_9, f41_10, f41_11, f41_12, f41_13, f41_14, f41_15, f41_16, f41_17, f41_18, f41_19, f41_20, f41_21, f41_22]; first | decide | rfl) | decide | rfl) ?_
                  refine mB 1 (s2 := (d + 2, 154, 22, [some (.ref 34), some (.int 17), some (.int 4), some (.int 0)], [.int 0], 0, 0, (mSH, (mUp I 34 12 (nI a1)), L))) rfl ?_
                  refine mBT (s2 := (d + 2, 154, 50, [some (.ref 34), some (.int 17), some (.int 4), some (.int 0)], [], 0, 0, (mSH, (mUp I 34 12 (nI a1)), L))) rfl (by decide) ?_
                  refine mB 9 (s2 := (d + 2, 154, 15, [some (.ref 34), some (.int 17), some (.int 5), some (.int 0)], [.int 22, .ref 41], 0, 0, (mSH, (mUp I 34 12 (nI a1)), L))) rfl ?_
                  refine mRq (s2 := (d + 2, 154, 16, [some (.ref 34), some (.int 17), some (.int 5), some (.int 0)], [.int (I 41 22)], 0, 0, (mSH, (mUp I 34 12 (nI a1)), L))) rfl (by decide) ?_
                  refine mB 1 (s2 := (d + 2, 154, 18, [some (.ref 34), some (.int 17), some (.int 5), some (.int 0)], [.int 32, .int (I 41 22)], 0, 0, (mSH, (mUp I 34 12 (nI a1)), L))) rfl ?_
                  refine mBT (s2 := (d + 2, 154, 58, [some (.ref 34), some (.int 17), some (.int 5), some (.int 0)], [], 0, 0, (mSH, (mUp I 34 12 (nI a1)), L))) rfl (by first | (simp only [f41_0, f41_1, f41_2, f41_3, f41_4, f41_5, f41_6, f41_7, f41_8, f41_9, f41_10, f41_11, f41_12, f41_13, f41_14, f41_15, f41_16, f41_17, f41_18, f41_19, f41_20, f41_21, f41_22]; first | decide | rfl) | decide | rfl) ?_
                  refine mB 1 (s2 := (d + 2, 154, 59, [some (.ref 34), some (.int 17), some (.int 5), some (.int 0)], [.int 0], 0, 0, (mSH, (mUp I 34 12 (nI a1)), L))) rfl ?_
                  refine mBT (s2 := (d + 2, 154, 86, [some (.ref 34), some (.int 17), some (.int 5), some (.int 0)], [], 0, 0, (mSH, (mUp I 34 12 (nI a1)), L))) rfl (by decide) ?_
                  refine mB 6 (s2 := (d + 2, 154, 94, [some (.ref 34), some (.int 17), some (.int 5), some (.int 0)], [.int 0, .int (nI a1), .ref 34], 0, 0, (mSH, (mUp I 34 12 (nI a1)), L))) rfl ?_
                  refine mBT (s2 := (d + 2, 154, 101, [some (.ref 34), some (.int 17), some (.int 5), some (.int 0)], [.int (nI a1), .ref 34], 0, 0, (mSH, (mUp I 34 12 (nI a1)), L))) rfl (by decide) ?_
                  refine mB 4 (s2 := (d + 2, 154, 107, [some (.ref 34), some (.int 17), some (.int 5), some (.int 0)], [.int 0], 0, 0, (mSH, (mUp (mUp I 34 12 (nI a1)) 34 12 ((nI a1) + 0)), L))) rfl ?_
                  refine mRt (r := (some (.int 0))) (h := (mSH, (mUp (mUp I 34 12 (nI a1)) 34 12 ((nI a1) + 0)), L)) rfl rfl ?_
                  exact mWq q0 hla1 (nI_add a1 0) (by omega)
            · refine mB 9 (s2 := (d + 2, 154, 15, [some (.ref 34), some (.int 17), some (.int 3), some (.int 0)], [.int 20, .ref 41], 0, 0, (mSH, (mUp I 34 12 (nI a1)), L))) rfl ?_
              refine mRq (s2 := (d + 2, 154, 16, [some (.ref 34), some (.int 17), some (.int 3), some (.int 0)], [.int (I 41 20)], 0, 0, (mSH, (mUp I 34 12 (nI a1)), L))) rfl (by decide) ?_
              refine mB 1 (s2 := (d + 2, 154, 18, [some (.ref 34), some (.int 17), some (.int 3), some (.int 0)], [.int 32, .int (I 41 20)], 0, 0, (mSH, (mUp I 34 12 (nI a1)), L))) rfl ?_
              refine mBF (s3 := (d + 2, 154, 21, [some (.ref 34), some (.int 17), some (.int 3), some (.int 0)], [], 0, 0, (mSH, (mUp I 34 12 (nI a1)), L))) rfl (by first | (simp only [f41_0, f41_1, f41_2, f41_3, f41_4, f41_5, f41_6, f41_7, f41_8, f41_9, f41_10, f41_11, f41_12, f41_13, f41_14, f41_15, f41_16, f41_17, f41_18, f41_19, f41_20, f41_21, f41_22]; first | decide | rfl) | decide | rfl) ?_
              refine mB 1 (s2 := (d + 2, 154, 22, [some (.ref 34), some (.int 17), some (.int 3), some (.int 0)], [.int 0], 0, 0, (mSH, (mUp I 34 12 (nI a1)), L))) rfl ?_
              refine mBT (s2 := (d + 2, 154, 50, [some (.ref 34), some (.int 17), some (.int 3), some (.int 0)], [], 0, 0, (mSH, (mUp I 34 12 (nI a1)), L))) rfl (by decide) ?_
              refine mB 9 (s2 := (d + 2, 154, 15, [some (.ref 34), some (.int 17), some (.int 4), some (.int 0)], [.int 21, .ref 41], 0, 0, (mSH, (mUp I 34 12 (nI a1)), L))) rfl ?_
              refine mRq (s2 := (d + 2, 154, 16, [some (.ref 34), some (.int 17), some (.int 4), some (.int 0)], [.int (I 41 21)], 0, 0, (mSH, (mUp I 34 12 (nI a1)), L))) rfl (by decide) ?_
              refine mB 1 (s2 := (d + 2, 154, 18, [some (.ref 34), some (.int 17), some (.int 4), some (.int 0)], [.int 32, .int (I 41 21)], 0, 0, (mSH, (mUp I 34 12 (nI a1)), L))) rfl ?_
              refine mBF (s3 := (d + 2, 154, 21, [some (.ref 34), some (.int 17), some (.int 4), some (.int 0)], [], 0, 0, (mSH, (mUp I 34 12 (nI a1)), L))) rfl (by first | (simp only [f41_0, f41_1, f41_2, f41_3, f41_4, f41_5, f41_6, f41_7, f41_8, f41_9, f41_10, f41_11, f41_12, f41_13, f41_14, f41_15, f41_16, f41_17, f41_18, f41_19, f41_20, f41_21, f41_22]; first | decide | rfl) | decide | rfl) ?_
              refine mB 1 (s2 := (d + 2, 154, 22, [some (.ref 34), some (.int 17), some (.int 4), some (.int 0)], [.int 0], 0, 0, (mSH, (mUp I 34 12 (nI a1)), L))) rfl ?_
              refine mBT (s2 := (d + 2, 154, 50, [some (.ref 34), some (.int 17), some (.int 4), some (.int 0)], [], 0, 0, (mSH, (mUp I 34 12 (nI a1)), L))) rfl (by decide) ?_
              refine mB 9 (s2 := (d + 2, 154, 15, [some (.ref 34), some (.int 17), some (.int 5), some (.int 0)], [.int 22, .ref 41], 0, 0, (mSH, (mUp I 34 12 (nI a1)), L))) rfl ?_
              refine mRq (s2 := (d + 2, 154, 16, [some (.ref 34), some (.int 17), some (.int 5), some (.int 0)], [.int (I 41 22)], 0, 0, (mSH, (mUp I 34 12 (nI a1)), L))) rfl (by decide) ?_
              refine mB 1 (s2 := (d + 2, 154, 18, [some (.ref 34), some (.int 17), some (.int 5), some (.int 0)], [.int 32, .int (I 41 22)], 0, 0, (mSH, (mUp I 34 12 (nI a1)), L))) rfl ?_
              refine mBT (s2 := (d + 2, 154, 58, [some (.ref 34), some (.int 17), some (.int 5), some (.int 0)], [], 0, 0, (mSH, (mUp I 34 12 (nI a1)), L))) rfl (by first | (simp only [f41_0, f41_1, f41_2, f41_3, f41_4, f41_5, f41_6, f41_7, f41_8, f41_9, f41_10, f41_11, f41_12, f41_13, f41_14, f41_15, f41_16, f41_17, f41_18, f41_19, f41_20, f41_21, f41_22]; first | decide | rfl) | decide | rfl) ?_
              refine mB 1 (s2 := (d + 2, 154, 59, [some (.ref 34), some (.int 17), some (.int 5), some (.int 0)], [.int 0], 0, 0, (mSH, (mUp I 34 12 (nI a1)), L))) rfl ?_
              refine mBT (s2 := (d + 2, 154, 86, [some (.ref 34), some (.int 17), some (.int 5), some (.int 0)], [], 0, 0, (mSH, (mUp I 34 12 (nI a1)), L))) rfl (by decide) ?_
              refine mB 6 (s2 := (d + 2, 154, 94, [some (.ref 34), some (.int 17), some (.int 5), some (.int 0)], [.int 0, .int (nI a1), .ref 34], 0, 0, (mSH, (mUp I 34 12 (nI a1)), L))) rfl ?_
              refine mBT (s2 := (d + 2, 154, 101, [some (.ref 34), some (.int 17), some (.int 5), some (.int 0)], [.int (nI a1), .ref 34], 0, 0, (mSH, (mUp I 34 12 (nI a1)), L))) rfl (by decide) ?_
              refine mB 4 (s2 := (d + 2, 154, 107, [some (.ref 34), some (.int 17), some (.int 5), some (.int 0)], [.int 0], 0, 0, (mSH, (mUp (mUp I 34 12 (nI a1)) 34 12 ((nI a1) + 0)), L))) rfl ?_
              refine mRt (r := (some (.int 0))) (h := (mSH, (mUp (mUp I 34 12 (nI a1)) 34 12 ((nI a1) + 0)), L)) rfl rfl ?_
              exact mWq q0 hla1 (nI_add a1 0) (by omega)
        · refine mB 9 (s2 := (d + 2, 154, 15, [some (.ref 34), some (.int 17), some (.int 2), some (.int 0)], [.int 19, .ref 41], 0, 0, (mSH, (mUp I 34 12 (nI a1)), L))) rfl ?_
          refine mRq (s2 := (d + 2, 154, 16, [some (.ref 34), some (.int 17), some (.int 2), some (.int 0)], [.int (I 41 19)], 0, 0, (mSH, (mUp I 34 12 (nI a1)), L))) rfl (by decide) ?_
          refine mB 1 (s2 := (d + 2, 154, 18, [some (.ref 34), some (.int 17), some (.int 2), some (.int 0)], [.int 32, .int (I 41 19)], 0, 0, (mSH, (mUp I 34 12 (nI a1)), L))) rfl ?_
          refine mBF (s3 := (d + 2, 154, 21, [some (.ref 34), some (.int 17), some (.int 2), some (.int 0)], [], 0, 0, (mSH, (mUp I 34 12 (nI a1)), L))) rfl (by first | (simp only [f41_0, f41_1, f41_2, f41_3, f41_4, f41_5, f41_6, f41_7, f41_8, f41_9, f41_10, f41_11, f41_12, f41_13, f41_14, f41_15, f41_16, f41_17, f41_18, f41_19, f41_20, f41_21, f41_22]; first | decide | rfl) | decide | rfl) ?_
          refine mB 1 (s2 := (d + 2, 154, 22, [some (.ref 34), some (.int 17), some (.int 2), some (.int 0)], [.int 0], 0, 0, (mSH, (mUp I 34 12 (nI a1)), L))) rfl ?_
          refine mBT (s2 := (d + 2, 154, 50, [some (.ref 34), some (.int 17), some (.int 2), some (.int 0)], [], 0, 0, (mSH, (mUp I 34 12 (nI a1)), L))) rfl (by decide) ?_
          refine mB 9 (s2 := (d + 2, 154, 15, [some (.ref 34), some (.int 17), some (.int 3), some (.int 0)], [.int 20, .ref 41], 0, 0, (mSH, (mUp I 34 12 (nI a1)), L))) rfl ?_
          refine mRq (s2 := (d + 2, 154, 16, [some (.ref 34), some (.int 17), some (.int 3), some (.int 0)], [.int (I 41 20)], 0, 0, (mSH, (mUp I 34 12 (nI a1)), L))) rfl (by decide) ?_
          refine mB 1 (s2 := (d + 2, 154, 18, [some (.ref 34), some (.int 17), some (.int 3), some (.int 0)], [.int 32, .int (I 41 20)], 0, 0, (mSH, (mUp I 34 12 (nI a1)), L))) rfl ?_
          refine mBF (s3 := (d + 2, 154, 21, [some (.ref 34), some (.int 17), some (.int 3), some (.int 0)], [], 0, 0, (mSH, (mUp I 34 12 (nI a1)), L))) rfl (by first | (simp only [f41_0, f41_1, f41_2, f41_3, f41_4, f41_5, f41_6, f41_7, f41_8, f41_9, f41_10, f41_11, f41_12, f41_13, f41_14, f41_15, f41_16, f41_17, f41_18, f41_19, f41_20, f41_21, f41_22]; first | decide | rfl) | decide | rfl) ?_
          refine mB 1 (s2 := (d + 2, 154, 22, [some (.ref 34), some (.int 17), some (.int 3), some (.int 0)], [.int 0], 0, 0, (mSH, (mUp I 34 12 (nI a1)), L))) rfl ?_
          refine mBT (s2 := (d + 2, 154, 50, [some (.ref 34), some (.int 17), some (.int 3), some (.int 0)], [], 0, 0, (mSH, (mUp I 34 12 (nI a1)), L))) rfl (by decide) ?_
          refine mB 9 (s2 := (d + 2, 154, 15, [some (.ref 34), some (.int 17), some (.int 4), some (.int 0)], [.int 21, .ref 41], 0, 0, (mSH, (mUp I 34 12 (nI a1)), L))) rfl ?_
          refine mRq (s2 := (d + 2, 154, 16, [some (.ref 34), some (.int 17), some (.int 4), some (.int 0)], [.int (I 41 21)], 0, 0, (mSH, (mUp I 34 12 (nI a1)), L))) rfl (by decide) ?_
          refine mB 1 (s2 := (d + 2, 154, 18, [some (.ref 34), some (.int 17), some (.int 4), some (.int 0)], [.int 32, .int (I 41 21)], 0, 0, (mSH, (mUp I 34 12 (nI a1)), L))) rfl ?_
          refine mBF (s3 := (d + 2, 154, 21, [some (.ref 34), some (.int 17), some (.int 4), some (.int 0)], [], 0, 0, (mSH, (mUp I 34 12 (nI a1)), L))) rfl (by first | (simp only [f41_0, f41_1, f41_2, f41_3, f41_4, f41_5, f41_6, f41_7, f41_8, f41_9, f41_10, f41_11, f41_12, f41_13, f41_14, f41_15, f41_16, f41_17, f41_18, f41_19, f41_20, f41_21, f41_22]; first | decide | rfl) | decide | rfl) ?_
          refine mB 1 (s2 := (d + 2, 154, 22, [some (.ref 34), some (.int 17), some (.int 4), some (.int 0)], [.int 0], 0, 0, (mSH, (mUp I 34 12 (nI a1)), L))) rfl ?_
          refine mBT (s2 := (d + 2, 154, 50, [some (.ref 34), some (.int 17), some (.int 4), some (.int 0)], [], 0, 0, (mSH, (mUp I 34 12 (nI a1)), L))) rfl (by decide) ?_
          refine mB 9 (s2 := (d + 2, 154, 15, [some (.ref 34), some (.int 17), some (.int 5), some (.int 0)], [.int 22, .ref 41], 0, 0, (mSH, (mUp I 34 12 (nI a1)), L))) rfl ?_
          refine mRq (s2 := (d + 2, 154, 16, [some (.ref 34), some (.int 17), some (.int 5), some (.int 0)], [.int (I 41 22)], 0, 0, (mSH, (mUp I 34 12 (nI a1)), L))) rfl (by decide) ?_
          refine mB 1 (s2 := (d + 2, 154, 18, [some (.ref 34), some (.int 17), some (.int 5), some (.int 0)], [.int 32, .int (I 41 22)], 0, 0, (mSH, (mUp I 34 12 (nI a1)), L))) rfl ?_
          refine mBT (s2 := (d + 2, 154, 58, [some (.ref 34), some (.int 17), some (.int 5), some (.int 0)], [], 0, 0, (mSH, (mUp I 34 12 (nI a1)), L))) rfl (by first | (simp only [f41_0, f41_1, f41_2, f41_3, f41_4, f41_5, f41_6, f41_7, f41_8, f41_9, f41_10, f41_11, f41_12, f41_13, f41_14, f41_15, f41_16, f41_17, f41_18, f41_19, f41_20, f41_21, f41_22]; first | decide | rfl) | decide | rfl) ?_
          refine mB 1 (s2 := (d + 2, 154, 59, [some (.ref 34), some (.int 17), some (.int 5), some (.int 0)], [.int 0], 0, 0, (mSH, (mUp I 34 12 (nI a1)), L))) rfl ?_
          refine mBT (s2 := (d + 2, 154, 86, [some (.ref 34), some (.int 17), some (.int 5), some (.int 0)], [], 0, 0, (mSH, (mUp I 34 12 (nI a1)), L))) rfl (by decide) ?_
          refine mB 6 (s2 := (d + 2, 154, 94, [some (.ref 34), some (.int 17), some (.int 5), some (.int 0)], [.int 0, .int (nI a1), .ref 34], 0, 0, (mSH, (mUp I 34 12 (nI a1)), L))) rfl ?_
          refine mBT (s2 := (d + 2, 154, 101, [some (.ref 34), some (.int 17), some (.int 5), some (.int 0)], [.int (nI a1), .ref 34], 0, 0, (mSH, (mUp I 34 12 (nI a1)), L))) rfl (by decide) ?_
          refine mB 4 (s2 := (d + 2, 154, 107, [some (.ref 34), some (.int 17), some (.int 5), some (.int 0)], [.int 0], 0, 0, (mSH, (mUp (mUp I 34 12 (nI a1)) 34 12 ((nI a1) + 0)), L))) rfl ?_
          refine mRt (r := (some (.int 0))) (h := (mSH, (mUp (mUp I 34 12 (nI a1)) 34 12 ((nI a1) + 0)), L)) rfl rfl ?_
          exact mWq q0 hla1 (nI_add a1 0) (by omega)
    · refine mB 9 (s2 := (d + 2, 154, 15, [some (.ref 34), some (.int 17), some (.int 1), some (.int 0)], [.int 18, .ref 41], 0, 0, (mSH, (mUp I 34 12 (nI a1)), L))) rfl ?_
      refine mRq (s2 := (d + 2, 154, 16, [some (.ref 34), some (.int 17), some (.int 1), some (.int 0)], [.int (I 41 18)], 0, 0, (mSH, (mUp I 34 12 (nI a1)), L))) rfl (by decide) ?_
      refine mB 1 (s2 := (d + 2, 154, 18, [some (.ref 34), some (.int 17), some (.int 1), some (.int 0)], [.int 32, .int (I 41 18)], 0, 0, (mSH, (mUp I 34 12 (nI a1)), L))) rfl ?_
      refine mBF (s3 := (d + 2, 154, 21, [some (.ref 34), some (.int 17), some (.int 1), some (.int 0)], [], 0, 0, (mSH, (mUp I 34 12 (nI a1)), L))) rfl (by first | (simp only [f41_0, f41_1, f41_2, f41_3, f41_4, f41_5, f41_6, f41_7, f41_8, f41_9, f41_10, f41_11, f41_12, f41_13, f41_14, f41_15, f41_16, f41_17, f41_18, f41_19, f41_20, f41_21, f41_22]; first | decide | rfl) | decide | rfl) ?_
      refine mB 1 (s2 := (d + 2, 154, 22, [some (.ref 34), some (.int 17), some (.int 1), some (.int 0)], [.int 0], 0, 0, (mSH, (mUp I 34 12 (nI a1)), L))) rfl ?_
      refine mBT (s2 := (d + 2, 154, 50, [some (.ref 34), some (.int 17), some (.int 1), some (.int 0)], [], 0, 0, (mSH, (mUp I 34 12 (nI a1)), L))) rfl (by decide) ?_
      refine mB 9 (s2 := (d + 2, 154, 15, [some (.ref 34), some (.int 17), some (.int 2), some (.int 0)], [.int 19, .ref 41], 0, 0, (mSH, (mUp I 34 12 (nI a1)), L))) rfl ?_
      refine mRq (s2 := (d + 2, 154, 16, [some (.ref 34), some (.int 17), some (.int 2), some (.int 0)], [.int (I 41 19)], 0, 0, (mSH, (mUp I 34 12 (nI a1)), L))) rfl (by decide) ?_
      refine mB 1 (s2 := (d + 2, 154, 18, [some (.ref 34), some (.int 17), some (.int 2), some (.int 0)], [.int 32, .int (I 41 19)], 0, 0, (mSH, (mUp I 34 12 (nI a1)), L))) rfl ?_
      refine mBF (s3 := (d + 2, 154, 21, [some (.ref 34), some (.int 17), some (.int 2), some (.int 0)], [], 0, 0, (mSH, (mUp I 34 12 (nI a1)), L))) rfl (by first | (simp only [f41_0, f41_1, f41_2, f41_3, f41_4, f41_5, f41_6, f41_7, f41_8, f41_9, f41_10, f41_11, f41_12, f41_13, f41_14, f41_15, f41_16, f41_17, f41_18, f41_19, f41_20, f41_21, f41_22]; first | decide | rfl) | decide | rfl) ?_
      refine mB 1 (s2 := (d + 2, 154, 22, [some (.ref 34), some (.int 17), some (.int 2), some (.int 0)], [.int 0], 0, 0, (mSH, (mUp I 34 12 (nI a1)), L))) rfl ?_
      refine mBT (s2 := (d + 2, 154, 50, [some (.ref 34), some (.int 17), some (.int 2), some (.int 0)], [], 0, 0, (mSH, (mUp I 34 12 (nI a1)), L))) rfl (by decide) ?_
      refine mB 9 (s2 := (d + 2, 154, 15, [some (.ref 34), some (.int 17), some (.int 3), some (.int 0)], [.int 20, .ref 41], 0, 0, (mSH, (mUp I 34 12 (nI a1)), L))) rfl ?_
      refine mRq (s2 := (d + 2, 154, 16, [some (.ref 34), some (.int 17), some (.int 3), some (.int 0)], [.int (I 41 20)], 0, 0, (mSH, (mUp I 34 12 (nI a1)), L))) rfl (by decide) ?_
      refine mB 1 (s2 := (d + 2, 154, 18, [some (.ref 34), some (.int 17), some (.int 3), some (.int 0)], [.int 32, .int (I 41 20)], 0, 0, (mSH, (mUp I 34 12 (nI a1)), L))) rfl ?_
      refine mBF (s3 := (d + 2, 154, 21, [some (.ref 34), some (.int 17), some (.int 3), some (.int 0)], [], 0, 0, (mSH, (mUp I 34 12 (nI a1)), L))) rfl (by first | (simp only [f41_0, f41_1, f41_2, f41_3, f41_4, f41_5, f41_6, f41_7, f41_8, f41_9, f41_10, f41_11, f41_12, f41_13, f41_14, f41_15, f41_16, f41_17, f41_18, f41_19, f41_20, f41_21, f41_22]; first | decide | rfl) | decide | rfl) ?_
      refine mB 1 (s2 := (d + 2, 154, 22, [some (.ref 34), some (.int 17), some (.int 3), some (.int 0)], [.int 0], 0, 0, (mSH, (mUp I 34 12 (nI a1)), L))) rfl ?_
      refine mBT (s2 := (d + 2, 154, 50, [some (.ref 34), some (.int 17), some (.int 3), some (.int 0)], [], 0, 0, (mSH, (mUp I 34 12 (nI a1)), L))) rfl (by decide) ?_
      refine mB 9 (s2 := (d + 2, 154, 15, [some (.ref 34), some (.int 17), some (.int 4), some (.int 0)], [.int 21, .ref 41], 0, 0, (mSH, (mUp I 34 12 (nI a1)), L))) rfl ?_
      refine mRq (s2 := (d + 2, 154, 16, [some (.ref 34), some (.int 17), some (.int 4), some (.int 0)], [.int (I 41 21)], 0, 0, (mSH, (mUp I 34 12 (nI a1)), L))) rfl (by decide) ?_
      refine mB 1 (s2 := (d + 2, 154, 18, [some (.ref 34), some (.int 17), some (.int 4), some (.int 0)], [.int 32, .int (I 41 21)], 0, 0, (mSH, (mUp I 34 12 (nI a1)), L))) rfl ?_
      refine mBF (s3 := (d + 2, 154, 21, [some (.ref 34), some (.int 17), some (.int 4), some (.int 0)], [], 0, 0, (mSH, (mUp I 34 12 (nI a1)), L))) rfl (by first | (simp only [f41_0, f41_1, f41_2, f41_3, f41_4, f41_5, f41_6, f41_7, f41_8, f41_9, f41_10, f41_11, f41_12, f41_13, f41_14, f41_15, f41_16, f41_17, f41_18, f41_19, f41_20, f41_21, f41_22]; first | decide | rfl) | decide | rfl) ?_
      refine mB 1 (s2 := (d + 2, 154, 22, [some (.ref 34), some (.int 17), some (.int 4), some (.int 0)], [.int 0], 0, 0, (mSH, (mUp I 34 12 (nI a1)), L))) rfl ?_
      refine mBT (s2 := (d + 2, 154, 50, [some (.ref 34), some (.int 17), some (.int 4), some (.int 0)], [], 0, 0, (mSH, (mUp I 34 12 (nI a1)), L))) rfl (by decide) ?_
      refine mB 9 (s2 := (d + 2, 154, 15, [some (.ref 34), some (.int 17), some (.int 5), some (.int 0)], [.int 22, .ref 41], 0, 0, (mSH, (mUp I 34 12 (nI a1)), L))) rfl ?_
      refine mRq (s2 := (d + 2, 154, 16, [some (.ref 34), some (.int 17), some (.int 5), some (.int 0)], [.int (I 41 22)], 0, 0, (mSH, (mUp I 34 12 (nI a1)), L))) rfl (by decide) ?_
      refine mB 1 (s2 := (d + 2, 154, 18, [some (.ref 34), some (.int 17), some (.int 5), some (.int 0)], [.int 32, .int (I 41 22)], 0, 0, (mSH, (mUp I 34 12 (nI a1)), L))) rfl ?_
      refine mBT (s2 := (d + 2, 154, 58, [some (.ref 34), some (.int 17), some (.int 5), some (.int 0)], [], 0, 0, (mSH, (mUp I 34 12 (nI a1)), L))) rfl (by first | (simp only [f41_0, f41_1, f41_2, f41_3, f41_4, f41_5, f41_6, f41_7, f41_8, f41_9, f41_10, f41_11, f41_12, f41_13, f41_14, f41_15, f41_16, f41_17, f41_18, f41_19, f41_20, f41_21, f41_22]; first | decide | rfl) | decide | rfl) ?_
      refine mB 1 (s2 := (d + 2, 154, 59, [some (.ref 34), some (.int 17), some (.int 5), some (.int 0)], [.int 0], 0, 0, (mSH, (mUp I 34 12 (nI a1)), L))) rfl ?_
      refine mBT (s2 := (d + 2, 154, 86, [some (.ref 34), some (.int 17), some (.int 5), some (.int 0)], [], 0, 0, (mSH, (mUp I 34 12 (nI a1)), L))) rfl (by decide) ?_
      refine mB 6 (s2 := (d + 2, 154, 94, [some (.ref 34), some (.int 17), some (.int 5), some (.int 0)], [.int 0, .int (nI a1), .ref 34], 0, 0, (mSH, (mUp I 34 12 (nI a1)), L))) rfl ?_
      refine mBT (s2 := (d + 2, 154, 101, [some (.ref 34), some (.int 17), some (.int 5), some (.int 0)], [.int (nI a1), .ref 34], 0, 0, (mSH, (mUp I 34 12 (nI a1)), L))) rfl (by decide) ?_
      refine mB 4 (s2 := (d + 2, 154, 107, [some (.ref 34), some (.int 17), some (.int 5), some (.int 0)], [.int 0], 0, 0, (mSH, (mUp (mUp I 34 12 (nI a1)) 34 12 ((nI a1) + 0)), L))) rfl ?_
      refine mRt (r := (some (.int 0))) (h := (mSH, (mUp (mUp I 34 12 (nI a1)) 34 12 ((nI a1) + 0)), L)) rfl rfl ?_
      exact mWq q0 hla1 (nI_add a1 0) (by omega)
