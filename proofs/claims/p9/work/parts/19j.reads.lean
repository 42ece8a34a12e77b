/-! The model reads. Written by a program (wip/mk_c.py). -/
theorem s_rd1 {ro : Nat → Nat × (Nat → Int32)} {Q : mPo} {d : Nat} {I : Nat → Nat → Int32} {L : Nat → Nat → Int64} {p q : Nat} {b : Int32}  (h1 : (b = 0) → mWP mTb_ mFT ro (d + 4, 156, 137, [some (.ref 34), some (.int (nI p)), some (.int b), some (.int (nI q)), some (.int 0)], [], 0, 0, (mSH, (mUp (mUp (mUp I 34 1 (nI p)) 34 3 (nI q)) 34 4 1), L)) Q) (h2 : ¬ (b = 0) → mWP mTb_ mFT ro (d + 4, 156, 137, [some (.ref 34), some (.int (nI p)), some (.int b), some (.int (nI q)), some (.int 0)], [], 0, 0, (mSH, (mUp (mUp (mUp I 34 1 (nI p)) 34 3 (nI q)) 34 4 0), L)) Q) : mWP mTb_ mFT ro (d + 4, 156, 111, [some (.ref 34), some (.int (nI p)), some (.int b), some (.int (nI q)), none], [], 0, 0, (mSH, I, L)) Q := by
  refine mB 8 (s2 := (d + 4, 156, 123, [some (.ref 34), some (.int (nI p)), some (.int b), some (.int (nI q)), none], [.int b, .ref 34], 0, 0, (mSH, (mUp (mUp I 34 1 (nI p)) 34 3 (nI q)), L))) rfl ?_
  refine mBr (s2 := (d + 4, 156, 130, [some (.ref 34), some (.int (nI p)), some (.int b), some (.int (nI q)), none], [.ref 34], 0, 0, (mSH, (mUp (mUp I 34 1 (nI p)) 34 3 (nI q)), L))) (s3 := (d + 4, 156, 126, [some (.ref 34), some (.int (nI p)), some (.int b), some (.int (nI q)), none], [.ref 34], 0, 0, (mSH, (mUp (mUp I 34 1 (nI p)) 34 3 (nI q)), L))) rfl (fun c0 => ?_) (fun c0 => ?_)
  · refine mB 4 (s2 := (d + 4, 156, 137, [some (.ref 34), some (.int (nI p)), some (.int b), some (.int (nI q)), some (.int 0)], [], 0, 0, (mSH, (mUp (mUp (mUp I 34 1 (nI p)) 34 3 (nI q)) 34 4 1), L))) rfl ?_
    exact h1 (of_decide_eq_true c0)
  · refine mB 5 (s2 := (d + 4, 156, 137, [some (.ref 34), some (.int (nI p)), some (.int b), some (.int (nI q)), some (.int 0)], [], 0, 0, (mSH, (mUp (mUp (mUp I 34 1 (nI p)) 34 3 (nI q)) 34 4 0), L))) rfl ?_
    exact h2 (of_decide_eq_false c0)
theorem s_rd2 {ro : Nat → Nat × (Nat → Int32)} {Q : mPo} {d : Nat} {I : Nat → Nat → Int32} {L : Nat → Nat → Int64} {p q k : Nat} {b : Int32}  (h1 : ((nI p) ≤ (nI k)) → mWP mTb_ mFT ro (d + 4, 156, 166, [some (.ref 34), some (.int (nI p)), some (.int b), some (.int (nI q)), some (.int 0)], [], 0, 0, (mSH, I, L)) Q) (h2 : ¬ ((nI p) ≤ (nI k)) → vp_in (nI k) 16) (h3 : ¬ ((nI p) ≤ (nI k)) → vp_in (nI k) 16) (h4 : ¬ ((nI p) ≤ (nI k)) → mWP mTb_ mFT ro (d + 4, 156, 137, [some (.ref 34), some (.int (nI p)), some (.int b), some (.int (nI q)), some (.int ((nI k) + 1))], [], 0, 0, (mSH, (mUp I 35 ((nI k).toNatClampNeg) (I 42 ((nI k).toNatClampNeg))), L)) Q) : mWP mTb_ mFT ro (d + 4, 156, 137, [some (.ref 34), some (.int (nI p)), some (.int b), some (.int (nI q)), some (.int (nI k))], [], 0, 0, (mSH, I, L)) Q := by
  refine mB 2 (s2 := (d + 4, 156, 140, [some (.ref 34), some (.int (nI p)), some (.int b), some (.int (nI q)), some (.int (nI k))], [.int (nI p), .int (nI k)], 0, 0, (mSH, I, L))) rfl ?_
  refine mBr (s2 := (d + 4, 156, 163, [some (.ref 34), some (.int (nI p)), some (.int b), some (.int (nI q)), some (.int (nI k))], [], 0, 0, (mSH, I, L))) (s3 := (d + 4, 156, 143, [some (.ref 34), some (.int (nI p)), some (.int b), some (.int (nI q)), some (.int (nI k))], [], 0, 0, (mSH, I, L))) rfl (fun c0 => ?_) (fun c0 => ?_)
  · refine mB 2 (s2 := (d + 4, 156, 166, [some (.ref 34), some (.int (nI p)), some (.int b), some (.int (nI q)), some (.int 0)], [], 0, 0, (mSH, I, L))) rfl ?_
    exact h1 (of_decide_eq_true c0)
  · refine mB 6 (s2 := (d + 4, 156, 155, [some (.ref 34), some (.int (nI p)), some (.int b), some (.int (nI q)), some (.int (nI k))], [.int (nI k), .ref 42, .int (nI k), .ref 35], 0, 0, (mSH, I, L))) rfl ?_
    refine mRq (s2 := (d + 4, 156, 156, [some (.ref 34), some (.int (nI p)), some (.int b), some (.int (nI q)), some (.int (nI k))], [.int (I 42 ((nI k).toNatClampNeg)), .int (nI k), .ref 35], 0, 0, (mSH, I, L))) rfl (mVp_of (h2 (of_decide_eq_false c0))) ?_
    refine mRq (s2 := (d + 4, 156, 157, [some (.ref 34), some (.int (nI p)), some (.int b), some (.int (nI q)), some (.int (nI k))], [], 0, 0, (mSH, (mUp I 35 ((nI k).toNatClampNeg) (I 42 ((nI k).toNatClampNeg))), L))) rfl (mVp_of (h3 (of_decide_eq_false c0))) ?_
    refine mB 2 (s2 := (d + 4, 156, 137, [some (.ref 34), some (.int (nI p)), some (.int b), some (.int (nI q)), some (.int ((nI k) + 1))], [], 0, 0, (mSH, (mUp I 35 ((nI k).toNatClampNeg) (I 42 ((nI k).toNatClampNeg))), L))) rfl ?_
    exact h4 (of_decide_eq_false c0)
theorem s_rd3 {ro : Nat → Nat × (Nat → Int32)} {Q : mPo} {d : Nat} {I : Nat → Nat → Int32} {L : Nat → Nat → Int64} {p q k : Nat} {b : Int32}  (h1 : ((nI q) ≤ (nI k)) → Q (some (.int ((nI p) + (nI q)))) (mSH, I, L)) (h2 : ¬ ((nI q) ≤ (nI k)) → vp_in (nI k) 8) (h3 : ¬ ((nI q) ≤ (nI k)) → vp_in (nI k) 8) (h4 : ¬ ((nI q) ≤ (nI k)) → mWP mTb_ mFT ro (d + 4, 156, 166, [some (.ref 34), some (.int (nI p)), some (.int b), some (.int (nI q)), some (.int ((nI k) + 1))], [], 0, 0, (mSH, (mUp I 36 ((nI k).toNatClampNeg) (I 43 ((nI k).toNatClampNeg))), L)) Q) : mWP mTb_ mFT ro (d + 4, 156, 166, [some (.ref 34), some (.int (nI p)), some (.int b), some (.int (nI q)), some (.int (nI k))], [], 0, 0, (mSH, I, L)) Q := by
  refine mB 2 (s2 := (d + 4, 156, 169, [some (.ref 34), some (.int (nI p)), some (.int b), some (.int (nI q)), some (.int (nI k))], [.int (nI q), .int (nI k)], 0, 0, (mSH, I, L))) rfl ?_
  refine mBr (s2 := (d + 4, 156, 192, [some (.ref 34), some (.int (nI p)), some (.int b), some (.int (nI q)), some (.int (nI k))], [], 0, 0, (mSH, I, L))) (s3 := (d + 4, 156, 172, [some (.ref 34), some (.int (nI p)), some (.int b), some (.int (nI q)), some (.int (nI k))], [], 0, 0, (mSH, I, L))) rfl (fun c0 => ?_) (fun c0 => ?_)
  · refine mB 3 (s2 := (d + 4, 156, 195, [some (.ref 34), some (.int (nI p)), some (.int b), some (.int (nI q)), some (.int (nI k))], [.int ((nI p) + (nI q))], 0, 0, (mSH, I, L))) rfl ?_
    refine mRt (r := (some (.int ((nI p) + (nI q))))) (h := (mSH, I, L)) rfl (mRet_int rfl) ?_
    exact h1 (of_decide_eq_true c0)
  · refine mB 6 (s2 := (d + 4, 156, 184, [some (.ref 34), some (.int (nI p)), some (.int b), some (.int (nI q)), some (.int (nI k))], [.int (nI k), .ref 43, .int (nI k), .ref 36], 0, 0, (mSH, I, L))) rfl ?_
    refine mRq (s2 := (d + 4, 156, 185, [some (.ref 34), some (.int (nI p)), some (.int b), some (.int (nI q)), some (.int (nI k))], [.int (I 43 ((nI k).toNatClampNeg)), .int (nI k), .ref 36], 0, 0, (mSH, I, L))) rfl (mVp_of (h2 (of_decide_eq_false c0))) ?_
    refine mRq (s2 := (d + 4, 156, 186, [some (.ref 34), some (.int (nI p)), some (.int b), some (.int (nI q)), some (.int (nI k))], [], 0, 0, (mSH, (mUp I 36 ((nI k).toNatClampNeg) (I 43 ((nI k).toNatClampNeg))), L))) rfl (mVp_of (h3 (of_decide_eq_false c0))) ?_
    refine mB 2 (s2 := (d + 4, 156, 166, [some (.ref 34), some (.int (nI p)), some (.int b), some (.int (nI q)), some (.int ((nI k) + 1))], [], 0, 0, (mSH, (mUp I 36 ((nI k).toNatClampNeg) (I 43 ((nI k).toNatClampNeg))), L))) rfl ?_
    exact h4 (of_decide_eq_false c0)
theorem l_rd3 {ro : Nat → Nat × (Nat → Int32)} {Q : mPo} {d : Nat} {L : Nat → Nat → Int64} {p q : Nat} {b : Int32} (hp : p ≤ 16) (hq8 : q ≤ 8) : ∀ (e k : Nat), k + e = q → ∀ I, (∀ j, j < q → mYR (I 43 j)) → (∀ j, j < k → mYR (I 36 j)) → (∀ I1, (∀ c, c ≠ 36 → I1 c = I c) → (∀ j, j < q → mYR (I1 36 j)) → Q (some (.int (nI p + nI q))) (mSH, I1, L)) → mWP mTb_ mFT ro (d + 4, 156, 166, [some (.ref 34), some (.int (nI p)), some (.int b), some (.int (nI q)), some (.int (nI k))], [], 0, 0, (mSH, I, L)) Q := by
  intro e
  induction e with
  | zero =>
    intro k he I h43 h36 hQ
    have e : k = q := by omega
    subst e
    have z : nI k ≤ nI k := nI_le (Nat.le_refl k) (by omega)
    exact s_rd3 (fun _ => hQ I (fun _ _ => rfl) h36) (fun c => absurd z c) (fun c => absurd z c) (fun c => absurd z c)
  | succ e ih =>
    intro k he I h43 h36 hQ
    have z : ¬ nI q ≤ nI k := nI_ge (by omega) (by omega)
    refine s_rd3 (fun c => absurd c z) (fun _ => vp_in_nI (by omega) (by omega)) (fun _ => vp_in_nI (by omega) (by omega)) (fun _ => ?_)
    rw [nI_clamp (by omega), nI_1]
    refine ih (k + 1) (by omega) _ h43 (fun j hj => ?_) (fun I1 g1 g2 => hQ I1 (fun c hc => ?_) g2)
    · rcases Nat.lt_or_ge j k with z | z
      · rw [mUp_oth (by omega)]
        exact h36 j z
      · have e : j = k := by omega
        rw [e, mUp_same]
        exact h43 k (by omega)
    · rw [g1 c hc, mUp_row hc]
theorem l_rd2 {ro : Nat → Nat × (Nat → Int32)} {Q : mPo} {d : Nat} {L : Nat → Nat → Int64} {p q : Nat} {b : Int32} (hp : p ≤ 16) (hq8 : q ≤ 8) : ∀ (e k : Nat), k + e = p → ∀ I, (∀ j, j < p → mYR (I 42 j)) → (∀ j, j < q → mYR (I 43 j)) → (∀ j, j < k → mYR (I 35 j)) → (∀ I1, (∀ c, c ≠ 35 → c ≠ 36 → I1 c = I c) → (∀ j, j < p → mYR (I1 35 j)) → (∀ j, j < q → mYR (I1 36 j)) → Q (some (.int (nI p + nI q))) (mSH, I1, L)) → mWP mTb_ mFT ro (d + 4, 156, 137, [some (.ref 34), some (.int (nI p)), some (.int b), some (.int (nI q)), some (.int (nI k))], [], 0, 0, (mSH, I, L)) Q := by
  intro e
  induction e with
  | zero =>
    intro k he I h42 h43 h35 hQ
    have e : k = p := by omega
    subst e
    have z : nI k ≤ nI k := nI_le (Nat.le_refl k) (by omega)
    refine s_rd2 (fun _ => ?_) (fun c => absurd z c) (fun c => absurd z c) (fun c => absurd z c)
    exact l_rd3 hp hq8 q 0 (by omega) I h43 (fun j hj => absurd hj (Nat.not_lt_zero j)) (fun I1 g1 g2 => hQ I1 (fun c _ hc => g1 c hc) (by rw [g1 35 (by omega)]; exact h35) g2)
  | succ e ih =>
    intro k he I h42 h43 h35 hQ
    have z : ¬ nI p ≤ nI k := nI_ge (by omega) (by omega)
    refine s_rd2 (fun c => absurd c z) (fun _ => vp_in_nI (by omega) (by omega)) (fun _ => vp_in_nI (by omega) (by omega)) (fun _ => ?_)
    rw [nI_clamp (by omega), nI_1]
    refine ih (k + 1) (by omega) _ h42 h43 (fun j hj => ?_) (fun I1 g1 g2 g3 => hQ I1 (fun c hc hd => ?_) g2 g3)
    · rcases Nat.lt_or_ge j k with z | z
      · rw [mUp_oth (by omega)]
        exact h35 j z
      · have e : j = k := by omega
        rw [e, mUp_same]
        exact h42 k (by omega)
    · rw [g1 c hc hd, mUp_row hc]
theorem m_rd1 {ro : Nat → Nat × (Nat → Int32)} {Q : mPo} {d : Nat} {I : Nat → Nat → Int32} {L : Nat → Nat → Int64} {s n t : Nat} {p q : Nat} {b : Int32} (hp : p ≤ 16) (hq8 : q ≤ 8) (hm : mM s n t I) (h42 : ∀ j, j < p → mYR (I 42 j)) (h43 : ∀ j, j < q → mYR (I 43 j)) (hq : ∀ r I1 L1, mTx I I1 → mIM I1 → Q (some (.int r)) (mSH, I1, L1)) : mWP mTb_ mFT ro (d + 4, 156, 111, [some (.ref 34), some (.int (nI p)), some (.int b), some (.int (nI q)), none], [], 0, 0, (mSH, I, L)) Q := by
  have fin : ∀ (w : Int32) I1, (∀ c, c ≠ 35 → c ≠ 36 → I1 c = (mUp (mUp (mUp I 34 1 (nI p)) 34 3 (nI q)) 34 4 w) c) → (∀ j, j < p → mYR (I1 35 j)) → (∀ j, j < q → mYR (I1 36 j)) → Q (some (.int (nI p + nI q))) (mSH, I1, L) := fun w I1 g1 g2 g3 => by
    have g34 := g1 34 (by omega) (by omega)
    refine hq _ I1 L ⟨fun c hc => ?_, ?_, ?_⟩ ⟨p, q, t, ⟨?_, hp⟩, ⟨?_, hq8⟩, ⟨?_, hm.2.2.1.2⟩, g2, fun j hj => ⟨(g3 j hj).1, Int.le_trans (g3 j hj).2 (by omega)⟩, ?_⟩
    · have c34 : c ≠ 34 := mMem_ne hc rfl
      rw [g1 c (mMem_ne hc rfl) (mMem_ne hc rfl), mUp_row c34, mUp_row c34, mUp_row c34]
    · rw [g34]
      rfl
    · rw [g1 38 (by omega) (by omega)]
      rfl
    · rw [g34]
      rfl
    · rw [g34]
      rfl
    · rw [g34]
      exact hm.2.2.1.1
    · rw [g1 41 (by omega) (by omega)]
      exact hm.2.2.2.2.2
  apply s_rd1
  all_goals intros
  all_goals exact l_rd2 hp hq8 p 0 (by omega) _ h42 h43 (fun j hj => absurd hj (Nat.not_lt_zero j)) (fin _)
theorem mTx.tr {I J K : Nat → Nat → Int32} (h : mTx I J) (g : mTx J K) : mTx I K := ⟨fun c hc => (g.1 c hc).trans (h.1 c hc), g.2.1.trans h.2.1, g.2.2.trans h.2.2⟩
theorem m_reads {ro : Nat → Nat × (Nat → Int32)} {Q : mPo} {d : Nat} {I : Nat → Nat → Int32} {L : Nat → Nat → Int64} {s n t : Nat} (hm : mM s n t I) (hq : ∀ r I1 L1, mTx I I1 → mIM I1 → Q (some (.int r)) (mSH, I1, L1))   : mWP mTb_ mFT ro (d + 5, 156, 0, [some (.ref 34), none, none, none, none], [], 0, 0, (mSH, I, L)) Q := by
  refine mB 5 (s2 := (d + 5, 156, 7, [some (.ref 34), none, none, none, none], [.int 0, .ref 34], 0, 0, (mSH, (mUp I 34 12 0), L))) rfl ?_
  refine mCall (s2 := (d + 4, 154, 0, [some (.ref 34), some (.int 0), none, none], [], 0, 0, (mSH, (mUp I 34 12 0), L))) rfl ?_
  refine w_isw_0 (B := 120) (a := 0) (by omega) (by omega) ((mGr.uf (by rfl) mGr.rf).m hm) rfl (Nat.zero_le _) ?_ ?_
  · intro a1 hla1
    show mWP mTb_ mFT ro (d + 5, 156, 10, [some (.ref 34), none, none, none, none], [.int 0], 0, 0, (mSH, (mUp (mUp I 34 12 0) 34 12 (nI a1)), L)) _
    refine mBT (s2 := (d + 5, 156, 26, [some (.ref 34), none, none, none, none], [], 0, 0, (mSH, (mUp (mUp I 34 12 0) 34 12 (nI a1)), L))) rfl (by decide) ?_
    refine mB 3 (s2 := (d + 5, 156, 29, [some (.ref 34), some (.int (-1)), none, none, none], [.int (-1)], 0, 0, (mSH, (mUp (mUp I 34 12 0) 34 12 (nI a1)), L))) rfl ?_
    refine mBT (s2 := (d + 5, 156, 41, [some (.ref 34), some (.int (-1)), none, none, none], [], 0, 0, (mSH, (mUp (mUp I 34 12 0) 34 12 (nI a1)), L))) rfl (by decide) ?_
    refine mB 4 (s2 := (d + 5, 156, 48, [some (.ref 34), some (.int (-1)), none, none, none], [.int ((-10) - (nI a1))], 0, 0, (mSH, (mUp (mUp I 34 12 0) 34 12 (nI a1)), L))) rfl ?_
    refine mRt (r := (some (.int ((-10) - (nI a1))))) (h := (mSH, (mUp (mUp I 34 12 0) 34 12 (nI a1)), L)) rfl (mRet_int rfl) ?_
    exact hq _ _ _ ((mGr.uf (by rfl) (mGr.uf (by rfl) mGr.rf))).x ⟨s, n, t, ((mGr.uf (by rfl) (mGr.uf (by rfl) mGr.rf))).m hm⟩
  · intro a1 hla1
    show mWP mTb_ mFT ro (d + 5, 156, 10, [some (.ref 34), none, none, none, none], [.int 1], 0, 0, (mSH, (mUp (mUp I 34 12 0) 34 12 (nI a1)), L)) _
    refine mBF (s3 := (d + 5, 156, 13, [some (.ref 34), none, none, none, none], [], 0, 0, (mSH, (mUp (mUp I 34 12 0) 34 12 (nI a1)), L))) rfl (by decide) ?_
    refine mB 4 (s2 := (d + 5, 156, 20, [some (.ref 34), none, none, none, none], [.int 16, .ref 42, .ref 34], 0, 0, (mSH, (mUp (mUp I 34 12 0) 34 12 (nI a1)), L))) rfl ?_
    refine mCall (s2 := (d + 4, 155, 0, [some (.ref 34), some (.ref 42), some (.int 16), none], [], 0, 0, (mSH, (mUp (mUp I 34 12 0) 34 12 (nI a1)), L))) rfl ?_
    refine w_ns_42 (B := 125) (a := a1) (by omega) (by omega) ((mGr.uf (by rfl) (mGr.uf (by rfl) mGr.rf)).m hm) rfl (by omega) ?_ ?_
    · intro K2 aK2 nK2 lK2 tK2
      show mWP mTb_ mFT ro (d + 5, 156, 23, [some (.ref 34), none, none, none, none], [.int (-1)], 0, 0, (mSH, K2, L)) _
      refine mB 3 (s2 := (d + 5, 156, 29, [some (.ref 34), some (.int (-1)), none, none, none], [.int (-1)], 0, 0, (mSH, K2, L))) rfl ?_
      refine mBT (s2 := (d + 5, 156, 41, [some (.ref 34), some (.int (-1)), none, none, none], [], 0, 0, (mSH, K2, L))) rfl (by decide) ?_
      refine mB 4 (s2 := (d + 5, 156, 48, [some (.ref 34), some (.int (-1)), none, none, none], [.int ((-10) - (K2 34 12))], 0, 0, (mSH, K2, L))) rfl ?_
      refine mRt (r := (some (.int ((-10) - (K2 34 12))))) (h := (mSH, K2, L)) rfl (mRet_int rfl) ?_
      exact hq _ _ _ ((mGr.nr (by omega) nK2 (mGr.uf (by rfl) (mGr.uf (by rfl) mGr.rf)))).x ⟨s, n, t, ((mGr.nr (by omega) nK2 (mGr.uf (by rfl) (mGr.uf (by rfl) mGr.rf)))).m hm⟩
    · intro K2 aK2 cK2 nK2 lK2 tK2 zK2 yK2
      show mWP mTb_ mFT ro (d + 5, 156, 23, [some (.ref 34), none, none, none, none], [.int (nI cK2)], 0, 0, (mSH, K2, L)) _
      refine mB 3 (s2 := (d + 5, 156, 29, [some (.ref 34), some (.int (nI cK2)), none, none, none], [.int (nI cK2)], 0, 0, (mSH, K2, L))) rfl ?_
      refine mBr (s2 := (d + 5, 156, 41, [some (.ref 34), some (.int (nI cK2)), none, none, none], [], 0, 0, (mSH, K2, L))) (s3 := (d + 5, 156, 32, [some (.ref 34), some (.int (nI cK2)), none, none, none], [], 0, 0, (mSH, K2, L))) rfl (fun c0 => ?_) (fun c0 => ?_)
      · refine mB 4 (s2 := (d + 5, 156, 48, [some (.ref 34), some (.int (nI cK2)), none, none, none], [.int ((-10) - (K2 34 12))], 0, 0, (mSH, K2, L))) rfl ?_
        refine mRt (r := (some (.int ((-10) - (K2 34 12))))) (h := (mSH, K2, L)) rfl (mRet_int rfl) ?_
        exact hq _ _ _ ((mGr.nr (by omega) nK2 (mGr.uf (by rfl) (mGr.uf (by rfl) mGr.rf)))).x ⟨s, n, t, ((mGr.nr (by omega) nK2 (mGr.uf (by rfl) (mGr.uf (by rfl) mGr.rf)))).m hm⟩
      · refine mB 2 (s2 := (d + 5, 156, 35, [some (.ref 34), some (.int (nI cK2)), none, none, none], [.int 6, .ref 34], 0, 0, (mSH, K2, L))) rfl ?_
        refine mCall (s2 := (d + 4, 154, 0, [some (.ref 34), some (.int 6), none, none], [], 0, 0, (mSH, K2, L))) rfl ?_
        refine w_isw_6 (B := 125) (by omega) (by omega) ((mGr.nr (by omega) nK2 (mGr.uf (by rfl) (mGr.uf (by rfl) mGr.rf))).m hm) tK2 (by omega) ?_ ?_
        · intro a3 hla3
          show mWP mTb_ mFT ro (d + 5, 156, 38, [some (.ref 34), some (.int (nI cK2)), none, none, none], [.int 0], 0, 0, (mSH, (mUp K2 34 12 (nI a3)), L)) _
          refine mBT (s2 := (d + 5, 156, 41, [some (.ref 34), some (.int (nI cK2)), none, none, none], [], 0, 0, (mSH, (mUp K2 34 12 (nI a3)), L))) rfl (by decide) ?_
          refine mB 4 (s2 := (d + 5, 156, 48, [some (.ref 34), some (.int (nI cK2)), none, none, none], [.int ((-10) - (nI a3))], 0, 0, (mSH, (mUp K2 34 12 (nI a3)), L))) rfl ?_
          refine mRt (r := (some (.int ((-10) - (nI a3))))) (h := (mSH, (mUp K2 34 12 (nI a3)), L)) rfl (mRet_int rfl) ?_
          exact hq _ _ _ ((mGr.uf (by rfl) (mGr.nr (by omega) nK2 (mGr.uf (by rfl) (mGr.uf (by rfl) mGr.rf))))).x ⟨s, n, t, ((mGr.uf (by rfl) (mGr.nr (by omega) nK2 (mGr.uf (by rfl) (mGr.uf (by rfl) mGr.rf))))).m hm⟩
        · intro a3 hla3
          show mWP mTb_ mFT ro (d + 5, 156, 38, [some (.ref 34), some (.int (nI cK2)), none, none, none], [.int 1], 0, 0, (mSH, (mUp K2 34 12 (nI a3)), L)) _
          refine mBF (s3 := (d + 5, 156, 49, [some (.ref 34), some (.int (nI cK2)), none, none, none], [], 0, 0, (mSH, (mUp K2 34 12 (nI a3)), L))) rfl (by decide) ?_
          refine mB 2 (s2 := (d + 5, 156, 52, [some (.ref 34), some (.int (nI cK2)), none, none, none], [.int 11, .ref 34], 0, 0, (mSH, (mUp K2 34 12 (nI a3)), L))) rfl ?_
          refine mCall (s2 := (d + 4, 154, 0, [some (.ref 34), some (.int 11), none, none], [], 0, 0, (mSH, (mUp K2 34 12 (nI a3)), L))) rfl ?_
          refine w_isw_11 (B := 130) (a := a3) (by omega) (by omega) ((mGr.uf (by rfl) (mGr.nr (by omega) nK2 (mGr.uf (by rfl) (mGr.uf (by rfl) mGr.rf)))).m hm) rfl (by omega) ?_ ?_
          · intro a4 hla4
            show mWP mTb_ mFT ro (d + 5, 156, 55, [some (.ref 34), some (.int (nI cK2)), none, none, none], [.int 0], 0, 0, (mSH, (mUp (mUp K2 34 12 (nI a3)) 34 12 (nI a4)), L)) _
            refine mB 2 (s2 := (d + 5, 156, 57, [some (.ref 34), some (.int (nI cK2)), some (.int 0), none, none], [.int 0], 0, 0, (mSH, (mUp (mUp K2 34 12 (nI a3)) 34 12 (nI a4)), L))) rfl ?_
            refine mBT (s2 := (d + 5, 156, 60, [some (.ref 34), some (.int (nI cK2)), some (.int 0), none, none], [], 0, 0, (mSH, (mUp (mUp K2 34 12 (nI a3)) 34 12 (nI a4)), L))) rfl (by decide) ?_
            refine mB 2 (s2 := (d + 5, 156, 63, [some (.ref 34), some (.int (nI cK2)), some (.int 0), none, none], [.int 17, .ref 34], 0, 0, (mSH, (mUp (mUp K2 34 12 (nI a3)) 34 12 (nI a4)), L))) rfl ?_
            refine mCall (s2 := (d + 4, 154, 0, [some (.ref 34), some (.int 17), none, none], [], 0, 0, (mSH, (mUp (mUp K2 34 12 (nI a3)) 34 12 (nI a4)), L))) rfl ?_
            refine w_isw_17 (B := 135) (a := a4) (by omega) (by omega) ((mGr.uf (by rfl) (mGr.uf (by rfl) (mGr.nr (by omega) nK2 (mGr.uf (by rfl) (mGr.uf (by rfl) mGr.rf))))).m hm) rfl (by omega) ?_ ?_
            · intro a5 hla5
              show mWP mTb_ mFT ro (d + 5, 156, 66, [some (.ref 34), some (.int (nI cK2)), some (.int 0), none, none], [.int 0], 0, 0, (mSH, (mUp (mUp (mUp K2 34 12 (nI a3)) 34 12 (nI a4)) 34 12 (nI a5)), L)) _
              refine mBT (s2 := (d + 5, 156, 82, [some (.ref 34), some (.int (nI cK2)), some (.int 0), none, none], [], 0, 0, (mSH, (mUp (mUp (mUp K2 34 12 (nI a3)) 34 12 (nI a4)) 34 12 (nI a5)), L))) rfl (by decide) ?_
              refine mB 3 (s2 := (d + 5, 156, 85, [some (.ref 34), some (.int (nI cK2)), some (.int 0), some (.int (-1)), none], [.ref 34], 0, 0, (mSH, (mUp (mUp (mUp K2 34 12 (nI a3)) 34 12 (nI a4)) 34 12 (nI a5)), L))) rfl ?_
              refine mCall (s2 := (d + 4, 152, 0, [some (.ref 34)], [], 0, 0, (mSH, (mUp (mUp (mUp K2 34 12 (nI a3)) 34 12 (nI a4)) 34 12 (nI a5)), L))) rfl ?_
              refine w_skips (B := 140) (a := a5) (by omega) (by omega) ((mGr.uf (by rfl) (mGr.uf (by rfl) (mGr.uf (by rfl) (mGr.nr (by omega) nK2 (mGr.uf (by rfl) (mGr.uf (by rfl) mGr.rf)))))).m hm) rfl (by omega) (fun a6 hla6 => ?_)
              show mWP mTb_ mFT ro (d + 5, 156, 88, [some (.ref 34), some (.int (nI cK2)), some (.int 0), some (.int (-1)), none], [], 0, 0, (mSH, (mUp (mUp (mUp (mUp K2 34 12 (nI a3)) 34 12 (nI a4)) 34 12 (nI a5)) 34 12 (nI a6)), L)) _
              refine mB 1 (s2 := (d + 5, 156, 89, [some (.ref 34), some (.int (nI cK2)), some (.int 0), some (.int (-1)), none], [.int (-1)], 0, 0, (mSH, (mUp (mUp (mUp (mUp K2 34 12 (nI a3)) 34 12 (nI a4)) 34 12 (nI a5)) 34 12 (nI a6)), L))) rfl ?_
              refine mBT (s2 := (d + 5, 156, 103, [some (.ref 34), some (.int (nI cK2)), some (.int 0), some (.int (-1)), none], [], 0, 0, (mSH, (mUp (mUp (mUp (mUp K2 34 12 (nI a3)) 34 12 (nI a4)) 34 12 (nI a5)) 34 12 (nI a6)), L))) rfl (by decide) ?_
              refine mB 4 (s2 := (d + 5, 156, 110, [some (.ref 34), some (.int (nI cK2)), some (.int 0), some (.int (-1)), none], [.int ((-10) - (nI a6))], 0, 0, (mSH, (mUp (mUp (mUp (mUp K2 34 12 (nI a3)) 34 12 (nI a4)) 34 12 (nI a5)) 34 12 (nI a6)), L))) rfl ?_
              refine mRt (r := (some (.int ((-10) - (nI a6))))) (h := (mSH, (mUp (mUp (mUp (mUp K2 34 12 (nI a3)) 34 12 (nI a4)) 34 12 (nI a5)) 34 12 (nI a6)), L)) rfl (mRet_int rfl) ?_
              exact hq _ _ _ ((mGr.uf (by rfl) (mGr.uf (by rfl) (mGr.uf (by rfl) (mGr.uf (by rfl) (mGr.nr (by omega) nK2 (mGr.uf (by rfl) (mGr.uf (by rfl) mGr.rf)))))))).x ⟨s, n, t, ((mGr.uf (by rfl) (mGr.uf (by rfl) (mGr.uf (by rfl) (mGr.uf (by rfl) (mGr.nr (by omega) nK2 (mGr.uf (by rfl) (mGr.uf (by rfl) mGr.rf)))))))).m hm⟩
            · intro a5 hla5
              show mWP mTb_ mFT ro (d + 5, 156, 66, [some (.ref 34), some (.int (nI cK2)), some (.int 0), none, none], [.int 1], 0, 0, (mSH, (mUp (mUp (mUp K2 34 12 (nI a3)) 34 12 (nI a4)) 34 12 (nI a5)), L)) _
              refine mBF (s3 := (d + 5, 156, 69, [some (.ref 34), some (.int (nI cK2)), some (.int 0), none, none], [], 0, 0, (mSH, (mUp (mUp (mUp K2 34 12 (nI a3)) 34 12 (nI a4)) 34 12 (nI a5)), L))) rfl (by decide) ?_
              refine mB 4 (s2 := (d + 5, 156, 76, [some (.ref 34), some (.int (nI cK2)), some (.int 0), none, none], [.int 8, .ref 43, .ref 34], 0, 0, (mSH, (mUp (mUp (mUp K2 34 12 (nI a3)) 34 12 (nI a4)) 34 12 (nI a5)), L))) rfl ?_
              refine mCall (s2 := (d + 4, 155, 0, [some (.ref 34), some (.ref 43), some (.int 8), none], [], 0, 0, (mSH, (mUp (mUp (mUp K2 34 12 (nI a3)) 34 12 (nI a4)) 34 12 (nI a5)), L))) rfl ?_
              refine w_ns_43 (B := 140) (a := a5) (by omega) (by omega) ((mGr.uf (by rfl) (mGr.uf (by rfl) (mGr.uf (by rfl) (mGr.nr (by omega) nK2 (mGr.uf (by rfl) (mGr.uf (by rfl) mGr.rf)))))).m hm) rfl (by omega) ?_ ?_
              · intro K7 aK7 nK7 lK7 tK7
                show mWP mTb_ mFT ro (d + 5, 156, 79, [some (.ref 34), some (.int (nI cK2)), some (.int 0), none, none], [.int (-1)], 0, 0, (mSH, K7, L)) _
                refine mB 3 (s2 := (d + 5, 156, 85, [some (.ref 34), some (.int (nI cK2)), some (.int 0), some (.int (-1)), none], [.ref 34], 0, 0, (mSH, K7, L))) rfl ?_
                refine mCall (s2 := (d + 4, 152, 0, [some (.ref 34)], [], 0, 0, (mSH, K7, L))) rfl ?_
                refine w_skips (B := 140) (by omega) (by omega) ((mGr.nr (by omega) nK7 (mGr.uf (by rfl) (mGr.uf (by rfl) (mGr.uf (by rfl) (mGr.nr (by omega) nK2 (mGr.uf (by rfl) (mGr.uf (by rfl) mGr.rf))))))).m hm) tK7 (by omega) (fun a8 hla8 => ?_)
                show mWP mTb_ mFT ro (d + 5, 156, 88, [some (.ref 34), some (.int (nI cK2)), some (.int 0), some (.int (-1)), none], [], 0, 0, (mSH, (mUp K7 34 12 (nI a8)), L)) _
                refine mB 1 (s2 := (d + 5, 156, 89, [some (.ref 34), some (.int (nI cK2)), some (.int 0), some (.int (-1)), none], [.int (-1)], 0, 0, (mSH, (mUp K7 34 12 (nI a8)), L))) rfl ?_
                refine mBT (s2 := (d + 5, 156, 103, [some (.ref 34), some (.int (nI cK2)), some (.int 0), some (.int (-1)), none], [], 0, 0, (mSH, (mUp K7 34 12 (nI a8)), L))) rfl (by decide) ?_
                refine mB 4 (s2 := (d + 5, 156, 110, [some (.ref 34), some (.int (nI cK2)), some (.int 0), some (.int (-1)), none], [.int ((-10) - (nI a8))], 0, 0, (mSH, (mUp K7 34 12 (nI a8)), L))) rfl ?_
                refine mRt (r := (some (.int ((-10) - (nI a8))))) (h := (mSH, (mUp K7 34 12 (nI a8)), L)) rfl (mRet_int rfl) ?_
                exact hq _ _ _ ((mGr.uf (by rfl) (mGr.nr (by omega) nK7 (mGr.uf (by rfl) (mGr.uf (by rfl) (mGr.uf (by rfl) (mGr.nr (by omega) nK2 (mGr.uf (by rfl) (mGr.uf (by rfl) mGr.rf))))))))).x ⟨s, n, t, ((mGr.uf (by rfl) (mGr.nr (by omega) nK7 (mGr.uf (by rfl) (mGr.uf (by rfl) (mGr.uf (by rfl) (mGr.nr (by omega) nK2 (mGr.uf (by rfl) (mGr.uf (by rfl) mGr.rf))))))))).m hm⟩
              · intro K7 aK7 cK7 nK7 lK7 tK7 zK7 yK7
                show mWP mTb_ mFT ro (d + 5, 156, 79, [some (.ref 34), some (.int (nI cK2)), some (.int 0), none, none], [.int (nI cK7)], 0, 0, (mSH, K7, L)) _
                refine mB 3 (s2 := (d + 5, 156, 85, [some (.ref 34), some (.int (nI cK2)), some (.int 0), some (.int (nI cK7)), none], [.ref 34], 0, 0, (mSH, K7, L))) rfl ?_
                refine mCall (s2 := (d + 4, 152, 0, [some (.ref 34)], [], 0, 0, (mSH, K7, L))) rfl ?_
                refine w_skips (B := 140) (by omega) (by omega) ((mGr.nr (by omega) nK7 (mGr.uf (by rfl) (mGr.uf (by rfl) (mGr.uf (by rfl) (mGr.nr (by omega) nK2 (mGr.uf (by rfl) (mGr.uf (by rfl) mGr.rf))))))).m hm) tK7 (by omega) (fun a9 hla9 => ?_)
                show mWP mTb_ mFT ro (d + 5, 156, 88, [some (.ref 34), some (.int (nI cK2)), some (.int 0), some (.int (nI cK7)), none], [], 0, 0, (mSH, (mUp K7 34 12 (nI a9)), L)) _
                refine mB 1 (s2 := (d + 5, 156, 89, [some (.ref 34), some (.int (nI cK2)), some (.int 0), some (.int (nI cK7)), none], [.int (nI cK7)], 0, 0, (mSH, (mUp K7 34 12 (nI a9)), L))) rfl ?_
                refine mBr (s2 := (d + 5, 156, 103, [some (.ref 34), some (.int (nI cK2)), some (.int 0), some (.int (nI cK7)), none], [], 0, 0, (mSH, (mUp K7 34 12 (nI a9)), L))) (s3 := (d + 5, 156, 92, [some (.ref 34), some (.int (nI cK2)), some (.int 0), some (.int (nI cK7)), none], [], 0, 0, (mSH, (mUp K7 34 12 (nI a9)), L))) rfl (fun c2 => ?_) (fun c2 => ?_)
                · refine mB 4 (s2 := (d + 5, 156, 110, [some (.ref 34), some (.int (nI cK2)), some (.int 0), some (.int (nI cK7)), none], [.int ((-10) - (nI a9))], 0, 0, (mSH, (mUp K7 34 12 (nI a9)), L))) rfl ?_
                  refine mRt (r := (some (.int ((-10) - (nI a9))))) (h := (mSH, (mUp K7 34 12 (nI a9)), L)) rfl (mRet_int rfl) ?_
                  exact hq _ _ _ ((mGr.uf (by rfl) (mGr.nr (by omega) nK7 (mGr.uf (by rfl) (mGr.uf (by rfl) (mGr.uf (by rfl) (mGr.nr (by omega) nK2 (mGr.uf (by rfl) (mGr.uf (by rfl) mGr.rf))))))))).x ⟨s, n, t, ((mGr.uf (by rfl) (mGr.nr (by omega) nK7 (mGr.uf (by rfl) (mGr.uf (by rfl) (mGr.uf (by rfl) (mGr.nr (by omega) nK2 (mGr.uf (by rfl) (mGr.uf (by rfl) mGr.rf))))))))).m hm⟩
                · refine mB 4 (s2 := (d + 5, 156, 100, [some (.ref 34), some (.int (nI cK2)), some (.int 0), some (.int (nI cK7)), none], [.int (K7 34 11), .int (nI a9)], 0, 0, (mSH, (mUp K7 34 12 (nI a9)), L))) rfl ?_
                  refine mBr (s2 := (d + 5, 156, 111, [some (.ref 34), some (.int (nI cK2)), some (.int 0), some (.int (nI cK7)), none], [], 0, 0, (mSH, (mUp K7 34 12 (nI a9)), L))) (s3 := (d + 5, 156, 103, [some (.ref 34), some (.int (nI cK2)), some (.int 0), some (.int (nI cK7)), none], [], 0, 0, (mSH, (mUp K7 34 12 (nI a9)), L))) rfl (fun c3 => ?_) (fun c3 => ?_)
                  · exact m_rd1 zK2 zK7 ((mGr.uf (by rfl) (mGr.nr (by omega) nK7 (mGr.uf (by rfl) (mGr.uf (by rfl) (mGr.uf (by rfl) (mGr.nr (by omega) nK2 (mGr.uf (by rfl) (mGr.uf (by rfl) mGr.rf)))))))).m hm) (show ∀ j, j < cK2 → mYR (K7 42 j) from (by rw [nK7.1 42 (by omega) (by omega)]; exact yK2)) yK7 (fun r I1 L1 x y => hq r I1 L1 (mTx.tr ((mGr.uf (by rfl) (mGr.nr (by omega) nK7 (mGr.uf (by rfl) (mGr.uf (by rfl) (mGr.uf (by rfl) (mGr.nr (by omega) nK2 (mGr.uf (by rfl) (mGr.uf (by rfl) mGr.rf))))))))).x x) y)
                  · refine mB 4 (s2 := (d + 5, 156, 110, [some (.ref 34), some (.int (nI cK2)), some (.int 0), some (.int (nI cK7)), none], [.int ((-10) - (nI a9))], 0, 0, (mSH, (mUp K7 34 12 (nI a9)), L))) rfl ?_
                    refine mRt (r := (some (.int ((-10) - (nI a9))))) (h := (mSH, (mUp K7 34 12 (nI a9)), L)) rfl (mRet_int rfl) ?_
                    exact hq _ _ _ ((mGr.uf (by rfl) (mGr.nr (by omega) nK7 (mGr.uf (by rfl) (mGr.uf (by rfl) (mGr.uf (by rfl) (mGr.nr (by omega) nK2 (mGr.uf (by rfl) (mGr.uf (by rfl) mGr.rf))))))))).x ⟨s, n, t, ((mGr.uf (by rfl) (mGr.nr (by omega) nK7 (mGr.uf (by rfl) (mGr.uf (by rfl) (mGr.uf (by rfl) (mGr.nr (by omega) nK2 (mGr.uf (by rfl) (mGr.uf (by rfl) mGr.rf))))))))).m hm⟩
          · intro a4 hla4
            show mWP mTb_ mFT ro (d + 5, 156, 55, [some (.ref 34), some (.int (nI cK2)), none, none, none], [.int 1], 0, 0, (mSH, (mUp (mUp K2 34 12 (nI a3)) 34 12 (nI a4)), L)) _
            refine mB 2 (s2 := (d + 5, 156, 57, [some (.ref 34), some (.int (nI cK2)), some (.int 1), none, none], [.int 1], 0, 0, (mSH, (mUp (mUp K2 34 12 (nI a3)) 34 12 (nI a4)), L))) rfl ?_
            refine mBF (s3 := (d + 5, 156, 69, [some (.ref 34), some (.int (nI cK2)), some (.int 1), none, none], [], 0, 0, (mSH, (mUp (mUp K2 34 12 (nI a3)) 34 12 (nI a4)), L))) rfl (by decide) ?_
            refine mB 4 (s2 := (d + 5, 156, 76, [some (.ref 34), some (.int (nI cK2)), some (.int 1), none, none], [.int 8, .ref 43, .ref 34], 0, 0, (mSH, (mUp (mUp K2 34 12 (nI a3)) 34 12 (nI a4)), L))) rfl ?_
            refine mCall (s2 := (d + 4, 155, 0, [some (.ref 34), some (.ref 43), some (.int 8), none], [], 0, 0, (mSH, (mUp (mUp K2 34 12 (nI a3)) 34 12 (nI a4)), L))) rfl ?_
            refine w_ns_43 (B := 135) (a := a4) (by omega) (by omega) ((mGr.uf (by rfl) (mGr.uf (by rfl) (mGr.nr (by omega) nK2 (mGr.uf (by rfl) (mGr.uf (by rfl) mGr.rf))))).m hm) rfl (by omega) ?_ ?_
            · intro K10 aK10 nK10 lK10 tK10
              show mWP mTb_ mFT ro (d + 5, 156, 79, [some (.ref 34), some (.int (nI cK2)), some (.int 1), none, none], [.int (-1)], 0, 0, (mSH, K10, L)) _
              refine mB 3 (s2 := (d + 5, 156, 85, [some (.ref 34), some (.int (nI cK2)), some (.int 1), some (.int (-1)), none], [.ref 34], 0, 0, (mSH, K10, L))) rfl ?_
              refine mCall (s2 := (d + 4, 152, 0, [some (.ref 34)], [], 0, 0, (mSH, K10, L))) rfl ?_
              refine w_skips (B := 135) (by omega) (by omega) ((mGr.nr (by omega) nK10 (mGr.uf (by rfl) (mGr.uf (by rfl) (mGr.nr (by omega) nK2 (mGr.uf (by rfl) (mGr.uf (by rfl) mGr.rf)))))).m hm) tK10 (by omega) (fun a11 hla11 => ?_)
              show mWP mTb_ mFT ro (d + 5, 156, 88, [some (.ref 34), some (.int (nI cK2)), some (.int 1), some (.int (-1)), none], [], 0, 0, (mSH, (mUp K10 34 12 (nI a11)), L)) _
              refine mB 1 (s2 := (d + 5, 156, 89, [some (.ref 34), some (.int (nI cK2)), some (.int 1), some (.int (-1)), none], [.int (-1)], 0, 0, (mSH, (mUp K10 34 12 (nI a11)), L))) rfl ?_
              refine mBT (s2 := (d + 5, 156, 103, [some (.ref 34), some (.int (nI cK2)), some (.int 1), some (.int (-1)), none], [], 0, 0, (mSH, (mUp K10 34 12 (nI a11)), L))) rfl (by decide) ?_
              refine mB 4 (s2 := (d + 5, 156, 110, [some (.ref 34), some (.int (nI cK2)), some (.int 1), some (.int (-1)), none], [.int ((-10) - (nI a11))], 0, 0, (mSH, (mUp K10 34 12 (nI a11)), L))) rfl ?_
              refine mRt (r := (some (.int ((-10) - (nI a11))))) (h := (mSH, (mUp K10 34 12 (nI a11)), L)) rfl (mRet_int rfl) ?_
              exact hq _ _ _ ((mGr.uf (by rfl) (mGr.nr (by omega) nK10 (mGr.uf (by rfl) (mGr.uf (by rfl) (mGr.nr (by omega) nK2 (mGr.uf (by rfl) (mGr.uf (by rfl) mGr.rf)))))))).x ⟨s, n, t, ((mGr.uf (by rfl) (mGr.nr (by omega) nK10 (mGr.uf (by rfl) (mGr.uf (by rfl) (mGr.nr (by omega) nK2 (mGr.uf (by rfl) (mGr.uf (by rfl) mGr.rf)))))))).m hm⟩
            · intro K10 aK10 cK10 nK10 lK10 tK10 zK10 yK10
              show mWP mTb_ mFT ro (d + 5, 156, 79, [some (.ref 34), some (.int (nI cK2)), some (.int 1), none, none], [.int (nI cK10)], 0, 0, (mSH, K10, L)) _
              refine mB 3 (s2 := (d + 5, 156, 85, [some (.ref 34), some (.int (nI cK2)), some (.int 1), some (.int (nI cK10)), none], [.ref 34], 0, 0, (mSH, K10, L))) rfl ?_
              refine mCall (s2 := (d + 4, 152, 0, [some (.ref 34)], [], 0, 0, (mSH, K10, L))) rfl ?_
              refine w_skips (B := 135) (by omega) (by omega) ((mGr.nr (by omega) nK10 (mGr.uf (by rfl) (mGr.uf (by rfl) (mGr.nr (by omega) nK2 (mGr.uf (by rfl) (mGr.uf (by rfl) mGr.rf)))))).m hm) tK10 (by omega) (fun a12 hla12 => ?_)
              show mWP mTb_ mFT ro (d + 5, 156, 88, [some (.ref 34), some (.int (nI cK2)), some (.int 1), some (.int (nI cK10)), none], [], 0, 0, (mSH, (mUp K10 34 12 (nI a12)), L)) _
              refine mB 1 (s2 := (d + 5, 156, 89, [some (.ref 34), some (.int (nI cK2)), some (.int 1), some (.int (nI cK10)), none], [.int (nI cK10)], 0, 0, (mSH, (mUp K10 34 12 (nI a12)), L))) rfl ?_
              refine mBr (s2 := (d + 5, 156, 103, [some (.ref 34), some (.int (nI cK2)), some (.int 1), some (.int (nI cK10)), none], [], 0, 0, (mSH, (mUp K10 34 12 (nI a12)), L))) (s3 := (d + 5, 156, 92, [some (.ref 34), some (.int (nI cK2)), some (.int 1), some (.int (nI cK10)), none], [], 0, 0, (mSH, (mUp K10 34 12 (nI a12)), L))) rfl (fun c2 => ?_) (fun c2 => ?_)
              · refine mB 4 (s2 := (d + 5, 156, 110, [some (.ref 34), some (.int (nI cK2)), some (.int 1), some (.int (nI cK10)), none], [.int ((-10) - (nI a12))], 0, 0, (mSH, (mUp K10 34 12 (nI a12)), L))) rfl ?_
                refine mRt (r := (some (.int ((-10) - (nI a12))))) (h := (mSH, (mUp K10 34 12 (nI a12)), L)) rfl (mRet_int rfl) ?_
                exact hq _ _ _ ((mGr.uf (by rfl) (mGr.nr (by omega) nK10 (mGr.uf (by rfl) (mGr.uf (by rfl) (mGr.nr (by omega) nK2 (mGr.uf (by rfl) (mGr.uf (by rfl) mGr.rf)))))))).x ⟨s, n, t, ((mGr.uf (by rfl) (mGr.nr (by omega) nK10 (mGr.uf (by rfl) (mGr.uf (by rfl) (mGr.nr (by omega) nK2 (mGr.uf (by rfl) (mGr.uf (by rfl) mGr.rf)))))))).m hm⟩
              · refine mB 4 (s2 := (d + 5, 156, 100, [some (.ref 34), some (.int (nI cK2)), some (.int 1), some (.int (nI cK10)), none], [.int (K10 34 11), .int (nI a12)], 0, 0, (mSH, (mUp K10 34 12 (nI a12)), L))) rfl ?_
                refine mBr (s2 := (d + 5, 156, 111, [some (.ref 34), some (.int (nI cK2)), some (.int 1), some (.int (nI cK10)), none], [], 0, 0, (mSH, (mUp K10 34 12 (nI a12)), L))) (s3 := (d + 5, 156, 103, [some (.ref 34), some (.int (nI cK2)), some (.int 1), some (.int (nI cK10)), none], [], 0, 0, (mSH, (mUp K10 34 12 (nI a12)), L))) rfl (fun c3 => ?_) (fun c3 => ?_)
                · exact m_rd1 zK2 zK10 ((mGr.uf (by rfl) (mGr.nr (by omega) nK10 (mGr.uf (by rfl) (mGr.uf (by rfl) (mGr.nr (by omega) nK2 (mGr.uf (by rfl) (mGr.uf (by rfl) mGr.rf))))))).m hm) (show ∀ j, j < cK2 → mYR (K10 42 j) from (by rw [nK10.1 42 (by omega) (by omega)]; exact yK2)) yK10 (fun r I1 L1 x y => hq r I1 L1 (mTx.tr ((mGr.uf (by rfl) (mGr.nr (by omega) nK10 (mGr.uf (by rfl) (mGr.uf (by rfl) (mGr.nr (by omega) nK2 (mGr.uf (by rfl) (mGr.uf (by rfl) mGr.rf)))))))).x x) y)
                · refine mB 4 (s2 := (d + 5, 156, 110, [some (.ref 34), some (.int (nI cK2)), some (.int 1), some (.int (nI cK10)), none], [.int ((-10) - (nI a12))], 0, 0, (mSH, (mUp K10 34 12 (nI a12)), L))) rfl ?_
                  refine mRt (r := (some (.int ((-10) - (nI a12))))) (h := (mSH, (mUp K10 34 12 (nI a12)), L)) rfl (mRet_int rfl) ?_
                  exact hq _ _ _ ((mGr.uf (by rfl) (mGr.nr (by omega) nK10 (mGr.uf (by rfl) (mGr.uf (by rfl) (mGr.nr (by omega) nK2 (mGr.uf (by rfl) (mGr.uf (by rfl) mGr.rf)))))))).x ⟨s, n, t, ((mGr.uf (by rfl) (mGr.nr (by omega) nK10 (mGr.uf (by rfl) (mGr.uf (by rfl) (mGr.nr (by omega) nK2 (mGr.uf (by rfl) (mGr.uf (by rfl) mGr.rf)))))))).m hm⟩
