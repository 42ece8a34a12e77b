/-! The class reads numbers, exactly. Written by a program (wip/mk_c.py). -/
/-- a row holds a list -/
def xRw (q a : Nat) (l : List Int32) (I : Nat → Nat → Int32) : Prop := I q 1 = nI l.length ∧ ∀ j, j < l.length → I a j = l.getD j 0
theorem xRw.nil {q a : Nat} {I : Nat → Nat → Int32} (h : I q 1 = 0) : xRw q a [] I := ⟨h, fun j hj => absurd hj (Nat.not_lt_zero j)⟩
theorem xRw.app {q a : Nat} {l : List Int32} {I J : Nat → Nat → Int32} {v : Int32} (h : xRw q a l I) (h1 : J q 1 = nI (l.length + 1)) (h2 : J a = mUp I a l.length v a) : xRw q a (l ++ [v]) J := by
  refine ⟨by rw [h1, List.length_append]; rfl, fun j hj => ?_⟩
  rw [List.length_append] at hj
  have hj : j < l.length + 1 := hj
  rw [h2]
  rcases Nat.lt_or_ge j l.length with z | z
  · rw [xUo (by omega), h.2 j z]
    simp only [List.getD_eq_getElem?_getD]
    rw [List.getElem?_append_left z]
  · have e : j = l.length := by omega
    rw [e, xUs]
    simp only [List.getD_eq_getElem?_getD]
    rw [List.getElem?_append_right (Nat.le_refl _), Nat.sub_self]
    rfl
theorem kNum_no {b : Nat → Int32} {t a : Nat} (h : ¬ (kFg b t 200 a = a + 1 ∨ kFg b t 200 a = a + 2)) : kNum b t a = none := if_neg (fun z => h z.1)
theorem kNum_0 {b : Nat → Int32} {t a f : Nat} (e : kFg b t 200 a = a + f) (h : kVal b a f = 0) : kNum b t a = none := if_neg (fun z => z.2 (by rw [e, Nat.add_sub_cancel_left]; exact h))
theorem kNum_1 {b : Nat → Int32} {t a f : Nat} (hf : f = 1 ∨ f = 2) (e : kFg b t 200 a = a + f) (h : ¬ kVal b a f = 0) : kNum b t a = some (kVal b a f, a + f) := by
  unfold kNum
  rw [e, Nat.add_sub_cancel_left, if_pos ⟨by omega, h⟩]
section XN
variable {I : Nat → Nat → Int32} {a E n N : Nat} {x M : Int32}
theorem xNs (hp : I 28 2 = nI a) (hE : a ≤ E) : nI E - I 28 2 = nI (E - a) := by rw [hp, pk_sub hE]
theorem xNa (hp : I 28 2 = nI a) (hE2 : E ≤ 1000) (hE : a ≤ E) (c : nI E - I 28 2 < 1) (h : a + 1 ≤ E) : False := by
  rw [xNs hp hE, Int32.lt_iff_toInt_lt, mLi1, nI_toInt (by omega)] at c
  omega
theorem xNb (hp : I 28 2 = nI a) (hE2 : E ≤ 1000) (hE : a ≤ E) (c : (2 : Int32) < nI E - I 28 2) (h : E ≤ a + 2) : False := by
  rw [xNs hp hE, Int32.lt_iff_toInt_lt, mLi2, nI_toInt (by omega)] at c
  omega
theorem xNe (hp : I 28 2 = nI a) (hE2 : E ≤ 1000) (hE : a ≤ E) (c1 : ¬ nI E - I 28 2 < 1) (c2 : ¬ (2 : Int32) < nI E - I 28 2) : E = a + 1 ∨ E = a + 2 := by
  rw [xNs hp hE, Int32.lt_iff_toInt_lt, mLi1, nI_toInt (by omega)] at c1
  rw [xNs hp hE, Int32.lt_iff_toInt_lt, mLi2, nI_toInt (by omega)] at c2
  omega
theorem xFull (h : x = nI n) (hn : n ≤ N) (hN : N < 2 ^ 31) (c : ¬ x < nI N) : n = N := by
  rw [h, nI_ltI (by omega) hN] at c
  omega
theorem xNfull (h : x = nI n) (hn : n ≤ N) (hN : N < 2 ^ 31) (c : x < nI N) : n < N := by
  rw [h, nI_ltI (by omega) hN] at c
  exact c
theorem x59a (h : x = nI n) (hn : n < 2 ^ 31) (c : x ≤ 0) (z : 0 < n) : False := by
  rw [h] at c
  exact nI_nle z hn c
theorem x59b (h : x = nI n) (c : ¬ x ≤ 0) : 0 < n := by
  rcases Nat.eq_zero_or_pos n with e | e
  · subst e
    exact absurd (by rw [h]; decide) c
  · exact e
end XN
theorem z_numE_30 {ro : Nat → Nat × (Nat → Int32)} {Q : mPo} {d : Nat} {I : Nat → Nat → Int32} {L : Nat → Nat → Int64} {e f s x : Int32}  (h1 : (s = 0) → Q (some (.int 0)) (mSH, I, L)) (h2 : ¬ (s = 0) → ((I 30 1) < 16) → vp_in (I 30 1) 16) (h3 : ¬ (s = 0) → ((I 30 1) < 16) → Q (some (.int 1)) (mSH, (mUp (mUp (mUp I 31 ((I 30 1).toNatClampNeg) s) 30 1 ((I 30 1) + 1)) 28 2 e), L)) (h4 : ¬ (s = 0) → ¬ ((I 30 1) < 16) → Q (some (.int 1)) (mSH, (mUp I 28 2 e), L)) : mWP mTb_ mFT ro (d + 2, 32, 72, [some (.ref 28), some (.ref 30), some (.int e), some (.int f), some (.int s), some (.int x)], [], 0, 0, (mSH, I, L)) Q := by
  refine mB 1 (s2 := (d + 2, 32, 74, [some (.ref 28), some (.ref 30), some (.int e), some (.int f), some (.int s), some (.int x)], [.int s], 0, 0, (mSH, I, L))) rfl ?_
  refine mBr (s2 := (d + 2, 32, 77, [some (.ref 28), some (.ref 30), some (.int e), some (.int f), some (.int s), some (.int x)], [], 0, 0, (mSH, I, L))) (s3 := (d + 2, 32, 79, [some (.ref 28), some (.ref 30), some (.int e), some (.int f), some (.int s), some (.int x)], [], 0, 0, (mSH, I, L))) rfl (fun c0 => ?_) (fun c0 => ?_)
  · refine mB 1 (s2 := (d + 2, 32, 78, [some (.ref 28), some (.ref 30), some (.int e), some (.int f), some (.int s), some (.int x)], [.int 0], 0, 0, (mSH, I, L))) rfl ?_
    refine mRt (r := (some (.int 0))) (h := (mSH, I, L)) rfl rfl ?_
    exact h1 (of_decide_eq_true c0)
  · refine mB 2 (s2 := (d + 2, 32, 82, [some (.ref 28), some (.ref 30), some (.int e), some (.int f), some (.int s), some (.int x)], [.int s, .ref 30], 0, 0, (mSH, I, L))) rfl ?_
    refine mCall (s2 := (d + 1, 44, 0, [some (.ref 30), some (.int s)], [], 0, 0, (mSH, I, L))) rfl ?_
    refine mB 1 (s2 := (d + 1, 44, 1, [some (.ref 30), some (.int s)], [.ref 30], 0, 0, (mSH, I, L))) rfl ?_
    refine mCall (s2 := (d, 40, 0, [some (.ref 30)], [], 0, 0, (mSH, I, L))) rfl ?_
    refine mB 5 (s2 := (d, 40, 9, [some (.ref 30)], [.int 16, .int (I 30 1)], 0, 0, (mSH, I, L))) rfl ?_
    refine mBr (s2 := (d, 40, 16, [some (.ref 30)], [], 0, 0, (mSH, I, L))) (s3 := (d, 40, 12, [some (.ref 30)], [], 0, 0, (mSH, I, L))) rfl (fun c1 => ?_) (fun c1 => ?_)
    · refine mB 1 (s2 := (d, 40, 17, [some (.ref 30)], [.int 0], 0, 0, (mSH, I, L))) rfl ?_
      refine mRt (r := (some (.int 0))) (h := (mSH, I, L)) rfl rfl ?_
      show mWP mTb_ mFT ro (d + 1, 44, 4, [some (.ref 30), some (.int s)], [.int 0], 0, 0, (mSH, I, L)) _
      refine mBT (s2 := (d + 1, 44, 7, [some (.ref 30), some (.int s)], [], 0, 0, (mSH, I, L))) rfl (by decide) ?_
      refine mB 5 (s2 := (d + 1, 44, 16, [some (.ref 30), some (.int s)], [.int s, .int (I 30 1), .ref 31], 0, 0, (mSH, I, L))) rfl ?_
      refine mRq (s2 := (d + 1, 44, 17, [some (.ref 30), some (.int s)], [], 0, 0, (mSH, (mUp I 31 ((I 30 1).toNatClampNeg) s), L))) rfl (mVp_of (h2 (of_decide_eq_false c0) (of_decide_eq_true c1))) ?_
      refine mB 6 (s2 := (d + 1, 44, 27, [some (.ref 30), some (.int s)], [], 0, 0, (mSH, (mUp (mUp I 31 ((I 30 1).toNatClampNeg) s) 30 1 ((I 30 1) + 1)), L))) rfl ?_
      refine mRt (r := none) (h := (mSH, (mUp (mUp I 31 ((I 30 1).toNatClampNeg) s) 30 1 ((I 30 1) + 1)), L)) rfl rfl ?_
      show mWP mTb_ mFT ro (d + 2, 32, 85, [some (.ref 28), some (.ref 30), some (.int e), some (.int f), some (.int s), some (.int x)], [], 0, 0, (mSH, (mUp (mUp I 31 ((I 30 1).toNatClampNeg) s) 30 1 ((I 30 1) + 1)), L)) _
      refine mB 4 (s2 := (d + 2, 32, 91, [some (.ref 28), some (.ref 30), some (.int e), some (.int f), some (.int s), some (.int x)], [.int 1], 0, 0, (mSH, (mUp (mUp (mUp I 31 ((I 30 1).toNatClampNeg) s) 30 1 ((I 30 1) + 1)) 28 2 e), L))) rfl ?_
      refine mRt (r := (some (.int 1))) (h := (mSH, (mUp (mUp (mUp I 31 ((I 30 1).toNatClampNeg) s) 30 1 ((I 30 1) + 1)) 28 2 e), L)) rfl rfl ?_
      exact h3 (of_decide_eq_false c0) (of_decide_eq_true c1)
    · refine mB 2 (s2 := (d, 40, 17, [some (.ref 30)], [.int 1], 0, 0, (mSH, I, L))) rfl ?_
      refine mRt (r := (some (.int 1))) (h := (mSH, I, L)) rfl rfl ?_
      show mWP mTb_ mFT ro (d + 1, 44, 4, [some (.ref 30), some (.int s)], [.int 1], 0, 0, (mSH, I, L)) _
      refine mBF (s3 := (d + 1, 44, 27, [some (.ref 30), some (.int s)], [], 0, 0, (mSH, I, L))) rfl (by decide) ?_
      refine mRt (r := none) (h := (mSH, I, L)) rfl rfl ?_
      show mWP mTb_ mFT ro (d + 2, 32, 85, [some (.ref 28), some (.ref 30), some (.int e), some (.int f), some (.int s), some (.int x)], [], 0, 0, (mSH, I, L)) _
      refine mB 4 (s2 := (d + 2, 32, 91, [some (.ref 28), some (.ref 30), some (.int e), some (.int f), some (.int s), some (.int x)], [.int 1], 0, 0, (mSH, (mUp I 28 2 e), L))) rfl ?_
      refine mRt (r := (some (.int 1))) (h := (mSH, (mUp I 28 2 e), L)) rfl rfl ?_
      exact h4 (of_decide_eq_false c0) (of_decide_eq_false c1)
theorem x_n40_30 {ro : Nat → Nat × (Nat → Int32)} {Q : mPo} {d : Nat} {L : Nat → Nat → Int64} {t : Nat} (h120 : t ≤ 120) {I : Nat → Nat → Int32} {b : Nat → Int32} {a : Nat} {f : Int32} (hb : I 27 = b) (ht : I 26 1 = nI t) (hp : I 28 2 = nI a) (ha : a ≤ 200) {l : List Int32} (hl : xRw 30 31 l I) (hm : l.length ≤ 16) (hE : kFg b t 200 a = a + 1 ∨ kFg b t 200 a = a + 2) (hl2 : l.length < 16) (q0 : (l.length = 16 ∨ kNum b t a = none) → Q (some (.int 0)) (mSH, I, L)) (q1 : l.length < 16 → ∀ v e, kNum b t a = some (v, e) → e ≤ t → Q (some (.int 1)) (mSH, mUp (mUp (mUp I 31 l.length v) 30 1 (nI (l.length + 1))) 28 2 (nI e), L)) : mWP mTb_ mFT ro (d + 2, 32, 40, [some (.ref 28), some (.ref 30), some (.int (nI (kFg b t 200 a))), some (.int f), some (.int 0), some (.int (I 28 2))], [], 0, 0, (mSH, I, L)) Q := by
  have n26 : mCn I 26 120 := mCn.of ht h120 (by omega)
  have le := kFg_le (b := b) (t := t) 200 a
  have fin : ∀ (fl : Nat) (x : Int32), (fl = 1 ∨ fl = 2) → kFg b t 200 a = a + fl → mWP mTb_ mFT ro (d + 2, 32, 72, [some (.ref 28), some (.ref 30), some (.int (nI (a + fl))), some (.int f), some (.int (kVal b a fl)), some (.int x)], [], 0, 0, (mSH, I, L)) Q := by
    intro fl x hfl e
    have c1 : (I 30 1).toNatClampNeg = l.length := by rw [hl.1, nI_clamp (by omega)]
    have c2 : I 30 1 < 16 := by
      rw [hl.1]
      exact nI_lt (a := l.length) (b := 16) hl2 (by omega)
    have c3 : vp_in (I 30 1) 16 := by
      rw [hl.1]
      exact vp_in_nI hl2 (by omega)
    apply z_numE_30
    all_goals intros
    all_goals first
      | exact q0 (Or.inr (kNum_0 e (by assumption)))
      | exact c3
      | exact absurd c2 (by assumption)
      | (rw [c1, hl.1, nI_1]
         exact q1 hl2 _ _ (kNum_1 hfl e (by assumption)) (by omega))
  have at0 : mAt I 26 27 (nI a) = b a := by
    rw [mAt_lt ht (by omega) (by omega), hb]
  rw [hp]
  rcases hE with e | e
  · rw [e]
    refine s_num_30 n26 (fun z => absurd z (nI_ge (by omega) (by omega))) (fun _ => ?_)
    rw [nI_1, at0]
    refine s_num_30 n26 (fun _ => ?_) (fun z => absurd (nI_le (Nat.le_refl _) (by omega)) z)
    exact fin 1 _ (Or.inl rfl) e
  · have at1 : mAt I 26 27 (nI (a + 1)) = b (a + 1) := by
      rw [mAt_lt ht (by omega) (by omega), hb]
    rw [e]
    refine s_num_30 n26 (fun z => absurd z (nI_ge (by omega) (by omega))) (fun _ => ?_)
    rw [nI_1, at0]
    refine s_num_30 n26 (fun z => absurd z (nI_ge (by omega) (by omega))) (fun _ => ?_)
    rw [nI_1, at1]
    refine s_num_30 n26 (fun _ => ?_) (fun z => absurd (nI_le (Nat.le_refl _) (by omega)) z)
    exact fin 2 _ (Or.inr rfl) e
theorem x_num_30 {ro : Nat → Nat × (Nat → Int32)} {Q : mPo} {d : Nat} {I : Nat → Nat → Int32} {L : Nat → Nat → Int64} {t a : Nat} {b : Nat → Int32} (h120 : t ≤ 120) (hb : I 27 = b) (ht : I 26 1 = nI t) (hp : I 28 2 = nI a) (ha : a ≤ 200) {l : List Int32} (hl : xRw 30 31 l I) (hm : l.length ≤ 16) (q0 : (l.length = 16 ∨ kNum b t a = none) → Q (some (.int 0)) (mSH, I, L)) (q1 : l.length < 16 → ∀ v e, kNum b t a = some (v, e) → e ≤ t → Q (some (.int 1)) (mSH, mUp (mUp (mUp I 31 l.length v) 30 1 (nI (l.length + 1))) 28 2 (nI e), L))   : mWP mTb_ mFT ro (d + 2, 32, 0, [some (.ref 28), some (.ref 30), none, none, none, none], [], 0, 0, (mSH, I, L)) Q := by
  refine mB 1 (s2 := (d + 2, 32, 1, [some (.ref 28), some (.ref 30), none, none, none, none], [.ref 28], 0, 0, (mSH, I, L))) rfl ?_
  refine mCall (s2 := (d + 1, 36, 0, [some (.ref 28), none], [], 0, 0, (mSH, I, L))) rfl ?_
  refine x_ef h120 hb ht hp (by omega) ?_
  show mWP mTb_ mFT ro (d + 2, 32, 4, [some (.ref 28), some (.ref 30), none, none, none, none], [.int (nI (kFg b t 200 a))], 0, 0, (mSH, I, L)) _
  refine mB 8 (s2 := (d + 2, 32, 14, [some (.ref 28), some (.ref 30), some (.int (nI (kFg b t 200 a))), some (.int ((nI (kFg b t 200 a)) - (I 28 2))), none, none], [.int 1, .int ((nI (kFg b t 200 a)) - (I 28 2))], 0, 0, (mSH, I, L))) rfl ?_
  refine mBr (s2 := (d + 2, 32, 29, [some (.ref 28), some (.ref 30), some (.int (nI (kFg b t 200 a))), some (.int ((nI (kFg b t 200 a)) - (I 28 2))), none, none], [], 0, 0, (mSH, I, L))) (s3 := (d + 2, 32, 17, [some (.ref 28), some (.ref 30), some (.int (nI (kFg b t 200 a))), some (.int ((nI (kFg b t 200 a)) - (I 28 2))), none, none], [], 0, 0, (mSH, I, L))) rfl (fun c0 => ?_) (fun c0 => ?_)
  · refine mB 1 (s2 := (d + 2, 32, 30, [some (.ref 28), some (.ref 30), some (.int (nI (kFg b t 200 a))), some (.int ((nI (kFg b t 200 a)) - (I 28 2))), none, none], [.int 0], 0, 0, (mSH, I, L))) rfl ?_
    refine mRt (r := (some (.int 0))) (h := (mSH, I, L)) rfl rfl ?_
    exact q0 (Or.inr (kNum_no (fun z => xNa hp (by have := kFg_le (b := b) (t := t) 200 a; omega) (kFg_ge 200 a) (of_decide_eq_true c0) (by omega))))
  · refine mB 2 (s2 := (d + 2, 32, 19, [some (.ref 28), some (.ref 30), some (.int (nI (kFg b t 200 a))), some (.int ((nI (kFg b t 200 a)) - (I 28 2))), none, none], [.int 2, .int ((nI (kFg b t 200 a)) - (I 28 2))], 0, 0, (mSH, I, L))) rfl ?_
    refine mBr (s2 := (d + 2, 32, 29, [some (.ref 28), some (.ref 30), some (.int (nI (kFg b t 200 a))), some (.int ((nI (kFg b t 200 a)) - (I 28 2))), none, none], [], 0, 0, (mSH, I, L))) (s3 := (d + 2, 32, 22, [some (.ref 28), some (.ref 30), some (.int (nI (kFg b t 200 a))), some (.int ((nI (kFg b t 200 a)) - (I 28 2))), none, none], [], 0, 0, (mSH, I, L))) rfl (fun c1 => ?_) (fun c1 => ?_)
    · refine mB 1 (s2 := (d + 2, 32, 30, [some (.ref 28), some (.ref 30), some (.int (nI (kFg b t 200 a))), some (.int ((nI (kFg b t 200 a)) - (I 28 2))), none, none], [.int 0], 0, 0, (mSH, I, L))) rfl ?_
      refine mRt (r := (some (.int 0))) (h := (mSH, I, L)) rfl rfl ?_
      exact q0 (Or.inr (kNum_no (fun z => xNb hp (by have := kFg_le (b := b) (t := t) 200 a; omega) (kFg_ge 200 a) (of_decide_eq_true c1) (by omega))))
    · refine mB 1 (s2 := (d + 2, 32, 23, [some (.ref 28), some (.ref 30), some (.int (nI (kFg b t 200 a))), some (.int ((nI (kFg b t 200 a)) - (I 28 2))), none, none], [.ref 30], 0, 0, (mSH, I, L))) rfl ?_
      refine mCall (s2 := (d + 1, 40, 0, [some (.ref 30)], [], 0, 0, (mSH, I, L))) rfl ?_
      refine mB 5 (s2 := (d + 1, 40, 9, [some (.ref 30)], [.int 16, .int (I 30 1)], 0, 0, (mSH, I, L))) rfl ?_
      refine mBr (s2 := (d + 1, 40, 16, [some (.ref 30)], [], 0, 0, (mSH, I, L))) (s3 := (d + 1, 40, 12, [some (.ref 30)], [], 0, 0, (mSH, I, L))) rfl (fun c2 => ?_) (fun c2 => ?_)
      · refine mB 1 (s2 := (d + 1, 40, 17, [some (.ref 30)], [.int 0], 0, 0, (mSH, I, L))) rfl ?_
        refine mRt (r := (some (.int 0))) (h := (mSH, I, L)) rfl rfl ?_
        show mWP mTb_ mFT ro (d + 2, 32, 26, [some (.ref 28), some (.ref 30), some (.int (nI (kFg b t 200 a))), some (.int ((nI (kFg b t 200 a)) - (I 28 2))), none, none], [.int 0], 0, 0, (mSH, I, L)) _
        refine mBT (s2 := (d + 2, 32, 31, [some (.ref 28), some (.ref 30), some (.int (nI (kFg b t 200 a))), some (.int ((nI (kFg b t 200 a)) - (I 28 2))), none, none], [], 0, 0, (mSH, I, L))) rfl (by decide) ?_
        refine mB 5 (s2 := (d + 2, 32, 40, [some (.ref 28), some (.ref 30), some (.int (nI (kFg b t 200 a))), some (.int ((nI (kFg b t 200 a)) - (I 28 2))), some (.int 0), some (.int (I 28 2))], [], 0, 0, (mSH, I, L))) rfl ?_
        exact x_n40_30 h120 hb ht hp ha hl hm (xNe hp (by have := kFg_le (b := b) (t := t) 200 a; omega) (kFg_ge 200 a) (of_decide_eq_false c0) (of_decide_eq_false c1)) (xNfull (N := 16) hl.1 hm (by omega) (of_decide_eq_true c2)) q0 q1
      · refine mB 2 (s2 := (d + 1, 40, 17, [some (.ref 30)], [.int 1], 0, 0, (mSH, I, L))) rfl ?_
        refine mRt (r := (some (.int 1))) (h := (mSH, I, L)) rfl rfl ?_
        show mWP mTb_ mFT ro (d + 2, 32, 26, [some (.ref 28), some (.ref 30), some (.int (nI (kFg b t 200 a))), some (.int ((nI (kFg b t 200 a)) - (I 28 2))), none, none], [.int 1], 0, 0, (mSH, I, L)) _
        refine mBF (s3 := (d + 2, 32, 29, [some (.ref 28), some (.ref 30), some (.int (nI (kFg b t 200 a))), some (.int ((nI (kFg b t 200 a)) - (I 28 2))), none, none], [], 0, 0, (mSH, I, L))) rfl (by decide) ?_
        refine mB 1 (s2 := (d + 2, 32, 30, [some (.ref 28), some (.ref 30), some (.int (nI (kFg b t 200 a))), some (.int ((nI (kFg b t 200 a)) - (I 28 2))), none, none], [.int 0], 0, 0, (mSH, I, L))) rfl ?_
        refine mRt (r := (some (.int 0))) (h := (mSH, I, L)) rfl rfl ?_
        exact q0 (Or.inl (xFull (N := 16) hl.1 hm (by omega) (of_decide_eq_false c2)))
theorem s_xns_30 {ro : Nat → Nat × (Nat → Int32)} {Q : mPo} {d : Nat} {I : Nat → Nat → Int32} {L : Nat → Nat → Int64} {t a c : Nat} {b : Nat → Int32} (h120 : t ≤ 120) (hb : I 27 = b) (ht : I 26 1 = nI t) (hp : I 28 2 = nI a) (ha : a ≤ 200) {l : List Int32} (hl : xRw 30 31 l I) (hm : l.length ≤ 16) (hS : kS b t a ≤ 200) (z0 : (16 : Int32) < nI c → Q (some (.int 0)) (mSH, I, L)) (p1 : 0 < l.length → mAt (mUp I 28 2 (nI (kS b t a))) 26 27 (nI (kS b t a)) = 59 → Q (some (.int 1)) (mSH, mUp (mUp I 28 2 (nI (kS b t a))) 28 2 (nI (kS b t a) + 1), L)) (p0 : ¬ (0 < l.length ∧ (kS b t a) < t ∧ b (kS b t a) = 59) → (l.length = 16 ∨ kNum b t (kS b t a) = none) → Q (some (.int 0)) (mSH, mUp I 28 2 (nI (kS b t a)), L)) (ih : ¬ (0 < l.length ∧ (kS b t a) < t ∧ b (kS b t a) = 59) → l.length < 16 → ∀ v e, kNum b t (kS b t a) = some (v, e) → e ≤ t → mWP mTb_ mFT ro (d + 3, 31, 2, [some (.ref 28), some (.ref 30), some (.int (nI c + 1))], [], 0, 0, (mSH, (mUp (mUp (mUp (mUp I 28 2 (nI (kS b t a))) 31 l.length v) 30 1 (nI (l.length + 1))) 28 2 (nI e)), L)) Q)   : mWP mTb_ mFT ro (d + 3, 31, 2, [some (.ref 28), some (.ref 30), some (.int (nI c))], [], 0, 0, (mSH, I, L)) Q := by
  have n26 : mCn I 26 120 := mCn.of ht h120 (by omega)
  refine mB 2 (s2 := (d + 3, 31, 5, [some (.ref 28), some (.ref 30), some (.int (nI c))], [.int 16, .int (nI c)], 0, 0, (mSH, I, L))) rfl ?_
  refine mBr (s2 := (d + 3, 31, 63, [some (.ref 28), some (.ref 30), some (.int (nI c))], [], 0, 0, (mSH, I, L))) (s3 := (d + 3, 31, 8, [some (.ref 28), some (.ref 30), some (.int (nI c))], [], 0, 0, (mSH, I, L))) rfl (fun c0 => ?_) (fun c0 => ?_)
  · refine mB 1 (s2 := (d + 3, 31, 64, [some (.ref 28), some (.ref 30), some (.int (nI c))], [.int 0], 0, 0, (mSH, I, L))) rfl ?_
    refine mRt (r := (some (.int 0))) (h := (mSH, I, L)) rfl rfl ?_
    exact z0 (of_decide_eq_true c0)
  · refine mB 1 (s2 := (d + 3, 31, 9, [some (.ref 28), some (.ref 30), some (.int (nI c))], [.ref 28], 0, 0, (mSH, I, L))) rfl ?_
    refine mCall (s2 := (d + 2, 34, 0, [some (.ref 28)], [], 0, 0, (mSH, I, L))) rfl ?_
    refine x_skip h120 hb ht hp (by omega) ?_
    show mWP mTb_ mFT ro (d + 3, 31, 12, [some (.ref 28), some (.ref 30), some (.int (nI c))], [], 0, 0, (mSH, (mUp I 28 2 (nI (kS b t a))), L)) _
    refine mB 1 (s2 := (d + 3, 31, 13, [some (.ref 28), some (.ref 30), some (.int (nI c))], [.ref 30], 0, 0, (mSH, (mUp I 28 2 (nI (kS b t a))), L))) rfl ?_
    refine mCall (s2 := (d + 2, 39, 0, [some (.ref 30)], [], 0, 0, (mSH, (mUp I 28 2 (nI (kS b t a))), L))) rfl ?_
    refine mB 2 (s2 := (d + 2, 39, 4, [some (.ref 30)], [.int (I 30 1)], 0, 0, (mSH, (mUp I 28 2 (nI (kS b t a))), L))) rfl ?_
    refine mRt (r := (some (.int (I 30 1)))) (h := (mSH, (mUp I 28 2 (nI (kS b t a))), L)) rfl (mRet_int rfl) ?_
    show mWP mTb_ mFT ro (d + 3, 31, 16, [some (.ref 28), some (.ref 30), some (.int (nI c))], [.int (I 30 1)], 0, 0, (mSH, (mUp I 28 2 (nI (kS b t a))), L)) _
    refine mBr (s2 := (d + 3, 31, 47, [some (.ref 28), some (.ref 30), some (.int (nI c))], [], 0, 0, (mSH, (mUp I 28 2 (nI (kS b t a))), L))) (s3 := (d + 3, 31, 19, [some (.ref 28), some (.ref 30), some (.int (nI c))], [], 0, 0, (mSH, (mUp I 28 2 (nI (kS b t a))), L))) rfl (fun c1 => ?_) (fun c1 => ?_)
    · refine mB 2 (s2 := (d + 3, 31, 49, [some (.ref 28), some (.ref 30), some (.int (nI c))], [.ref 30, .ref 28], 0, 0, (mSH, (mUp I 28 2 (nI (kS b t a))), L))) rfl ?_
      refine mCall (s2 := (d + 2, 32, 0, [some (.ref 28), some (.ref 30), none, none, none, none], [], 0, 0, (mSH, (mUp I 28 2 (nI (kS b t a))), L))) rfl ?_
      refine x_num_30 (l := l) (a := (kS b t a)) h120 hb ht rfl hS hl hm ?_ ?_
      · intro k0
        show mWP mTb_ mFT ro (d + 3, 31, 52, [some (.ref 28), some (.ref 30), some (.int (nI c))], [.int 0], 0, 0, (mSH, (mUp I 28 2 (nI (kS b t a))), L)) _
        refine mBT (s2 := (d + 3, 31, 55, [some (.ref 28), some (.ref 30), some (.int (nI c))], [], 0, 0, (mSH, (mUp I 28 2 (nI (kS b t a))), L))) rfl (by decide) ?_
        refine mB 1 (s2 := (d + 3, 31, 56, [some (.ref 28), some (.ref 30), some (.int (nI c))], [.int 0], 0, 0, (mSH, (mUp I 28 2 (nI (kS b t a))), L))) rfl ?_
        refine mRt (r := (some (.int 0))) (h := (mSH, (mUp I 28 2 (nI (kS b t a))), L)) rfl rfl ?_
        exact p0 (fun z => x59a hl.1 (by omega) (of_decide_eq_true c1) z.1) k0
      · intro k1 v e ke le
        show mWP mTb_ mFT ro (d + 3, 31, 52, [some (.ref 28), some (.ref 30), some (.int (nI c))], [.int 1], 0, 0, (mSH, (mUp (mUp (mUp (mUp I 28 2 (nI (kS b t a))) 31 l.length v) 30 1 (nI (l.length + 1))) 28 2 (nI e)), L)) _
        refine mBF (s3 := (d + 3, 31, 57, [some (.ref 28), some (.ref 30), some (.int (nI c))], [], 0, 0, (mSH, (mUp (mUp (mUp (mUp I 28 2 (nI (kS b t a))) 31 l.length v) 30 1 (nI (l.length + 1))) 28 2 (nI e)), L))) rfl (by decide) ?_
        refine mB 2 (s2 := (d + 3, 31, 2, [some (.ref 28), some (.ref 30), some (.int ((nI c) + 1))], [], 0, 0, (mSH, (mUp (mUp (mUp (mUp I 28 2 (nI (kS b t a))) 31 l.length v) 30 1 (nI (l.length + 1))) 28 2 (nI e)), L))) rfl ?_
        exact ih (fun z => x59a hl.1 (by omega) (of_decide_eq_true c1) z.1) k1 v e ke le
    · refine mB 4 (s2 := (d + 3, 31, 27, [some (.ref 28), some (.ref 30), some (.int (nI c))], [.int (nI (kS b t a)), .ref 26], 0, 0, (mSH, (mUp I 28 2 (nI (kS b t a))), L))) rfl ?_
      refine mCall (s2 := (d + 2, 42, 0, [some (.ref 26), some (.int (nI (kS b t a)))], [], 0, 0, (mSH, (mUp I 28 2 (nI (kS b t a))), L))) rfl ?_
      refine w_at_26 n26 ?_
      show mWP mTb_ mFT ro (d + 3, 31, 30, [some (.ref 28), some (.ref 30), some (.int (nI c))], [.int (mAt (mUp I 28 2 (nI (kS b t a))) 26 27 (nI (kS b t a)))], 0, 0, (mSH, (mUp I 28 2 (nI (kS b t a))), L)) _
      refine mB 1 (s2 := (d + 3, 31, 32, [some (.ref 28), some (.ref 30), some (.int (nI c))], [.int 59, .int (mAt (mUp I 28 2 (nI (kS b t a))) 26 27 (nI (kS b t a)))], 0, 0, (mSH, (mUp I 28 2 (nI (kS b t a))), L))) rfl ?_
      refine mBr (s2 := (d + 3, 31, 35, [some (.ref 28), some (.ref 30), some (.int (nI c))], [], 0, 0, (mSH, (mUp I 28 2 (nI (kS b t a))), L))) (s3 := (d + 3, 31, 47, [some (.ref 28), some (.ref 30), some (.int (nI c))], [], 0, 0, (mSH, (mUp I 28 2 (nI (kS b t a))), L))) rfl (fun c2 => ?_) (fun c2 => ?_)
      · refine mB 7 (s2 := (d + 3, 31, 46, [some (.ref 28), some (.ref 30), some (.int (nI c))], [.int 1], 0, 0, (mSH, (mUp (mUp I 28 2 (nI (kS b t a))) 28 2 ((nI (kS b t a)) + 1)), L))) rfl ?_
        refine mRt (r := (some (.int 1))) (h := (mSH, (mUp (mUp I 28 2 (nI (kS b t a))) 28 2 ((nI (kS b t a)) + 1)), L)) rfl rfl ?_
        exact p1 (x59b hl.1 (of_decide_eq_false c1)) (of_decide_eq_true c2)
      · refine mB 2 (s2 := (d + 3, 31, 49, [some (.ref 28), some (.ref 30), some (.int (nI c))], [.ref 30, .ref 28], 0, 0, (mSH, (mUp I 28 2 (nI (kS b t a))), L))) rfl ?_
        refine mCall (s2 := (d + 2, 32, 0, [some (.ref 28), some (.ref 30), none, none, none, none], [], 0, 0, (mSH, (mUp I 28 2 (nI (kS b t a))), L))) rfl ?_
        refine x_num_30 (l := l) (a := (kS b t a)) h120 hb ht rfl hS hl hm ?_ ?_
        · intro k0
          show mWP mTb_ mFT ro (d + 3, 31, 52, [some (.ref 28), some (.ref 30), some (.int (nI c))], [.int 0], 0, 0, (mSH, (mUp I 28 2 (nI (kS b t a))), L)) _
          refine mBT (s2 := (d + 3, 31, 55, [some (.ref 28), some (.ref 30), some (.int (nI c))], [], 0, 0, (mSH, (mUp I 28 2 (nI (kS b t a))), L))) rfl (by decide) ?_
          refine mB 1 (s2 := (d + 3, 31, 56, [some (.ref 28), some (.ref 30), some (.int (nI c))], [.int 0], 0, 0, (mSH, (mUp I 28 2 (nI (kS b t a))), L))) rfl ?_
          refine mRt (r := (some (.int 0))) (h := (mSH, (mUp I 28 2 (nI (kS b t a))), L)) rfl rfl ?_
          exact p0 (fun z => (of_decide_eq_false c2) (by rw [mAt_lt (I := mUp I 28 2 (nI (kS b t a))) (q := 26) (a := 27) (t := t) ht z.2.1 (by omega)]; show I 27 (kS b t a) = 59; rw [hb]; exact z.2.2)) k0
        · intro k1 v e ke le
          show mWP mTb_ mFT ro (d + 3, 31, 52, [some (.ref 28), some (.ref 30), some (.int (nI c))], [.int 1], 0, 0, (mSH, (mUp (mUp (mUp (mUp I 28 2 (nI (kS b t a))) 31 l.length v) 30 1 (nI (l.length + 1))) 28 2 (nI e)), L)) _
          refine mBF (s3 := (d + 3, 31, 57, [some (.ref 28), some (.ref 30), some (.int (nI c))], [], 0, 0, (mSH, (mUp (mUp (mUp (mUp I 28 2 (nI (kS b t a))) 31 l.length v) 30 1 (nI (l.length + 1))) 28 2 (nI e)), L))) rfl (by decide) ?_
          refine mB 2 (s2 := (d + 3, 31, 2, [some (.ref 28), some (.ref 30), some (.int ((nI c) + 1))], [], 0, 0, (mSH, (mUp (mUp (mUp (mUp I 28 2 (nI (kS b t a))) 31 l.length v) 30 1 (nI (l.length + 1))) 28 2 (nI e)), L))) rfl ?_
          exact ih (fun z => (of_decide_eq_false c2) (by rw [mAt_lt (I := mUp I 28 2 (nI (kS b t a))) (q := 26) (a := 27) (t := t) ht z.2.1 (by omega)]; show I 27 (kS b t a) = 59; rw [hb]; exact z.2.2)) k1 v e ke le
theorem l_xns_30 {ro : Nat → Nat × (Nat → Int32)} {Q : mPo} {d : Nat} {L : Nat → Nat → Int64} {t : Nat} (h120 : t ≤ 120) {b : Nat → Int32} : ∀ (m c a : Nat) (l : List Int32) (I : Nat → Nat → Int32), c + m = 17 → I 27 = b → I 26 1 = nI t → I 28 2 = nI a → a ≤ 120 → xRw 30 31 l I → l.length ≤ 16 → (kNums b t 16 m a l = none → ∀ I1, (∀ z, z ≠ 28 → z ≠ 30 → z ≠ 31 → I1 z = I z) → mCn I1 30 16 → Q (some (.int 0)) (mSH, I1, L)) → (∀ l' e, kNums b t 16 m a l = some (l', e) → e ≤ 120 → l'.length ≤ 16 → ∀ I1, (∀ z, z ≠ 28 → z ≠ 30 → z ≠ 31 → I1 z = I z) → I1 28 2 = nI e → xRw 30 31 l' I1 → Q (some (.int 1)) (mSH, I1, L)) → mWP mTb_ mFT ro (d + 3, 31, 2, [some (.ref 28), some (.ref 30), some (.int (nI c))], [], 0, 0, (mSH, I, L)) Q := by
  intro m
  induction m with
  | zero =>
    intro c a l I hc hb ht hp ha hl hm q0 q1
    have z : (16 : Int32) < nI c := nI_lt (a := 16) (b := c) (by omega) (by omega)
    refine mB 2 (s2 := (d + 3, 31, 5, [some (.ref 28), some (.ref 30), some (.int (nI c))], [.int 16, .int (nI c)], 0, 0, (mSH, I, L))) rfl ?_
    refine mBT (s2 := (d + 3, 31, 63, [some (.ref 28), some (.ref 30), some (.int (nI c))], [], 0, 0, (mSH, I, L))) rfl (decide_eq_true z) ?_
    refine mB 1 (s2 := (d + 3, 31, 64, [some (.ref 28), some (.ref 30), some (.int (nI c))], [.int 0], 0, 0, (mSH, I, L))) rfl ?_
    exact mRt (r := some (.int 0)) (h := (mSH, I, L)) rfl rfl (q0 rfl I (fun _ _ _ _ => rfl) (mCn.of hl.1 hm (by omega)))
  | succ m ih =>
    intro c a l I hc hb ht hp ha hl hm q0 q1
    have hS : kS b t a ≤ 120 := by
      have := kSk_le (b := b) (t := t) 200 a
      rw [kS_e]
      omega
    have z : ¬ (16 : Int32) < nI c := nI_nlt (a := 16) (b := c) (by omega) (by omega)
    refine s_xns_30 h120 hb ht hp (by omega) hl hm (by omega) (fun c => absurd c z) (fun h1 h2 => ?_) (fun n5 h => q0 ?_ _ (fun z z1 z2 z3 => by rw [mUp_row z1]) (mCn.of (I := mUp I 28 2 (nI (kS b t a))) hl.1 hm (by omega))) (fun n5 hlt v e ke le => ?_)
    · have lt : kS b t a < t := by
        rcases Nat.lt_or_ge (kS b t a) t with g | g
        · exact g
        · refine absurd h2 ?_
          unfold mAt
          rw [if_neg (nI_pos (by omega)), if_pos]
          · decide
          · show I 26 1 ≤ _
            rw [ht]
            exact nI_le g (by omega)
      have b59 : b (kS b t a) = 59 := by
        rw [mAt_lt (I := mUp I 28 2 (nI (kS b t a))) (q := 26) (a := 27) (t := t) ht lt (by omega)] at h2
        have h2 : I 27 (kS b t a) = 59 := h2
        rw [hb] at h2
        exact h2
      refine q1 l (kS b t a + 1) ?_ (by omega) hm _ (fun z z1 z2 z3 => ?_) ?_ hl
      · unfold kNums
        rw [if_pos ⟨h1, lt, b59⟩]
      · rw [mUp_row z1, mUp_row z1]
      · rw [xUs, nI_1]
    · unfold kNums
      rw [if_neg n5]
      rcases h with h | h
      · rw [if_pos h]
      · rw [h]
        split <;> rfl
    · have un : kNums b t 16 (m + 1) a l = kNums b t 16 m e (l ++ [v]) := by
        conv => lhs; unfold kNums
        rw [if_neg n5, if_neg (by omega), ke]
      rw [nI_1]
      refine ih (c + 1) e (l ++ [v]) _ (by omega) hb ht xUs (by omega) (xRw.app (v := v) (I := I) hl ?_ ?_) (by rw [List.length_append]; exact hlt) (fun k I1 f1 f2 => q0 (un.trans k) I1 (fun z z1 z2 z3 => by rw [f1 z z1 z2 z3, mUp_row z1, mUp_row z2, mUp_row z3, mUp_row z1]) f2) (fun l' e' k h1 h3 I1 f1 f2 f3 => q1 l' e' (un.trans k) h1 h3 I1 (fun z z1 z2 z3 => ?_) f2 f3)
      · rfl
      · rfl
      · rw [f1 z z1 z2 z3, mUp_row z1, mUp_row z2, mUp_row z3, mUp_row z1]
theorem x_nums_30 {ro : Nat → Nat × (Nat → Int32)} {Q : mPo} {d : Nat} {L : Nat → Nat → Int64} {t : Nat} (h120 : t ≤ 120) {I : Nat → Nat → Int32} {b : Nat → Int32} {a : Nat} (hb : I 27 = b) (ht : I 26 1 = nI t) (hp : I 28 2 = nI a) (ha : a ≤ 120) (hl : I 30 1 = 0) (q0 : kNums b t 16 17 a [] = none → ∀ I1, (∀ z, z ≠ 28 → z ≠ 30 → z ≠ 31 → I1 z = I z) → mCn I1 30 16 → Q (some (.int 0)) (mSH, I1, L)) (q1 : ∀ l' e, kNums b t 16 17 a [] = some (l', e) → e ≤ 120 → l'.length ≤ 16 → ∀ I1, (∀ z, z ≠ 28 → z ≠ 30 → z ≠ 31 → I1 z = I z) → I1 28 2 = nI e → xRw 30 31 l' I1 → Q (some (.int 1)) (mSH, I1, L)) : mWP mTb_ mFT ro (d + 3, 31, 0, [some (.ref 28), some (.ref 30), none], [], 0, 0, (mSH, I, L)) Q :=
  mB 2 (s2 := (d + 3, 31, 2, [some (.ref 28), some (.ref 30), some (.int (nI 0))], [], 0, 0, (mSH, I, L))) rfl (l_xns_30 h120 17 0 a [] I rfl hb ht hp ha (xRw.nil hl) (Nat.zero_le _) q0 q1)
theorem z_numE_32 {ro : Nat → Nat × (Nat → Int32)} {Q : mPo} {d : Nat} {I : Nat → Nat → Int32} {L : Nat → Nat → Int64} {e f s x : Int32}  (h1 : (s = 0) → Q (some (.int 0)) (mSH, I, L)) (h2 : ¬ (s = 0) → ((I 32 1) < 8) → vp_in (I 32 1) 8) (h3 : ¬ (s = 0) → ((I 32 1) < 8) → Q (some (.int 1)) (mSH, (mUp (mUp (mUp I 33 ((I 32 1).toNatClampNeg) s) 32 1 ((I 32 1) + 1)) 28 2 e), L)) (h4 : ¬ (s = 0) → ¬ ((I 32 1) < 8) → Q (some (.int 1)) (mSH, (mUp I 28 2 e), L)) : mWP mTb_ mFT ro (d + 2, 32, 72, [some (.ref 28), some (.ref 32), some (.int e), some (.int f), some (.int s), some (.int x)], [], 0, 0, (mSH, I, L)) Q := by
  refine mB 1 (s2 := (d + 2, 32, 74, [some (.ref 28), some (.ref 32), some (.int e), some (.int f), some (.int s), some (.int x)], [.int s], 0, 0, (mSH, I, L))) rfl ?_
  refine mBr (s2 := (d + 2, 32, 77, [some (.ref 28), some (.ref 32), some (.int e), some (.int f), some (.int s), some (.int x)], [], 0, 0, (mSH, I, L))) (s3 := (d + 2, 32, 79, [some (.ref 28), some (.ref 32), some (.int e), some (.int f), some (.int s), some (.int x)], [], 0, 0, (mSH, I, L))) rfl (fun c0 => ?_) (fun c0 => ?_)
  · refine mB 1 (s2 := (d + 2, 32, 78, [some (.ref 28), some (.ref 32), some (.int e), some (.int f), some (.int s), some (.int x)], [.int 0], 0, 0, (mSH, I, L))) rfl ?_
    refine mRt (r := (some (.int 0))) (h := (mSH, I, L)) rfl rfl ?_
    exact h1 (of_decide_eq_true c0)
  · refine mB 2 (s2 := (d + 2, 32, 82, [some (.ref 28), some (.ref 32), some (.int e), some (.int f), some (.int s), some (.int x)], [.int s, .ref 32], 0, 0, (mSH, I, L))) rfl ?_
    refine mCall (s2 := (d + 1, 44, 0, [some (.ref 32), some (.int s)], [], 0, 0, (mSH, I, L))) rfl ?_
    refine mB 1 (s2 := (d + 1, 44, 1, [some (.ref 32), some (.int s)], [.ref 32], 0, 0, (mSH, I, L))) rfl ?_
    refine mCall (s2 := (d, 40, 0, [some (.ref 32)], [], 0, 0, (mSH, I, L))) rfl ?_
    refine mB 5 (s2 := (d, 40, 9, [some (.ref 32)], [.int 8, .int (I 32 1)], 0, 0, (mSH, I, L))) rfl ?_
    refine mBr (s2 := (d, 40, 16, [some (.ref 32)], [], 0, 0, (mSH, I, L))) (s3 := (d, 40, 12, [some (.ref 32)], [], 0, 0, (mSH, I, L))) rfl (fun c1 => ?_) (fun c1 => ?_)
    · refine mB 1 (s2 := (d, 40, 17, [some (.ref 32)], [.int 0], 0, 0, (mSH, I, L))) rfl ?_
      refine mRt (r := (some (.int 0))) (h := (mSH, I, L)) rfl rfl ?_
      show mWP mTb_ mFT ro (d + 1, 44, 4, [some (.ref 32), some (.int s)], [.int 0], 0, 0, (mSH, I, L)) _
      refine mBT (s2 := (d + 1, 44, 7, [some (.ref 32), some (.int s)], [], 0, 0, (mSH, I, L))) rfl (by decide) ?_
      refine mB 5 (s2 := (d + 1, 44, 16, [some (.ref 32), some (.int s)], [.int s, .int (I 32 1), .ref 33], 0, 0, (mSH, I, L))) rfl ?_
      refine mRq (s2 := (d + 1, 44, 17, [some (.ref 32), some (.int s)], [], 0, 0, (mSH, (mUp I 33 ((I 32 1).toNatClampNeg) s), L))) rfl (mVp_of (h2 (of_decide_eq_false c0) (of_decide_eq_true c1))) ?_
      refine mB 6 (s2 := (d + 1, 44, 27, [some (.ref 32), some (.int s)], [], 0, 0, (mSH, (mUp (mUp I 33 ((I 32 1).toNatClampNeg) s) 32 1 ((I 32 1) + 1)), L))) rfl ?_
      refine mRt (r := none) (h := (mSH, (mUp (mUp I 33 ((I 32 1).toNatClampNeg) s) 32 1 ((I 32 1) + 1)), L)) rfl rfl ?_
      show mWP mTb_ mFT ro (d + 2, 32, 85, [some (.ref 28), some (.ref 32), some (.int e), some (.int f), some (.int s), some (.int x)], [], 0, 0, (mSH, (mUp (mUp I 33 ((I 32 1).toNatClampNeg) s) 32 1 ((I 32 1) + 1)), L)) _
      refine mB 4 (s2 := (d + 2, 32, 91, [some (.ref 28), some (.ref 32), some (.int e), some (.int f), some (.int s), some (.int x)], [.int 1], 0, 0, (mSH, (mUp (mUp (mUp I 33 ((I 32 1).toNatClampNeg) s) 32 1 ((I 32 1) + 1)) 28 2 e), L))) rfl ?_
      refine mRt (r := (some (.int 1))) (h := (mSH, (mUp (mUp (mUp I 33 ((I 32 1).toNatClampNeg) s) 32 1 ((I 32 1) + 1)) 28 2 e), L)) rfl rfl ?_
      exact h3 (of_decide_eq_false c0) (of_decide_eq_true c1)
    · refine mB 2 (s2 := (d, 40, 17, [some (.ref 32)], [.int 1], 0, 0, (mSH, I, L))) rfl ?_
      refine mRt (r := (some (.int 1))) (h := (mSH, I, L)) rfl rfl ?_
      show mWP mTb_ mFT ro (d + 1, 44, 4, [some (.ref 32), some (.int s)], [.int 1], 0, 0, (mSH, I, L)) _
      refine mBF (s3 := (d + 1, 44, 27, [some (.ref 32), some (.int s)], [], 0, 0, (mSH, I, L))) rfl (by decide) ?_
      refine mRt (r := none) (h := (mSH, I, L)) rfl rfl ?_
      show mWP mTb_ mFT ro (d + 2, 32, 85, [some (.ref 28), some (.ref 32), some (.int e), some (.int f), some (.int s), some (.int x)], [], 0, 0, (mSH, I, L)) _
      refine mB 4 (s2 := (d + 2, 32, 91, [some (.ref 28), some (.ref 32), some (.int e), some (.int f), some (.int s), some (.int x)], [.int 1], 0, 0, (mSH, (mUp I 28 2 e), L))) rfl ?_
      refine mRt (r := (some (.int 1))) (h := (mSH, (mUp I 28 2 e), L)) rfl rfl ?_
      exact h4 (of_decide_eq_false c0) (of_decide_eq_false c1)
theorem x_n40_32 {ro : Nat → Nat × (Nat → Int32)} {Q : mPo} {d : Nat} {L : Nat → Nat → Int64} {t : Nat} (h120 : t ≤ 120) {I : Nat → Nat → Int32} {b : Nat → Int32} {a : Nat} {f : Int32} (hb : I 27 = b) (ht : I 26 1 = nI t) (hp : I 28 2 = nI a) (ha : a ≤ 200) {l : List Int32} (hl : xRw 32 33 l I) (hm : l.length ≤ 8) (hE : kFg b t 200 a = a + 1 ∨ kFg b t 200 a = a + 2) (hl2 : l.length < 8) (q0 : (l.length = 8 ∨ kNum b t a = none) → Q (some (.int 0)) (mSH, I, L)) (q1 : l.length < 8 → ∀ v e, kNum b t a = some (v, e) → e ≤ t → Q (some (.int 1)) (mSH, mUp (mUp (mUp I 33 l.length v) 32 1 (nI (l.length + 1))) 28 2 (nI e), L)) : mWP mTb_ mFT ro (d + 2, 32, 40, [some (.ref 28), some (.ref 32), some (.int (nI (kFg b t 200 a))), some (.int f), some (.int 0), some (.int (I 28 2))], [], 0, 0, (mSH, I, L)) Q := by
  have n26 : mCn I 26 120 := mCn.of ht h120 (by omega)
  have le := kFg_le (b := b) (t := t) 200 a
  have fin : ∀ (fl : Nat) (x : Int32), (fl = 1 ∨ fl = 2) → kFg b t 200 a = a + fl → mWP mTb_ mFT ro (d + 2, 32, 72, [some (.ref 28), some (.ref 32), some (.int (nI (a + fl))), some (.int f), some (.int (kVal b a fl)), some (.int x)], [], 0, 0, (mSH, I, L)) Q := by
    intro fl x hfl e
    have c1 : (I 32 1).toNatClampNeg = l.length := by rw [hl.1, nI_clamp (by omega)]
    have c2 : I 32 1 < 8 := by
      rw [hl.1]
      exact nI_lt (a := l.length) (b := 8) hl2 (by omega)
    have c3 : vp_in (I 32 1) 8 := by
      rw [hl.1]
      exact vp_in_nI hl2 (by omega)
    apply z_numE_32
    all_goals intros
    all_goals first
      | exact q0 (Or.inr (kNum_0 e (by assumption)))
      | exact c3
      | exact absurd c2 (by assumption)
      | (rw [c1, hl.1, nI_1]
         exact q1 hl2 _ _ (kNum_1 hfl e (by assumption)) (by omega))
  have at0 : mAt I 26 27 (nI a) = b a := by
    rw [mAt_lt ht (by omega) (by omega), hb]
  rw [hp]
  rcases hE with e | e
  · rw [e]
    refine s_num_32 n26 (fun z => absurd z (nI_ge (by omega) (by omega))) (fun _ => ?_)
    rw [nI_1, at0]
    refine s_num_32 n26 (fun _ => ?_) (fun z => absurd (nI_le (Nat.le_refl _) (by omega)) z)
    exact fin 1 _ (Or.inl rfl) e
  · have at1 : mAt I 26 27 (nI (a + 1)) = b (a + 1) := by
      rw [mAt_lt ht (by omega) (by omega), hb]
    rw [e]
    refine s_num_32 n26 (fun z => absurd z (nI_ge (by omega) (by omega))) (fun _ => ?_)
    rw [nI_1, at0]
    refine s_num_32 n26 (fun z => absurd z (nI_ge (by omega) (by omega))) (fun _ => ?_)
    rw [nI_1, at1]
    refine s_num_32 n26 (fun _ => ?_) (fun z => absurd (nI_le (Nat.le_refl _) (by omega)) z)
    exact fin 2 _ (Or.inr rfl) e
theorem x_num_32 {ro : Nat → Nat × (Nat → Int32)} {Q : mPo} {d : Nat} {I : Nat → Nat → Int32} {L : Nat → Nat → Int64} {t a : Nat} {b : Nat → Int32} (h120 : t ≤ 120) (hb : I 27 = b) (ht : I 26 1 = nI t) (hp : I 28 2 = nI a) (ha : a ≤ 200) {l : List Int32} (hl : xRw 32 33 l I) (hm : l.length ≤ 8) (q0 : (l.length = 8 ∨ kNum b t a = none) → Q (some (.int 0)) (mSH, I, L)) (q1 : l.length < 8 → ∀ v e, kNum b t a = some (v, e) → e ≤ t → Q (some (.int 1)) (mSH, mUp (mUp (mUp I 33 l.length v) 32 1 (nI (l.length + 1))) 28 2 (nI e), L))   : mWP mTb_ mFT ro (d + 2, 32, 0, [some (.ref 28), some (.ref 32), none, none, none, none], [], 0, 0, (mSH, I, L)) Q := by
  refine mB 1 (s2 := (d + 2, 32, 1, [some (.ref 28), some (.ref 32), none, none, none, none], [.ref 28], 0, 0, (mSH, I, L))) rfl ?_
  refine mCall (s2 := (d + 1, 36, 0, [some (.ref 28), none], [], 0, 0, (mSH, I, L))) rfl ?_
  refine x_ef h120 hb ht hp (by omega) ?_
  show mWP mTb_ mFT ro (d + 2, 32, 4, [some (.ref 28), some (.ref 32), none, none, none, none], [.int (nI (kFg b t 200 a))], 0, 0, (mSH, I, L)) _
  refine mB 8 (s2 := (d + 2, 32, 14, [some (.ref 28), some (.ref 32), some (.int (nI (kFg b t 200 a))), some (.int ((nI (kFg b t 200 a)) - (I 28 2))), none, none], [.int 1, .int ((nI (kFg b t 200 a)) - (I 28 2))], 0, 0, (mSH, I, L))) rfl ?_
  refine mBr (s2 := (d + 2, 32, 29, [some (.ref 28), some (.ref 32), some (.int (nI (kFg b t 200 a))), some (.int ((nI (kFg b t 200 a)) - (I 28 2))), none, none], [], 0, 0, (mSH, I, L))) (s3 := (d + 2, 32, 17, [some (.ref 28), some (.ref 32), some (.int (nI (kFg b t 200 a))), some (.int ((nI (kFg b t 200 a)) - (I 28 2))), none, none], [], 0, 0, (mSH, I, L))) rfl (fun c0 => ?_) (fun c0 => ?_)
  · refine mB 1 (s2 := (d + 2, 32, 30, [some (.ref 28), some (.ref 32), some (.int (nI (kFg b t 200 a))), some (.int ((nI (kFg b t 200 a)) - (I 28 2))), none, none], [.int 0], 0, 0, (mSH, I, L))) rfl ?_
    refine mRt (r := (some (.int 0))) (h := (mSH, I, L)) rfl rfl ?_
    exact q0 (Or.inr (kNum_no (fun z => xNa hp (by have := kFg_le (b := b) (t := t) 200 a; omega) (kFg_ge 200 a) (of_decide_eq_true c0) (by omega))))
  · refine mB 2 (s2 := (d + 2, 32, 19, [some (.ref 28), some (.ref 32), some (.int (nI (kFg b t 200 a))), some (.int ((nI (kFg b t 200 a)) - (I 28 2))), none, none], [.int 2, .int ((nI (kFg b t 200 a)) - (I 28 2))], 0, 0, (mSH, I, L))) rfl ?_
    refine mBr (s2 := (d + 2, 32, 29, [some (.ref 28), some (.ref 32), some (.int (nI (kFg b t 200 a))), some (.int ((nI (kFg b t 200 a)) - (I 28 2))), none, none], [], 0, 0, (mSH, I, L))) (s3 := (d + 2, 32, 22, [some (.ref 28), some (.ref 32), some (.int (nI (kFg b t 200 a))), some (.int ((nI (kFg b t 200 a)) - (I 28 2))), none, none], [], 0, 0, (mSH, I, L))) rfl (fun c1 => ?_) (fun c1 => ?_)
    · refine mB 1 (s2 := (d + 2, 32, 30, [some (.ref 28), some (.ref 32), some (.int (nI (kFg b t 200 a))), some (.int ((nI (kFg b t 200 a)) - (I 28 2))), none, none], [.int 0], 0, 0, (mSH, I, L))) rfl ?_
      refine mRt (r := (some (.int 0))) (h := (mSH, I, L)) rfl rfl ?_
      exact q0 (Or.inr (kNum_no (fun z => xNb hp (by have := kFg_le (b := b) (t := t) 200 a; omega) (kFg_ge 200 a) (of_decide_eq_true c1) (by omega))))
    · refine mB 1 (s2 := (d + 2, 32, 23, [some (.ref 28), some (.ref 32), some (.int (nI (kFg b t 200 a))), some (.int ((nI (kFg b t 200 a)) - (I 28 2))), none, none], [.ref 32], 0, 0, (mSH, I, L))) rfl ?_
      refine mCall (s2 := (d + 1, 40, 0, [some (.ref 32)], [], 0, 0, (mSH, I, L))) rfl ?_
      refine mB 5 (s2 := (d + 1, 40, 9, [some (.ref 32)], [.int 8, .int (I 32 1)], 0, 0, (mSH, I, L))) rfl ?_
      refine mBr (s2 := (d + 1, 40, 16, [some (.ref 32)], [], 0, 0, (mSH, I, L))) (s3 := (d + 1, 40, 12, [some (.ref 32)], [], 0, 0, (mSH, I, L))) rfl (fun c2 => ?_) (fun c2 => ?_)
      · refine mB 1 (s2 := (d + 1, 40, 17, [some (.ref 32)], [.int 0], 0, 0, (mSH, I, L))) rfl ?_
        refine mRt (r := (some (.int 0))) (h := (mSH, I, L)) rfl rfl ?_
        show mWP mTb_ mFT ro (d + 2, 32, 26, [some (.ref 28), some (.ref 32), some (.int (nI (kFg b t 200 a))), some (.int ((nI (kFg b t 200 a)) - (I 28 2))), none, none], [.int 0], 0, 0, (mSH, I, L)) _
        refine mBT (s2 := (d + 2, 32, 31, [some (.ref 28), some (.ref 32), some (.int (nI (kFg b t 200 a))), some (.int ((nI (kFg b t 200 a)) - (I 28 2))), none, none], [], 0, 0, (mSH, I, L))) rfl (by decide) ?_
        refine mB 5 (s2 := (d + 2, 32, 40, [some (.ref 28), some (.ref 32), some (.int (nI (kFg b t 200 a))), some (.int ((nI (kFg b t 200 a)) - (I 28 2))), some (.int 0), some (.int (I 28 2))], [], 0, 0, (mSH, I, L))) rfl ?_
        exact x_n40_32 h120 hb ht hp ha hl hm (xNe hp (by have := kFg_le (b := b) (t := t) 200 a; omega) (kFg_ge 200 a) (of_decide_eq_false c0) (of_decide_eq_false c1)) (xNfull (N := 8) hl.1 hm (by omega) (of_decide_eq_true c2)) q0 q1
      · refine mB 2 (s2 := (d + 1, 40, 17, [some (.ref 32)], [.int 1], 0, 0, (mSH, I, L))) rfl ?_
        refine mRt (r := (some (.int 1))) (h := (mSH, I, L)) rfl rfl ?_
        show mWP mTb_ mFT ro (d + 2, 32, 26, [some (.ref 28), some (.ref 32), some (.int (nI (kFg b t 200 a))), some (.int ((nI (kFg b t 200 a)) - (I 28 2))), none, none], [.int 1], 0, 0, (mSH, I, L)) _
        refine mBF (s3 := (d + 2, 32, 29, [some (.ref 28), some (.ref 32), some (.int (nI (kFg b t 200 a))), some (.int ((nI (kFg b t 200 a)) - (I 28 2))), none, none], [], 0, 0, (mSH, I, L))) rfl (by decide) ?_
        refine mB 1 (s2 := (d + 2, 32, 30, [some (.ref 28), some (.ref 32), some (.int (nI (kFg b t 200 a))), some (.int ((nI (kFg b t 200 a)) - (I 28 2))), none, none], [.int 0], 0, 0, (mSH, I, L))) rfl ?_
        refine mRt (r := (some (.int 0))) (h := (mSH, I, L)) rfl rfl ?_
        exact q0 (Or.inl (xFull (N := 8) hl.1 hm (by omega) (of_decide_eq_false c2)))
theorem s_xns_32 {ro : Nat → Nat × (Nat → Int32)} {Q : mPo} {d : Nat} {I : Nat → Nat → Int32} {L : Nat → Nat → Int64} {t a c : Nat} {b : Nat → Int32} (h120 : t ≤ 120) (hb : I 27 = b) (ht : I 26 1 = nI t) (hp : I 28 2 = nI a) (ha : a ≤ 200) {l : List Int32} (hl : xRw 32 33 l I) (hm : l.length ≤ 8) (hS : kS b t a ≤ 200) (z0 : (16 : Int32) < nI c → Q (some (.int 0)) (mSH, I, L)) (p1 : 0 < l.length → mAt (mUp I 28 2 (nI (kS b t a))) 26 27 (nI (kS b t a)) = 59 → Q (some (.int 1)) (mSH, mUp (mUp I 28 2 (nI (kS b t a))) 28 2 (nI (kS b t a) + 1), L)) (p0 : ¬ (0 < l.length ∧ (kS b t a) < t ∧ b (kS b t a) = 59) → (l.length = 8 ∨ kNum b t (kS b t a) = none) → Q (some (.int 0)) (mSH, mUp I 28 2 (nI (kS b t a)), L)) (ih : ¬ (0 < l.length ∧ (kS b t a) < t ∧ b (kS b t a) = 59) → l.length < 8 → ∀ v e, kNum b t (kS b t a) = some (v, e) → e ≤ t → mWP mTb_ mFT ro (d + 3, 31, 2, [some (.ref 28), some (.ref 32), some (.int (nI c + 1))], [], 0, 0, (mSH, (mUp (mUp (mUp (mUp I 28 2 (nI (kS b t a))) 33 l.length v) 32 1 (nI (l.length + 1))) 28 2 (nI e)), L)) Q)   : mWP mTb_ mFT ro (d + 3, 31, 2, [some (.ref 28), some (.ref 32), some (.int (nI c))], [], 0, 0, (mSH, I, L)) Q := by
  have n26 : mCn I 26 120 := mCn.of ht h120 (by omega)
  refine mB 2 (s2 := (d + 3, 31, 5, [some (.ref 28), some (.ref 32), some (.int (nI c))], [.int 16, .int (nI c)], 0, 0, (mSH, I, L))) rfl ?_
  refine mBr (s2 := (d + 3, 31, 63, [some (.ref 28), some (.ref 32), some (.int (nI c))], [], 0, 0, (mSH, I, L))) (s3 := (d + 3, 31, 8, [some (.ref 28), some (.ref 32), some (.int (nI c))], [], 0, 0, (mSH, I, L))) rfl (fun c0 => ?_) (fun c0 => ?_)
  · refine mB 1 (s2 := (d + 3, 31, 64, [some (.ref 28), some (.ref 32), some (.int (nI c))], [.int 0], 0, 0, (mSH, I, L))) rfl ?_
    refine mRt (r := (some (.int 0))) (h := (mSH, I, L)) rfl rfl ?_
    exact z0 (of_decide_eq_true c0)
  · refine mB 1 (s2 := (d + 3, 31, 9, [some (.ref 28), some (.ref 32), some (.int (nI c))], [.ref 28], 0, 0, (mSH, I, L))) rfl ?_
    refine mCall (s2 := (d + 2, 34, 0, [some (.ref 28)], [], 0, 0, (mSH, I, L))) rfl ?_
    refine x_skip h120 hb ht hp (by omega) ?_
    show mWP mTb_ mFT ro (d + 3, 31, 12, [some (.ref 28), some (.ref 32), some (.int (nI c))], [], 0, 0, (mSH, (mUp I 28 2 (nI (kS b t a))), L)) _
    refine mB 1 (s2 := (d + 3, 31, 13, [some (.ref 28), some (.ref 32), some (.int (nI c))], [.ref 32], 0, 0, (mSH, (mUp I 28 2 (nI (kS b t a))), L))) rfl ?_
    refine mCall (s2 := (d + 2, 39, 0, [some (.ref 32)], [], 0, 0, (mSH, (mUp I 28 2 (nI (kS b t a))), L))) rfl ?_
    refine mB 2 (s2 := (d + 2, 39, 4, [some (.ref 32)], [.int (I 32 1)], 0, 0, (mSH, (mUp I 28 2 (nI (kS b t a))), L))) rfl ?_
    refine mRt (r := (some (.int (I 32 1)))) (h := (mSH, (mUp I 28 2 (nI (kS b t a))), L)) rfl (mRet_int rfl) ?_
    show mWP mTb_ mFT ro (d + 3, 31, 16, [some (.ref 28), some (.ref 32), some (.int (nI c))], [.int (I 32 1)], 0, 0, (mSH, (mUp I 28 2 (nI (kS b t a))), L)) _
    refine mBr (s2 := (d + 3, 31, 47, [some (.ref 28), some (.ref 32), some (.int (nI c))], [], 0, 0, (mSH, (mUp I 28 2 (nI (kS b t a))), L))) (s3 := (d + 3, 31, 19, [some (.ref 28), some (.ref 32), some (.int (nI c))], [], 0, 0, (mSH, (mUp I 28 2 (nI (kS b t a))), L))) rfl (fun c1 => ?_) (fun c1 => ?_)
    · refine mB 2 (s2 := (d + 3, 31, 49, [some (.ref 28), some (.ref 32), some (.int (nI c))], [.ref 32, .ref 28], 0, 0, (mSH, (mUp I 28 2 (nI (kS b t a))), L))) rfl ?_
      refine mCall (s2 := (d + 2, 32, 0, [some (.ref 28), some (.ref 32), none, none, none, none], [], 0, 0, (mSH, (mUp I 28 2 (nI (kS b t a))), L))) rfl ?_
      refine x_num_32 (l := l) (a := (kS b t a)) h120 hb ht rfl hS hl hm ?_ ?_
      · intro k0
        show mWP mTb_ mFT ro (d + 3, 31, 52, [some (.ref 28), some (.ref 32), some (.int (nI c))], [.int 0], 0, 0, (mSH, (mUp I 28 2 (nI (kS b t a))), L)) _
        refine mBT (s2 := (d + 3, 31, 55, [some (.ref 28), some (.ref 32), some (.int (nI c))], [], 0, 0, (mSH, (mUp I 28 2 (nI (kS b t a))), L))) rfl (by decide) ?_
        refine mB 1 (s2 := (d + 3, 31, 56, [some (.ref 28), some (.ref 32), some (.int (nI c))], [.int 0], 0, 0, (mSH, (mUp I 28 2 (nI (kS b t a))), L))) rfl ?_
        refine mRt (r := (some (.int 0))) (h := (mSH, (mUp I 28 2 (nI (kS b t a))), L)) rfl rfl ?_
        exact p0 (fun z => x59a hl.1 (by omega) (of_decide_eq_true c1) z.1) k0
      · intro k1 v e ke le
        show mWP mTb_ mFT ro (d + 3, 31, 52, [some (.ref 28), some (.ref 32), some (.int (nI c))], [.int 1], 0, 0, (mSH, (mUp (mUp (mUp (mUp I 28 2 (nI (kS b t a))) 33 l.length v) 32 1 (nI (l.length + 1))) 28 2 (nI e)), L)) _
        refine mBF (s3 := (d + 3, 31, 57, [some (.ref 28), some (.ref 32), some (.int (nI c))], [], 0, 0, (mSH, (mUp (mUp (mUp (mUp I 28 2 (nI (kS b t a))) 33 l.length v) 32 1 (nI (l.length + 1))) 28 2 (nI e)), L))) rfl (by decide) ?_
        refine mB 2 (s2 := (d + 3, 31, 2, [some (.ref 28), some (.ref 32), some (.int ((nI c) + 1))], [], 0, 0, (mSH, (mUp (mUp (mUp (mUp I 28 2 (nI (kS b t a))) 33 l.length v) 32 1 (nI (l.length + 1))) 28 2 (nI e)), L))) rfl ?_
        exact ih (fun z => x59a hl.1 (by omega) (of_decide_eq_true c1) z.1) k1 v e ke le
    · refine mB 4 (s2 := (d + 3, 31, 27, [some (.ref 28), some (.ref 32), some (.int (nI c))], [.int (nI (kS b t a)), .ref 26], 0, 0, (mSH, (mUp I 28 2 (nI (kS b t a))), L))) rfl ?_
      refine mCall (s2 := (d + 2, 42, 0, [some (.ref 26), some (.int (nI (kS b t a)))], [], 0, 0, (mSH, (mUp I 28 2 (nI (kS b t a))), L))) rfl ?_
      refine w_at_26 n26 ?_
      show mWP mTb_ mFT ro (d + 3, 31, 30, [some (.ref 28), some (.ref 32), some (.int (nI c))], [.int (mAt (mUp I 28 2 (nI (kS b t a))) 26 27 (nI (kS b t a)))], 0, 0, (mSH, (mUp I 28 2 (nI (kS b t a))), L)) _
      refine mB 1 (s2 := (d + 3, 31, 32, [some (.ref 28), some (.ref 32), some (.int (nI c))], [.int 59, .int (mAt (mUp I 28 2 (nI (kS b t a))) 26 27 (nI (kS b t a)))], 0, 0, (mSH, (mUp I 28 2 (nI (kS b t a))), L))) rfl ?_
      refine mBr (s2 := (d + 3, 31, 35, [some (.ref 28), some (.ref 32), some (.int (nI c))], [], 0, 0, (mSH, (mUp I 28 2 (nI (kS b t a))), L))) (s3 := (d + 3, 31, 47, [some (.ref 28), some (.ref 32), some (.int (nI c))], [], 0, 0, (mSH, (mUp I 28 2 (nI (kS b t a))), L))) rfl (fun c2 => ?_) (fun c2 => ?_)
      · refine mB 7 (s2 := (d + 3, 31, 46, [some (.ref 28), some (.ref 32), some (.int (nI c))], [.int 1], 0, 0, (mSH, (mUp (mUp I 28 2 (nI (kS b t a))) 28 2 ((nI (kS b t a)) + 1)), L))) rfl ?_
        refine mRt (r := (some (.int 1))) (h := (mSH, (mUp (mUp I 28 2 (nI (kS b t a))) 28 2 ((nI (kS b t a)) + 1)), L)) rfl rfl ?_
        exact p1 (x59b hl.1 (of_decide_eq_false c1)) (of_decide_eq_true c2)
      · refine mB 2 (s2 := (d + 3, 31, 49, [some (.ref 28), some (.ref 32), some (.int (nI c))], [.ref 32, .ref 28], 0, 0, (mSH, (mUp I 28 2 (nI (kS b t a))), L))) rfl ?_
        refine mCall (s2 := (d + 2, 32, 0, [some (.ref 28), some (.ref 32), none, none, none, none], [], 0, 0, (mSH, (mUp I 28 2 (nI (kS b t a))), L))) rfl ?_
        refine x_num_32 (l := l) (a := (kS b t a)) h120 hb ht rfl hS hl hm ?_ ?_
        · intro k0
          show mWP mTb_ mFT ro (d + 3, 31, 52, [some (.ref 28), some (.ref 32), some (.int (nI c))], [.int 0], 0, 0, (mSH, (mUp I 28 2 (nI (kS b t a))), L)) _
          refine mBT (s2 := (d + 3, 31, 55, [some (.ref 28), some (.ref 32), some (.int (nI c))], [], 0, 0, (mSH, (mUp I 28 2 (nI (kS b t a))), L))) rfl (by decide) ?_
          refine mB 1 (s2 := (d + 3, 31, 56, [some (.ref 28), some (.ref 32), some (.int (nI c))], [.int 0], 0, 0, (mSH, (mUp I 28 2 (nI (kS b t a))), L))) rfl ?_
          refine mRt (r := (some (.int 0))) (h := (mSH, (mUp I 28 2 (nI (kS b t a))), L)) rfl rfl ?_
          exact p0 (fun z => (of_decide_eq_false c2) (by rw [mAt_lt (I := mUp I 28 2 (nI (kS b t a))) (q := 26) (a := 27) (t := t) ht z.2.1 (by omega)]; show I 27 (kS b t a) = 59; rw [hb]; exact z.2.2)) k0
        · intro k1 v e ke le
          show mWP mTb_ mFT ro (d + 3, 31, 52, [some (.ref 28), some (.ref 32), some (.int (nI c))], [.int 1], 0, 0, (mSH, (mUp (mUp (mUp (mUp I 28 2 (nI (kS b t a))) 33 l.length v) 32 1 (nI (l.length + 1))) 28 2 (nI e)), L)) _
          refine mBF (s3 := (d + 3, 31, 57, [some (.ref 28), some (.ref 32), some (.int (nI c))], [], 0, 0, (mSH, (mUp (mUp (mUp (mUp I 28 2 (nI (kS b t a))) 33 l.length v) 32 1 (nI (l.length + 1))) 28 2 (nI e)), L))) rfl (by decide) ?_
          refine mB 2 (s2 := (d + 3, 31, 2, [some (.ref 28), some (.ref 32), some (.int ((nI c) + 1))], [], 0, 0, (mSH, (mUp (mUp (mUp (mUp I 28 2 (nI (kS b t a))) 33 l.length v) 32 1 (nI (l.length + 1))) 28 2 (nI e)), L))) rfl ?_
          exact ih (fun z => (of_decide_eq_false c2) (by rw [mAt_lt (I := mUp I 28 2 (nI (kS b t a))) (q := 26) (a := 27) (t := t) ht z.2.1 (by omega)]; show I 27 (kS b t a) = 59; rw [hb]; exact z.2.2)) k1 v e ke le
theorem l_xns_32 {ro : Nat → Nat × (Nat → Int32)} {Q : mPo} {d : Nat} {L : Nat → Nat → Int64} {t : Nat} (h120 : t ≤ 120) {b : Nat → Int32} : ∀ (m c a : Nat) (l : List Int32) (I : Nat → Nat → Int32), c + m = 17 → I 27 = b → I 26 1 = nI t → I 28 2 = nI a → a ≤ 120 → xRw 32 33 l I → l.length ≤ 8 → (kNums b t 8 m a l = none → ∀ I1, (∀ z, z ≠ 28 → z ≠ 32 → z ≠ 33 → I1 z = I z) → mCn I1 32 8 → Q (some (.int 0)) (mSH, I1, L)) → (∀ l' e, kNums b t 8 m a l = some (l', e) → e ≤ 120 → l'.length ≤ 8 → ∀ I1, (∀ z, z ≠ 28 → z ≠ 32 → z ≠ 33 → I1 z = I z) → I1 28 2 = nI e → xRw 32 33 l' I1 → Q (some (.int 1)) (mSH, I1, L)) → mWP mTb_ mFT ro (d + 3, 31, 2, [some (.ref 28), some (.ref 32), some (.int (nI c))], [], 0, 0, (mSH, I, L)) Q := by
  intro m
  induction m with
  | zero =>
    intro c a l I hc hb ht hp ha hl hm q0 q1
    have z : (16 : Int32) < nI c := nI_lt (a := 16) (b := c) (by omega) (by omega)
    refine mB 2 (s2 := (d + 3, 31, 5, [some (.ref 28), some (.ref 32), some (.int (nI c))], [.int 16, .int (nI c)], 0, 0, (mSH, I, L))) rfl ?_
    refine mBT (s2 := (d + 3, 31, 63, [some (.ref 28), some (.ref 32), some (.int (nI c))], [], 0, 0, (mSH, I, L))) rfl (decide_eq_true z) ?_
    refine mB 1 (s2 := (d + 3, 31, 64, [some (.ref 28), some (.ref 32), some (.int (nI c))], [.int 0], 0, 0, (mSH, I, L))) rfl ?_
    exact mRt (r := some (.int 0)) (h := (mSH, I, L)) rfl rfl (q0 rfl I (fun _ _ _ _ => rfl) (mCn.of hl.1 hm (by omega)))
  | succ m ih =>
    intro c a l I hc hb ht hp ha hl hm q0 q1
    have hS : kS b t a ≤ 120 := by
      have := kSk_le (b := b) (t := t) 200 a
      rw [kS_e]
      omega
    have z : ¬ (16 : Int32) < nI c := nI_nlt (a := 16) (b := c) (by omega) (by omega)
    refine s_xns_32 h120 hb ht hp (by omega) hl hm (by omega) (fun c => absurd c z) (fun h1 h2 => ?_) (fun n5 h => q0 ?_ _ (fun z z1 z2 z3 => by rw [mUp_row z1]) (mCn.of (I := mUp I 28 2 (nI (kS b t a))) hl.1 hm (by omega))) (fun n5 hlt v e ke le => ?_)
    · have lt : kS b t a < t := by
        rcases Nat.lt_or_ge (kS b t a) t with g | g
        · exact g
        · refine absurd h2 ?_
          unfold mAt
          rw [if_neg (nI_pos (by omega)), if_pos]
          · decide
          · show I 26 1 ≤ _
            rw [ht]
            exact nI_le g (by omega)
      have b59 : b (kS b t a) = 59 := by
        rw [mAt_lt (I := mUp I 28 2 (nI (kS b t a))) (q := 26) (a := 27) (t := t) ht lt (by omega)] at h2
        have h2 : I 27 (kS b t a) = 59 := h2
        rw [hb] at h2
        exact h2
      refine q1 l (kS b t a + 1) ?_ (by omega) hm _ (fun z z1 z2 z3 => ?_) ?_ hl
      · unfold kNums
        rw [if_pos ⟨h1, lt, b59⟩]
      · rw [mUp_row z1, mUp_row z1]
      · rw [xUs, nI_1]
    · unfold kNums
      rw [if_neg n5]
      rcases h with h | h
      · rw [if_pos h]
      · rw [h]
        split <;> rfl
    · have un : kNums b t 8 (m + 1) a l = kNums b t 8 m e (l ++ [v]) := by
        conv => lhs; unfold kNums
        rw [if_neg n5, if_neg (by omega), ke]
      rw [nI_1]
      refine ih (c + 1) e (l ++ [v]) _ (by omega) hb ht xUs (by omega) (xRw.app (v := v) (I := I) hl ?_ ?_) (by rw [List.length_append]; exact hlt) (fun k I1 f1 f2 => q0 (un.trans k) I1 (fun z z1 z2 z3 => by rw [f1 z z1 z2 z3, mUp_row z1, mUp_row z2, mUp_row z3, mUp_row z1]) f2) (fun l' e' k h1 h3 I1 f1 f2 f3 => q1 l' e' (un.trans k) h1 h3 I1 (fun z z1 z2 z3 => ?_) f2 f3)
      · rfl
      · rfl
      · rw [f1 z z1 z2 z3, mUp_row z1, mUp_row z2, mUp_row z3, mUp_row z1]
theorem x_nums_32 {ro : Nat → Nat × (Nat → Int32)} {Q : mPo} {d : Nat} {L : Nat → Nat → Int64} {t : Nat} (h120 : t ≤ 120) {I : Nat → Nat → Int32} {b : Nat → Int32} {a : Nat} (hb : I 27 = b) (ht : I 26 1 = nI t) (hp : I 28 2 = nI a) (ha : a ≤ 120) (hl : I 32 1 = 0) (q0 : kNums b t 8 17 a [] = none → ∀ I1, (∀ z, z ≠ 28 → z ≠ 32 → z ≠ 33 → I1 z = I z) → mCn I1 32 8 → Q (some (.int 0)) (mSH, I1, L)) (q1 : ∀ l' e, kNums b t 8 17 a [] = some (l', e) → e ≤ 120 → l'.length ≤ 8 → ∀ I1, (∀ z, z ≠ 28 → z ≠ 32 → z ≠ 33 → I1 z = I z) → I1 28 2 = nI e → xRw 32 33 l' I1 → Q (some (.int 1)) (mSH, I1, L)) : mWP mTb_ mFT ro (d + 3, 31, 0, [some (.ref 28), some (.ref 32), none], [], 0, 0, (mSH, I, L)) Q :=
  mB 2 (s2 := (d + 3, 31, 2, [some (.ref 28), some (.ref 32), some (.int (nI 0))], [], 0, 0, (mSH, I, L))) rfl (l_xns_32 h120 17 0 a [] I rfl hb ht hp ha (xRw.nil hl) (Nat.zero_le _) q0 q1)
