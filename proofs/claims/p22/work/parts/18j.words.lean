/-! The class reads words, exactly. Written by a program (wip/mk_c.py). -/
section XU
variable {I : Nat → Nat → Int32} {c j : Nat} {v w : Int32}
theorem xUs : mUp I c j v c j = v := by
  unfold mUp
  rw [if_pos rfl, if_pos rfl]
theorem xUo {z : Nat} (h : z ≠ j) : mUp I c j v c z = I c z := by
  unfold mUp
  rw [if_pos rfl, if_neg h]
theorem xU2 : mUp (mUp I c j v) c j w = mUp I c j w := by
  funext r i
  unfold mUp
  by_cases e : r = c
  · by_cases g : i = j
    · simp only [if_pos e, if_pos g]
    · simp only [if_pos e, if_neg g]
  · simp only [if_neg e]
theorem xUi : mUp I c j (I c j) = I := by
  funext r i
  unfold mUp
  by_cases e : r = c
  · subst e
    rw [if_pos rfl]
    by_cases g : i = j
    · subst g
      rw [if_pos rfl]
    · rw [if_neg g]
  · rw [if_neg e]
theorem mAt_lt {q a t k : Nat} (ht : I q 1 = nI t) (hk : k < t) (h : t < 2 ^ 31) : mAt I q a (nI k) = I a k := by
  unfold mAt
  rw [if_neg (nI_pos (by omega)), ht, if_neg (nI_ge hk h), nI_clamp (by omega)]
end XU
theorem z_skip {ro : Nat → Nat × (Nat → Int32)} {Q : mPo} {d : Nat} {I : Nat → Nat → Int32} {L : Nat → Nat → Int64} (n26 : mCn I 26 120) (h1 : ((I 26 1) ≤ (I 28 2)) → Q none (mSH, I, L)) (h2 : ¬ ((I 26 1) ≤ (I 28 2)) → ((mAt I 26 27 (I 28 2)) = 32) → mWP mTb_ mFT ro (d + 1, 34, 0, [some (.ref 28)], [], 0, 0, (mSH, (mUp I 28 2 ((I 28 2) + 1)), L)) Q) (h3 : ¬ ((I 26 1) ≤ (I 28 2)) → ¬ ((mAt I 26 27 (I 28 2)) = 32) → Q none (mSH, I, L)) : mWP mTb_ mFT ro (d + 1, 34, 0, [some (.ref 28)], [], 0, 0, (mSH, I, L)) Q := by
  refine mB 4 (s2 := (d + 1, 34, 8, [some (.ref 28)], [.ref 26, .int (I 28 2)], 0, 0, (mSH, I, L))) rfl ?_
  refine mCall (s2 := (d, 39, 0, [some (.ref 26)], [], 0, 0, (mSH, I, L))) rfl ?_
  refine mB 2 (s2 := (d, 39, 4, [some (.ref 26)], [.int (I 26 1)], 0, 0, (mSH, I, L))) rfl ?_
  refine mRt (r := (some (.int (I 26 1)))) (h := (mSH, I, L)) rfl (mRet_int rfl) ?_
  show mWP mTb_ mFT ro (d + 1, 34, 11, [some (.ref 28)], [.int (I 26 1), .int (I 28 2)], 0, 0, (mSH, I, L)) _
  refine mBr (s2 := (d + 1, 34, 43, [some (.ref 28)], [], 0, 0, (mSH, I, L))) (s3 := (d + 1, 34, 14, [some (.ref 28)], [], 0, 0, (mSH, I, L))) rfl (fun c0 => ?_) (fun c0 => ?_)
  · refine mRt (r := none) (h := (mSH, I, L)) rfl rfl ?_
    exact h1 (of_decide_eq_true c0)
  · refine mB 4 (s2 := (d + 1, 34, 22, [some (.ref 28)], [.int (I 28 2), .ref 26], 0, 0, (mSH, I, L))) rfl ?_
    refine mCall (s2 := (d, 42, 0, [some (.ref 26), some (.int (I 28 2))], [], 0, 0, (mSH, I, L))) rfl ?_
    refine w_at_26 n26 ?_
    show mWP mTb_ mFT ro (d + 1, 34, 25, [some (.ref 28)], [.int (mAt I 26 27 (I 28 2))], 0, 0, (mSH, I, L)) _
    refine mB 1 (s2 := (d + 1, 34, 27, [some (.ref 28)], [.int 32, .int (mAt I 26 27 (I 28 2))], 0, 0, (mSH, I, L))) rfl ?_
    refine mBr (s2 := (d + 1, 34, 30, [some (.ref 28)], [], 0, 0, (mSH, I, L))) (s3 := (d + 1, 34, 43, [some (.ref 28)], [], 0, 0, (mSH, I, L))) rfl (fun c1 => ?_) (fun c1 => ?_)
    · refine mB 7 (s2 := (d + 1, 34, 0, [some (.ref 28)], [], 0, 0, (mSH, (mUp I 28 2 ((I 28 2) + 1)), L))) rfl ?_
      exact h2 (of_decide_eq_false c0) (of_decide_eq_true c1)
    · refine mRt (r := none) (h := (mSH, I, L)) rfl rfl ?_
      exact h3 (of_decide_eq_false c0) (of_decide_eq_false c1)
theorem l_xsk {ro : Nat → Nat × (Nat → Int32)} {Q : mPo} {d : Nat} {L : Nat → Nat → Int64} {t : Nat} (h120 : t ≤ 120) : ∀ (m a : Nat) (I : Nat → Nat → Int32), I 26 1 = nI t → I 28 2 = nI a → a ≤ 400 → t ≤ a + m → Q none (mSH, mUp I 28 2 (nI (kSk (I 27) t m a)), L) → mWP mTb_ mFT ro (d + 1, 34, 0, [some (.ref 28)], [], 0, 0, (mSH, I, L)) Q
  | 0, a, I, ht, hp, ha, h, hq => by
    have z : I 26 1 ≤ I 28 2 := by
      rw [ht, hp]
      exact nI_le (by omega) (by omega)
    have hq : Q none (mSH, mUp I 28 2 (nI a), L) := hq
    rw [← hp, xUi] at hq
    exact z_skip (mCn.of ht h120 (by omega)) (fun _ => hq) (fun c => absurd z c) (fun c => absurd z c)
  | m + 1, a, I, ht, hp, ha, h, hq => by
    have n26 : mCn I 26 120 := mCn.of ht h120 (by omega)
    have i1 : ¬ (a < t ∧ I 27 a = 32) → Q none (mSH, I, L) := fun g => by
      unfold kSk at hq
      rw [if_neg g, ← hp, xUi] at hq
      exact hq
    have lt : ¬ I 26 1 ≤ I 28 2 → a < t := fun z => by
      rw [ht, hp, nI_leI (by omega) (by omega)] at z
      omega
    have at_ : a < t → mAt I 26 27 (I 28 2) = I 27 a := fun g => by
      rw [hp]
      exact mAt_lt ht g (by omega)
    refine z_skip n26 (fun z => i1 (fun g => ?_)) (fun z e => ?_) (fun z e => i1 (fun g => e ?_))
    · rw [ht, hp, nI_leI (by omega) (by omega)] at z
      omega
    · have g := lt z
      rw [at_ g] at e
      unfold kSk at hq
      rw [if_pos ⟨g, e⟩] at hq
      rw [hp, nI_1]
      refine l_xsk h120 m (a + 1) _ ht xUs (by omega) (by omega) ?_
      rw [xU2]
      exact hq
    · rw [at_ g.1]
      exact g.2
theorem x_skip {ro : Nat → Nat × (Nat → Int32)} {Q : mPo} {d : Nat} {L : Nat → Nat → Int64} {t : Nat} (h120 : t ≤ 120) {I : Nat → Nat → Int32} {b : Nat → Int32} {a : Nat} (hb : I 27 = b) (ht : I 26 1 = nI t) (hp : I 28 2 = nI a) (ha : a ≤ 400) (hq : Q none (mSH, mUp I 28 2 (nI (kS b t a)), L)) : mWP mTb_ mFT ro (d + 1, 34, 0, [some (.ref 28)], [], 0, 0, (mSH, I, L)) Q := by
  subst hb
  rw [kS_e] at hq
  exact l_xsk h120 200 a I ht hp ha (by omega) hq
theorem l_xel {ro : Nat → Nat × (Nat → Int32)} {Q : mPo} {d : Nat} {L : Nat → Nat → Int64} {t : Nat} (h120 : t ≤ 120) {I : Nat → Nat → Int32} (ht : I 26 1 = nI t) : ∀ (m a : Nat), a ≤ 400 → t ≤ a + m → Q (some (.int (nI (kLe (I 27) t m a)))) (mSH, I, L) → mWP mTb_ mFT ro (d + 1, 35, 5, [some (.ref 28), some (.int (nI a))], [], 0, 0, (mSH, I, L)) Q
  | 0, a, ha, h, hq => by
    have n26 : mCn I 26 120 := mCn.of ht h120 (by omega)
    have z : I 26 1 ≤ nI a := by
      rw [ht]
      exact nI_le (by omega) (by omega)
    have hq : Q (some (.int (nI a))) (mSH, I, L) := hq
    apply s_eol n26 <;> intros <;> first | exact hq | exact absurd z (by assumption)
  | m + 1, a, ha, h, hq => by
    have n26 : mCn I 26 120 := mCn.of ht h120 (by omega)
    have i1 : ¬ (a < t ∧ kIsL (I 27 a)) → Q (some (.int (nI a))) (mSH, I, L) := fun g => by
      unfold kLe at hq
      rw [if_neg g] at hq
      exact hq
    have lt : ¬ I 26 1 ≤ nI a → a < t := fun z => by
      rw [ht, nI_leI (by omega) (by omega)] at z
      omega
    have at_ : a < t → mAt I 26 27 (nI a) = I 27 a := fun g => mAt_lt ht g (by omega)
    have nx : (a < t ∧ kIsL (I 27 a)) → mWP mTb_ mFT ro (d + 1, 35, 5, [some (.ref 28), some (.int (nI a + 1))], [], 0, 0, (mSH, I, L)) Q := fun g => by
      unfold kLe at hq
      rw [if_pos g] at hq
      rw [nI_1]
      exact l_xel h120 ht m (a + 1) (by omega) (by omega) hq
    refine s_eol n26 (fun z => i1 (fun g => ?_)) (fun z c1 c2 => i1 (fun g => ?_)) (fun z c1 c2 c3 => i1 (fun g => ?_)) (fun z c1 c2 c3 => ?_) (fun z c1 c2 => ?_) (fun z c1 c2 => i1 (fun g => ?_))
    · rw [ht, nI_leI (by omega) (by omega)] at z
      omega
    · rw [at_ g.1] at c1 c2
      rcases g.2 with k | k
      · exact k.1 c1
      · exact k.1 c2
    · rw [at_ g.1] at c1 c2 c3
      rcases g.2 with k | k
      · exact k.1 c1
      · exact k.2 c3
    · rw [at_ (lt z)] at c2 c3
      exact nx ⟨lt z, Or.inr ⟨c2, c3⟩⟩
    · rw [at_ (lt z)] at c1 c2
      exact nx ⟨lt z, Or.inl ⟨c1, c2⟩⟩
    · rw [at_ g.1] at c1 c2
      rcases g.2 with k | k
      · exact c2 k.2
      · have k2 := k.2
        rw [Int32.lt_iff_toInt_lt, mLi90] at k2
        rw [Int32.lt_iff_toInt_lt, mLi97] at c1
        omega
theorem x_el {ro : Nat → Nat × (Nat → Int32)} {Q : mPo} {d : Nat} {L : Nat → Nat → Int64} {t : Nat} (h120 : t ≤ 120) {I : Nat → Nat → Int32} {b : Nat → Int32} {a : Nat} (hb : I 27 = b) (ht : I 26 1 = nI t) (hp : I 28 2 = nI a) (ha : a ≤ 400) (hq : Q (some (.int (nI (kLe b t 200 a)))) (mSH, I, L)) : mWP mTb_ mFT ro (d + 1, 35, 0, [some (.ref 28), none], [], 0, 0, (mSH, I, L)) Q := by
  subst hb
  refine mB 3 (s2 := (d + 1, 35, 5, [some (.ref 28), some (.int (I 28 2))], [], 0, 0, (mSH, I, L))) rfl ?_
  rw [hp]
  exact l_xel h120 ht 200 a ha (by omega) hq
theorem l_xef {ro : Nat → Nat × (Nat → Int32)} {Q : mPo} {d : Nat} {L : Nat → Nat → Int64} {t : Nat} (h120 : t ≤ 120) {I : Nat → Nat → Int32} (ht : I 26 1 = nI t) : ∀ (m a : Nat), a ≤ 400 → t ≤ a + m → Q (some (.int (nI (kFg (I 27) t m a)))) (mSH, I, L) → mWP mTb_ mFT ro (d + 1, 36, 5, [some (.ref 28), some (.int (nI a))], [], 0, 0, (mSH, I, L)) Q
  | 0, a, ha, h, hq => by
    have n26 : mCn I 26 120 := mCn.of ht h120 (by omega)
    have z : I 26 1 ≤ nI a := by
      rw [ht]
      exact nI_le (by omega) (by omega)
    have hq : Q (some (.int (nI a))) (mSH, I, L) := hq
    apply s_eof n26 <;> intros <;> first | exact hq | exact absurd z (by assumption)
  | m + 1, a, ha, h, hq => by
    have n26 : mCn I 26 120 := mCn.of ht h120 (by omega)
    have i1 : ¬ (a < t ∧ (¬ I 27 a < 48 ∧ ¬ (57 : Int32) < I 27 a)) → Q (some (.int (nI a))) (mSH, I, L) := fun g => by
      unfold kFg at hq
      rw [if_neg g] at hq
      exact hq
    have lt : ¬ I 26 1 ≤ nI a → a < t := fun z => by
      rw [ht, nI_leI (by omega) (by omega)] at z
      omega
    have at_ : a < t → mAt I 26 27 (nI a) = I 27 a := fun g => mAt_lt ht g (by omega)
    have nx : (a < t ∧ (¬ I 27 a < 48 ∧ ¬ (57 : Int32) < I 27 a)) → mWP mTb_ mFT ro (d + 1, 36, 5, [some (.ref 28), some (.int (nI a + 1))], [], 0, 0, (mSH, I, L)) Q := fun g => by
      unfold kFg at hq
      rw [if_pos g] at hq
      rw [nI_1]
      exact l_xef h120 ht m (a + 1) (by omega) (by omega) hq
    refine s_eof n26 (fun z => i1 (fun g => ?_)) (fun z c1 => i1 (fun g => ?_)) (fun z c1 c2 => i1 (fun g => ?_)) (fun z c1 c2 => ?_)
    · rw [ht, nI_leI (by omega) (by omega)] at z
      omega
    · rw [at_ g.1] at c1
      exact g.2.1 c1
    · rw [at_ g.1] at c2
      exact g.2.2 c2
    · rw [at_ (lt z)] at c1 c2
      exact nx ⟨lt z, c1, c2⟩
theorem x_ef {ro : Nat → Nat × (Nat → Int32)} {Q : mPo} {d : Nat} {L : Nat → Nat → Int64} {t : Nat} (h120 : t ≤ 120) {I : Nat → Nat → Int32} {b : Nat → Int32} {a : Nat} (hb : I 27 = b) (ht : I 26 1 = nI t) (hp : I 28 2 = nI a) (ha : a ≤ 400) (hq : Q (some (.int (nI (kFg b t 200 a)))) (mSH, I, L)) : mWP mTb_ mFT ro (d + 1, 36, 0, [some (.ref 28), none], [], 0, 0, (mSH, I, L)) Q := by
  subst hb
  refine mB 3 (s2 := (d + 1, 36, 5, [some (.ref 28), some (.int (I 28 2))], [], 0, 0, (mSH, I, L))) rfl ?_
  rw [hp]
  exact l_xef h120 ht 200 a ha (by omega) hq
section XW
variable {b : Nat → Int32} {t a : Nat} {w : List Int32}
theorem kWd_f0 (hs : kS b t a ≤ 400) (h : ¬ (nI (kLe b t 200 (kS b t a)) - nI (kS b t a) = nI w.length)) : kWdC b t w a = none := if_neg (fun z => h (by
  rw [z.1, pk_sub (by omega)]
  congr 1
  omega))
theorem kWd_len (hs : kS b t a ≤ 400) (h120 : t ≤ 120) (hw : w.length ≤ 10) (h : nI (kLe b t 200 (kS b t a)) - nI (kS b t a) = nI w.length) : kLe b t 200 (kS b t a) = kS b t a + w.length := by
  have g := kLe_ge (b := b) (t := t) 200 (kS b t a)
  have l := kLe_le (b := b) (t := t) 200 (kS b t a)
  rw [pk_sub g, nI_eq (by omega) (by omega)] at h
  omega
theorem kWd_at {J : Nat → Nat → Int32} {k : Nat} (hJ : J 26 1 = nI t) (hb : J 27 = b) (hs : kS b t a ≤ 400) (h120 : t ≤ 120) (hw : w.length ≤ 10) (h : nI (kLe b t 200 (kS b t a)) - nI (kS b t a) = nI w.length) (hk : k < w.length) : mAt J 26 27 (nI (kS b t a) + nI k) = b (kS b t a + k) := by
  have e := kWd_len hs h120 hw h
  have l := kLe_le (b := b) (t := t) 200 (kS b t a)
  rw [nI_add, mAt_lt hJ (by omega) (by omega), hb]
theorem kWd_fk {J : Nat → Nat → Int32} {k : Nat} (hJ : J 26 1 = nI t) (hb : J 27 = b) (hs : kS b t a ≤ 400) (h120 : t ≤ 120) (hw : w.length ≤ 10) (h : nI (kLe b t 200 (kS b t a)) - nI (kS b t a) = nI w.length) (hk : k < w.length) (c : ¬ mAt J 26 27 (nI (kS b t a) + nI k) = w.getD k 0) : kWdC b t w a = none := if_neg (fun z => c (by
  rw [kWd_at hJ hb hs h120 hw h hk]
  exact z.2 k hk))
theorem kWd_t {J : Nat → Nat → Int32} (hJ : J 26 1 = nI t) (hb : J 27 = b) (hs : kS b t a ≤ 400) (h120 : t ≤ 120) (hw : w.length ≤ 10) (hw0 : 0 < w.length) (h : nI (kLe b t 200 (kS b t a)) - nI (kS b t a) = nI w.length) (hc : ∀ k, k < w.length → mAt J 26 27 (nI (kS b t a) + nI k) = w.getD k 0) : kWdC b t w a = some (kLe b t 200 (kS b t a)) ∧ kLe b t 200 (kS b t a) ≤ t := by
  have e := kWd_len hs h120 hw h
  have l := kLe_le (b := b) (t := t) 200 (kS b t a)
  refine ⟨?_, by omega⟩
  unfold kWdC
  rw [if_pos ⟨e, fun k hk => by rw [← kWd_at hJ hb hs h120 hw h hk]; exact hc k hk⟩, e]
end XW
theorem x_word_0 {ro : Nat → Nat × (Nat → Int32)} {Q : mPo} {d : Nat} {I : Nat → Nat → Int32} {L : Nat → Nat → Int64} {t a : Nat} {b : Nat → Int32} (h120 : t ≤ 120) (hb : I 27 = b) (ht : I 26 1 = nI t) (hp : I 28 2 = nI a) (ha : a ≤ 200) (hB : mRB ro) (q0 : kWdC b t kW0 a = none → Q (some (.int 0)) (mSH, mUp I 28 2 (nI (kS b t a)), L)) (q1 : ∀ e, kWdC b t kW0 a = some e → e ≤ t → Q (some (.int 1)) (mSH, mUp I 28 2 (nI e), L))   : mWP mTb_ mFT ro (d + 4, 30, 0, [some (.ref 28), some (.ref 1003), none, none], [], 0, 0, (mSH, I, L)) Q := by
  subst hb
  have hs : kS (I 27) t a ≤ 400 := by
    have := kSk_le (b := I 27) (t := t) 200 a
    rw [kS_e]
    omega
  have n26 : mCn I 26 120 := mCn.of ht h120 (by omega)
  refine mB 1 (s2 := (d + 4, 30, 1, [some (.ref 28), some (.ref 1003), none, none], [.ref 28], 0, 0, (mSH, I, L))) rfl ?_
  refine mCall (s2 := (d + 3, 34, 0, [some (.ref 28)], [], 0, 0, (mSH, I, L))) rfl ?_
  refine x_skip h120 (b := I 27) rfl ht hp (by omega) ?_
  show mWP mTb_ mFT ro (d + 4, 30, 4, [some (.ref 28), some (.ref 1003), none, none], [], 0, 0, (mSH, (mUp I 28 2 (nI (kS (I 27) t a))), L)) _
  refine mB 1 (s2 := (d + 4, 30, 5, [some (.ref 28), some (.ref 1003), none, none], [.ref 28], 0, 0, (mSH, (mUp I 28 2 (nI (kS (I 27) t a))), L))) rfl ?_
  refine mCall (s2 := (d + 3, 35, 0, [some (.ref 28), none], [], 0, 0, (mSH, (mUp I 28 2 (nI (kS (I 27) t a))), L))) rfl ?_
  refine x_el h120 (b := I 27) rfl ht rfl (by omega) ?_
  show mWP mTb_ mFT ro (d + 4, 30, 8, [some (.ref 28), some (.ref 1003), none, none], [.int (nI (kLe (I 27) t 200 (kS (I 27) t a)))], 0, 0, (mSH, (mUp I 28 2 (nI (kS (I 27) t a))), L)) _
  refine mB 6 (s2 := (d + 4, 30, 16, [some (.ref 28), some (.ref 1003), some (.int (nI (kLe (I 27) t 200 (kS (I 27) t a)))), none], [.ref 1003, .int ((nI (kLe (I 27) t 200 (kS (I 27) t a))) - (nI (kS (I 27) t a)))], 0, 0, (mSH, (mUp I 28 2 (nI (kS (I 27) t a))), L))) rfl ?_
  refine mCall (s2 := (d + 3, 160, 0, [some (.ref 1003)], [], 0, 0, (mSH, (mUp I 28 2 (nI (kS (I 27) t a))), L))) rfl ?_
  refine w_len_0 hB ?_
  show mWP mTb_ mFT ro (d + 4, 30, 19, [some (.ref 28), some (.ref 1003), some (.int (nI (kLe (I 27) t 200 (kS (I 27) t a)))), none], [.int 5, .int ((nI (kLe (I 27) t 200 (kS (I 27) t a))) - (nI (kS (I 27) t a)))], 0, 0, (mSH, (mUp I 28 2 (nI (kS (I 27) t a))), L)) _
  refine mBr (s2 := (d + 4, 30, 24, [some (.ref 28), some (.ref 1003), some (.int (nI (kLe (I 27) t 200 (kS (I 27) t a)))), none], [], 0, 0, (mSH, (mUp I 28 2 (nI (kS (I 27) t a))), L))) (s3 := (d + 4, 30, 22, [some (.ref 28), some (.ref 1003), some (.int (nI (kLe (I 27) t 200 (kS (I 27) t a)))), none], [], 0, 0, (mSH, (mUp I 28 2 (nI (kS (I 27) t a))), L))) rfl (fun c0 => ?_) (fun c0 => ?_)
  · refine mB 4 (s2 := (d + 4, 30, 28, [some (.ref 28), some (.ref 1003), some (.int (nI (kLe (I 27) t 200 (kS (I 27) t a)))), some (.int 0)], [.ref 1003, .int 0], 0, 0, (mSH, (mUp I 28 2 (nI (kS (I 27) t a))), L))) rfl ?_
    refine mCall (s2 := (d + 3, 160, 0, [some (.ref 1003)], [], 0, 0, (mSH, (mUp I 28 2 (nI (kS (I 27) t a))), L))) rfl ?_
    refine w_len_0 hB ?_
    show mWP mTb_ mFT ro (d + 4, 30, 31, [some (.ref 28), some (.ref 1003), some (.int (nI (kLe (I 27) t 200 (kS (I 27) t a)))), some (.int 0)], [.int 5, .int 0], 0, 0, (mSH, (mUp I 28 2 (nI (kS (I 27) t a))), L)) _
    refine mBF (s3 := (d + 4, 30, 34, [some (.ref 28), some (.ref 1003), some (.int (nI (kLe (I 27) t 200 (kS (I 27) t a)))), some (.int 0)], [], 0, 0, (mSH, (mUp I 28 2 (nI (kS (I 27) t a))), L))) rfl (by decide) ?_
    refine mB 6 (s2 := (d + 4, 30, 44, [some (.ref 28), some (.ref 1003), some (.int (nI (kLe (I 27) t 200 (kS (I 27) t a)))), some (.int 0)], [.int ((nI (kS (I 27) t a)) + 0), .ref 26], 0, 0, (mSH, (mUp I 28 2 (nI (kS (I 27) t a))), L))) rfl ?_
    refine mCall (s2 := (d + 3, 42, 0, [some (.ref 26), some (.int ((nI (kS (I 27) t a)) + 0))], [], 0, 0, (mSH, (mUp I 28 2 (nI (kS (I 27) t a))), L))) rfl ?_
    refine w_at_26 n26 ?_
    show mWP mTb_ mFT ro (d + 4, 30, 47, [some (.ref 28), some (.ref 1003), some (.int (nI (kLe (I 27) t 200 (kS (I 27) t a)))), some (.int 0)], [.int (mAt (mUp I 28 2 (nI (kS (I 27) t a))) 26 27 ((nI (kS (I 27) t a)) + 0))], 0, 0, (mSH, (mUp I 28 2 (nI (kS (I 27) t a))), L)) _
    refine mB 2 (s2 := (d + 4, 30, 49, [some (.ref 28), some (.ref 1003), some (.int (nI (kLe (I 27) t 200 (kS (I 27) t a)))), some (.int 0)], [.int 0, .ref 1003, .int (mAt (mUp I 28 2 (nI (kS (I 27) t a))) 26 27 ((nI (kS (I 27) t a)) + 0))], 0, 0, (mSH, (mUp I 28 2 (nI (kS (I 27) t a))), L))) rfl ?_
    refine mCall (s2 := (d + 3, 161, 0, [some (.ref 1003), some (.int 0)], [], 0, 0, (mSH, (mUp I 28 2 (nI (kS (I 27) t a))), L))) rfl ?_
    refine w_char_0_0 hB ?_
    show mWP mTb_ mFT ro (d + 4, 30, 52, [some (.ref 28), some (.ref 1003), some (.int (nI (kLe (I 27) t 200 (kS (I 27) t a)))), some (.int 0)], [.int 121, .int (mAt (mUp I 28 2 (nI (kS (I 27) t a))) 26 27 ((nI (kS (I 27) t a)) + 0))], 0, 0, (mSH, (mUp I 28 2 (nI (kS (I 27) t a))), L)) _
    refine mBr (s2 := (d + 4, 30, 57, [some (.ref 28), some (.ref 1003), some (.int (nI (kLe (I 27) t 200 (kS (I 27) t a)))), some (.int 0)], [], 0, 0, (mSH, (mUp I 28 2 (nI (kS (I 27) t a))), L))) (s3 := (d + 4, 30, 55, [some (.ref 28), some (.ref 1003), some (.int (nI (kLe (I 27) t 200 (kS (I 27) t a)))), some (.int 0)], [], 0, 0, (mSH, (mUp I 28 2 (nI (kS (I 27) t a))), L))) rfl (fun c1 => ?_) (fun c1 => ?_)
    · refine mB 4 (s2 := (d + 4, 30, 28, [some (.ref 28), some (.ref 1003), some (.int (nI (kLe (I 27) t 200 (kS (I 27) t a)))), some (.int 1)], [.ref 1003, .int 1], 0, 0, (mSH, (mUp I 28 2 (nI (kS (I 27) t a))), L))) rfl ?_
      refine mCall (s2 := (d + 3, 160, 0, [some (.ref 1003)], [], 0, 0, (mSH, (mUp I 28 2 (nI (kS (I 27) t a))), L))) rfl ?_
      refine w_len_0 hB ?_
      show mWP mTb_ mFT ro (d + 4, 30, 31, [some (.ref 28), some (.ref 1003), some (.int (nI (kLe (I 27) t 200 (kS (I 27) t a)))), some (.int 1)], [.int 5, .int 1], 0, 0, (mSH, (mUp I 28 2 (nI (kS (I 27) t a))), L)) _
      refine mBF (s3 := (d + 4, 30, 34, [some (.ref 28), some (.ref 1003), some (.int (nI (kLe (I 27) t 200 (kS (I 27) t a)))), some (.int 1)], [], 0, 0, (mSH, (mUp I 28 2 (nI (kS (I 27) t a))), L))) rfl (by decide) ?_
      refine mB 6 (s2 := (d + 4, 30, 44, [some (.ref 28), some (.ref 1003), some (.int (nI (kLe (I 27) t 200 (kS (I 27) t a)))), some (.int 1)], [.int ((nI (kS (I 27) t a)) + 1), .ref 26], 0, 0, (mSH, (mUp I 28 2 (nI (kS (I 27) t a))), L))) rfl ?_
      refine mCall (s2 := (d + 3, 42, 0, [some (.ref 26), some (.int ((nI (kS (I 27) t a)) + 1))], [], 0, 0, (mSH, (mUp I 28 2 (nI (kS (I 27) t a))), L))) rfl ?_
      refine w_at_26 n26 ?_
      show mWP mTb_ mFT ro (d + 4, 30, 47, [some (.ref 28), some (.ref 1003), some (.int (nI (kLe (I 27) t 200 (kS (I 27) t a)))), some (.int 1)], [.int (mAt (mUp I 28 2 (nI (kS (I 27) t a))) 26 27 ((nI (kS (I 27) t a)) + 1))], 0, 0, (mSH, (mUp I 28 2 (nI (kS (I 27) t a))), L)) _
      refine mB 2 (s2 := (d + 4, 30, 49, [some (.ref 28), some (.ref 1003), some (.int (nI (kLe (I 27) t 200 (kS (I 27) t a)))), some (.int 1)], [.int 1, .ref 1003, .int (mAt (mUp I 28 2 (nI (kS (I 27) t a))) 26 27 ((nI (kS (I 27) t a)) + 1))], 0, 0, (mSH, (mUp I 28 2 (nI (kS (I 27) t a))), L))) rfl ?_
      refine mCall (s2 := (d + 3, 161, 0, [some (.ref 1003), some (.int 1)], [], 0, 0, (mSH, (mUp I 28 2 (nI (kS (I 27) t a))), L))) rfl ?_
      refine w_char_0_1 hB ?_
      show mWP mTb_ mFT ro (d + 4, 30, 52, [some (.ref 28), some (.ref 1003), some (.int (nI (kLe (I 27) t 200 (kS (I 27) t a)))), some (.int 1)], [.int 101, .int (mAt (mUp I 28 2 (nI (kS (I 27) t a))) 26 27 ((nI (kS (I 27) t a)) + 1))], 0, 0, (mSH, (mUp I 28 2 (nI (kS (I 27) t a))), L)) _
      refine mBr (s2 := (d + 4, 30, 57, [some (.ref 28), some (.ref 1003), some (.int (nI (kLe (I 27) t 200 (kS (I 27) t a)))), some (.int 1)], [], 0, 0, (mSH, (mUp I 28 2 (nI (kS (I 27) t a))), L))) (s3 := (d + 4, 30, 55, [some (.ref 28), some (.ref 1003), some (.int (nI (kLe (I 27) t 200 (kS (I 27) t a)))), some (.int 1)], [], 0, 0, (mSH, (mUp I 28 2 (nI (kS (I 27) t a))), L))) rfl (fun c2 => ?_) (fun c2 => ?_)
      · refine mB 4 (s2 := (d + 4, 30, 28, [some (.ref 28), some (.ref 1003), some (.int (nI (kLe (I 27) t 200 (kS (I 27) t a)))), some (.int 2)], [.ref 1003, .int 2], 0, 0, (mSH, (mUp I 28 2 (nI (kS (I 27) t a))), L))) rfl ?_
        refine mCall (s2 := (d + 3, 160, 0, [some (.ref 1003)], [], 0, 0, (mSH, (mUp I 28 2 (nI (kS (I 27) t a))), L))) rfl ?_
        refine w_len_0 hB ?_
        show mWP mTb_ mFT ro (d + 4, 30, 31, [some (.ref 28), some (.ref 1003), some (.int (nI (kLe (I 27) t 200 (kS (I 27) t a)))), some (.int 2)], [.int 5, .int 2], 0, 0, (mSH, (mUp I 28 2 (nI (kS (I 27) t a))), L)) _
        refine mBF (s3 := (d + 4, 30, 34, [some (.ref 28), some (.ref 1003), some (.int (nI (kLe (I 27) t 200 (kS (I 27) t a)))), some (.int 2)], [], 0, 0, (mSH, (mUp I 28 2 (nI (kS (I 27) t a))), L))) rfl (by decide) ?_
        refine mB 6 (s2 := (d + 4, 30, 44, [some (.ref 28), some (.ref 1003), some (.int (nI (kLe (I 27) t 200 (kS (I 27) t a)))), some (.int 2)], [.int ((nI (kS (I 27) t a)) + 2), .ref 26], 0, 0, (mSH, (mUp I 28 2 (nI (kS (I 27) t a))), L))) rfl ?_
        refine mCall (s2 := (d + 3, 42, 0, [some (.ref 26), some (.int ((nI (kS (I 27) t a)) + 2))], [], 0, 0, (mSH, (mUp I 28 2 (nI (kS (I 27) t a))), L))) rfl ?_
        refine w_at_26 n26 ?_
        show mWP mTb_ mFT ro (d + 4, 30, 47, [some (.ref 28), some (.ref 1003), some (.int (nI (kLe (I 27) t 200 (kS (I 27) t a)))), some (.int 2)], [.int (mAt (mUp I 28 2 (nI (kS (I 27) t a))) 26 27 ((nI (kS (I 27) t a)) + 2))], 0, 0, (mSH, (mUp I 28 2 (nI (kS (I 27) t a))), L)) _
        refine mB 2 (s2 := (d + 4, 30, 49, [some (.ref 28), some (.ref 1003), some (.int (nI (kLe (I 27) t 200 (kS (I 27) t a)))), some (.int 2)], [.int 2, .ref 1003, .int (mAt (mUp I 28 2 (nI (kS (I 27) t a))) 26 27 ((nI (kS (I 27) t a)) + 2))], 0, 0, (mSH, (mUp I 28 2 (nI (kS (I 27) t a))), L))) rfl ?_
        refine mCall (s2 := (d + 3, 161, 0, [some (.ref 1003), some (.int 2)], [], 0, 0, (mSH, (mUp I 28 2 (nI (kS (I 27) t a))), L))) rfl ?_
        refine w_char_0_2 hB ?_
        show mWP mTb_ mFT ro (d + 4, 30, 52, [some (.ref 28), some (.ref 1003), some (.int (nI (kLe (I 27) t 200 (kS (I 27) t a)))), some (.int 2)], [.int 97, .int (mAt (mUp I 28 2 (nI (kS (I 27) t a))) 26 27 ((nI (kS (I 27) t a)) + 2))], 0, 0, (mSH, (mUp I 28 2 (nI (kS (I 27) t a))), L)) _
        refine mBr (s2 := (d + 4, 30, 57, [some (.ref 28), some (.ref 1003), some (.int (nI (kLe (I 27) t 200 (kS (I 27) t a)))), some (.int 2)], [], 0, 0, (mSH, (mUp I 28 2 (nI (kS (I 27) t a))), L))) (s3 := (d + 4, 30, 55, [some (.ref 28), some (.ref 1003), some (.int (nI (kLe (I 27) t 200 (kS (I 27) t a)))), some (.int 2)], [], 0, 0, (mSH, (mUp I 28 2 (nI (kS (I 27) t a))), L))) rfl (fun c3 => ?_) (fun c3 => ?_)
        · refine mB 4 (s2 := (d + 4, 30, 28, [some (.ref 28), some (.ref 1003), some (.int (nI (kLe (I 27) t 200 (kS (I 27) t a)))), some (.int 3)], [.ref 1003, .int 3], 0, 0, (mSH, (mUp I 28 2 (nI (kS (I 27) t a))), L))) rfl ?_
          refine mCall (s2 := (d + 3, 160, 0, [some (.ref 1003)], [], 0, 0, (mSH, (mUp I 28 2 (nI (kS (I 27) t a))), L))) rfl ?_
          refine w_len_0 hB ?_
          show mWP mTb_ mFT ro (d + 4, 30, 31, [some (.ref 28), some (.ref 1003), some (.int (nI (kLe (I 27) t 200 (kS (I 27) t a)))), some (.int 3)], [.int 5, .int 3], 0, 0, (mSH, (mUp I 28 2 (nI (kS (I 27) t a))), L)) _
          refine mBF (s3 := (d + 4, 30, 34, [some (.ref 28), some (.ref 1003), some (.int (nI (kLe (I 27) t 200 (kS (I 27) t a)))), some (.int 3)], [], 0, 0, (mSH, (mUp I 28 2 (nI (kS (I 27) t a))), L))) rfl (by decide) ?_
          refine mB 6 (s2 := (d + 4, 30, 44, [some (.ref 28), some (.ref 1003), some (.int (nI (kLe (I 27) t 200 (kS (I 27) t a)))), some (.int 3)], [.int ((nI (kS (I 27) t a)) + 3), .ref 26], 0, 0, (mSH, (mUp I 28 2 (nI (kS (I 27) t a))), L))) rfl ?_
          refine mCall (s2 := (d + 3, 42, 0, [some (.ref 26), some (.int ((nI (kS (I 27) t a)) + 3))], [], 0, 0, (mSH, (mUp I 28 2 (nI (kS (I 27) t a))), L))) rfl ?_
          refine w_at_26 n26 ?_
          show mWP mTb_ mFT ro (d + 4, 30, 47, [some (.ref 28), some (.ref 1003), some (.int (nI (kLe (I 27) t 200 (kS (I 27) t a)))), some (.int 3)], [.int (mAt (mUp I 28 2 (nI (kS (I 27) t a))) 26 27 ((nI (kS (I 27) t a)) + 3))], 0, 0, (mSH, (mUp I 28 2 (nI (kS (I 27) t a))), L)) _
          refine mB 2 (s2 := (d + 4, 30, 49, [some (.ref 28), some (.ref 1003), some (.int (nI (kLe (I 27) t 200 (kS (I 27) t a)))), some (.int 3)], [.int 3, .ref 1003, .int (mAt (mUp I 28 2 (nI (kS (I 27) t a))) 26 27 ((nI (kS (I 27) t a)) + 3))], 0, 0, (mSH, (mUp I 28 2 (nI (kS (I 27) t a))), L))) rfl ?_
          refine mCall (s2 := (d + 3, 161, 0, [some (.ref 1003), some (.int 3)], [], 0, 0, (mSH, (mUp I 28 2 (nI (kS (I 27) t a))), L))) rfl ?_
          refine w_char_0_3 hB ?_
          show mWP mTb_ mFT ro (d + 4, 30, 52, [some (.ref 28), some (.ref 1003), some (.int (nI (kLe (I 27) t 200 (kS (I 27) t a)))), some (.int 3)], [.int 114, .int (mAt (mUp I 28 2 (nI (kS (I 27) t a))) 26 27 ((nI (kS (I 27) t a)) + 3))], 0, 0, (mSH, (mUp I 28 2 (nI (kS (I 27) t a))), L)) _
          refine mBr (s2 := (d + 4, 30, 57, [some (.ref 28), some (.ref 1003), some (.int (nI (kLe (I 27) t 200 (kS (I 27) t a)))), some (.int 3)], [], 0, 0, (mSH, (mUp I 28 2 (nI (kS (I 27) t a))), L))) (s3 := (d + 4, 30, 55, [some (.ref 28), some (.ref 1003), some (.int (nI (kLe (I 27) t 200 (kS (I 27) t a)))), some (.int 3)], [], 0, 0, (mSH, (mUp I 28 2 (nI (kS (I 27) t a))), L))) rfl (fun c4 => ?_) (fun c4 => ?_)
          · refine mB 4 (s2 := (d + 4, 30, 28, [some (.ref 28), some (.ref 1003), some (.int (nI (kLe (I 27) t 200 (kS (I 27) t a)))), some (.int 4)], [.ref 1003, .int 4], 0, 0, (mSH, (mUp I 28 2 (nI (kS (I 27) t a))), L))) rfl ?_
            refine mCall (s2 := (d + 3, 160, 0, [some (.ref 1003)], [], 0, 0, (mSH, (mUp I 28 2 (nI (kS (I 27) t a))), L))) rfl ?_
            refine w_len_0 hB ?_
            show mWP mTb_ mFT ro (d + 4, 30, 31, [some (.ref 28), some (.ref 1003), some (.int (nI (kLe (I 27) t 200 (kS (I 27) t a)))), some (.int 4)], [.int 5, .int 4], 0, 0, (mSH, (mUp I 28 2 (nI (kS (I 27) t a))), L)) _
            refine mBF (s3 := (d + 4, 30, 34, [some (.ref 28), some (.ref 1003), some (.int (nI (kLe (I 27) t 200 (kS (I 27) t a)))), some (.int 4)], [], 0, 0, (mSH, (mUp I 28 2 (nI (kS (I 27) t a))), L))) rfl (by decide) ?_
            refine mB 6 (s2 := (d + 4, 30, 44, [some (.ref 28), some (.ref 1003), some (.int (nI (kLe (I 27) t 200 (kS (I 27) t a)))), some (.int 4)], [.int ((nI (kS (I 27) t a)) + 4), .ref 26], 0, 0, (mSH, (mUp I 28 2 (nI (kS (I 27) t a))), L))) rfl ?_
            refine mCall (s2 := (d + 3, 42, 0, [some (.ref 26), some (.int ((nI (kS (I 27) t a)) + 4))], [], 0, 0, (mSH, (mUp I 28 2 (nI (kS (I 27) t a))), L))) rfl ?_
            refine w_at_26 n26 ?_
            show mWP mTb_ mFT ro (d + 4, 30, 47, [some (.ref 28), some (.ref 1003), some (.int (nI (kLe (I 27) t 200 (kS (I 27) t a)))), some (.int 4)], [.int (mAt (mUp I 28 2 (nI (kS (I 27) t a))) 26 27 ((nI (kS (I 27) t a)) + 4))], 0, 0, (mSH, (mUp I 28 2 (nI (kS (I 27) t a))), L)) _
            refine mB 2 (s2 := (d + 4, 30, 49, [some (.ref 28), some (.ref 1003), some (.int (nI (kLe (I 27) t 200 (kS (I 27) t a)))), some (.int 4)], [.int 4, .ref 1003, .int (mAt (mUp I 28 2 (nI (kS (I 27) t a))) 26 27 ((nI (kS (I 27) t a)) + 4))], 0, 0, (mSH, (mUp I 28 2 (nI (kS (I 27) t a))), L))) rfl ?_
            refine mCall (s2 := (d + 3, 161, 0, [some (.ref 1003), some (.int 4)], [], 0, 0, (mSH, (mUp I 28 2 (nI (kS (I 27) t a))), L))) rfl ?_
            refine w_char_0_4 hB ?_
            show mWP mTb_ mFT ro (d + 4, 30, 52, [some (.ref 28), some (.ref 1003), some (.int (nI (kLe (I 27) t 200 (kS (I 27) t a)))), some (.int 4)], [.int 115, .int (mAt (mUp I 28 2 (nI (kS (I 27) t a))) 26 27 ((nI (kS (I 27) t a)) + 4))], 0, 0, (mSH, (mUp I 28 2 (nI (kS (I 27) t a))), L)) _
            refine mBr (s2 := (d + 4, 30, 57, [some (.ref 28), some (.ref 1003), some (.int (nI (kLe (I 27) t 200 (kS (I 27) t a)))), some (.int 4)], [], 0, 0, (mSH, (mUp I 28 2 (nI (kS (I 27) t a))), L))) (s3 := (d + 4, 30, 55, [some (.ref 28), some (.ref 1003), some (.int (nI (kLe (I 27) t 200 (kS (I 27) t a)))), some (.int 4)], [], 0, 0, (mSH, (mUp I 28 2 (nI (kS (I 27) t a))), L))) rfl (fun c5 => ?_) (fun c5 => ?_)
            · refine mB 4 (s2 := (d + 4, 30, 28, [some (.ref 28), some (.ref 1003), some (.int (nI (kLe (I 27) t 200 (kS (I 27) t a)))), some (.int 5)], [.ref 1003, .int 5], 0, 0, (mSH, (mUp I 28 2 (nI (kS (I 27) t a))), L))) rfl ?_
              refine mCall (s2 := (d + 3, 160, 0, [some (.ref 1003)], [], 0, 0, (mSH, (mUp I 28 2 (nI (kS (I 27) t a))), L))) rfl ?_
              refine w_len_0 hB ?_
              show mWP mTb_ mFT ro (d + 4, 30, 31, [some (.ref 28), some (.ref 1003), some (.int (nI (kLe (I 27) t 200 (kS (I 27) t a)))), some (.int 5)], [.int 5, .int 5], 0, 0, (mSH, (mUp I 28 2 (nI (kS (I 27) t a))), L)) _
              refine mBT (s2 := (d + 4, 30, 63, [some (.ref 28), some (.ref 1003), some (.int (nI (kLe (I 27) t 200 (kS (I 27) t a)))), some (.int 5)], [], 0, 0, (mSH, (mUp I 28 2 (nI (kS (I 27) t a))), L))) rfl (by decide) ?_
              refine mB 4 (s2 := (d + 4, 30, 69, [some (.ref 28), some (.ref 1003), some (.int (nI (kLe (I 27) t 200 (kS (I 27) t a)))), some (.int 5)], [.int 1], 0, 0, (mSH, (mUp (mUp I 28 2 (nI (kS (I 27) t a))) 28 2 (nI (kLe (I 27) t 200 (kS (I 27) t a)))), L))) rfl ?_
              refine mRt (r := (some (.int 1))) (h := (mSH, (mUp (mUp I 28 2 (nI (kS (I 27) t a))) 28 2 (nI (kLe (I 27) t 200 (kS (I 27) t a)))), L)) rfl rfl ?_
              (have zt := kWd_t (w := kW0) (J := mUp I 28 2 (nI (kS (I 27) t a))) ht rfl hs h120 (by decide) (by decide) (of_decide_eq_true c0) (fun k hk => by match k, hk with | 0, _ => exact of_decide_eq_true c1 | 1, _ => exact of_decide_eq_true c2 | 2, _ => exact of_decide_eq_true c3 | 3, _ => exact of_decide_eq_true c4 | 4, _ => exact of_decide_eq_true c5 | k + 5, hk => exact absurd hk (by show ¬ k + 5 < 5; omega)); rw [xU2]; exact q1 _ zt.1 zt.2)
            · refine mB 1 (s2 := (d + 4, 30, 56, [some (.ref 28), some (.ref 1003), some (.int (nI (kLe (I 27) t 200 (kS (I 27) t a)))), some (.int 4)], [.int 0], 0, 0, (mSH, (mUp I 28 2 (nI (kS (I 27) t a))), L))) rfl ?_
              refine mRt (r := (some (.int 0))) (h := (mSH, (mUp I 28 2 (nI (kS (I 27) t a))), L)) rfl rfl ?_
              exact q0 (kWd_fk (w := kW0) (k := 4) (J := mUp I 28 2 (nI (kS (I 27) t a))) ht rfl hs h120 (by decide) (of_decide_eq_true c0) (by decide) (of_decide_eq_false c5))
          · refine mB 1 (s2 := (d + 4, 30, 56, [some (.ref 28), some (.ref 1003), some (.int (nI (kLe (I 27) t 200 (kS (I 27) t a)))), some (.int 3)], [.int 0], 0, 0, (mSH, (mUp I 28 2 (nI (kS (I 27) t a))), L))) rfl ?_
            refine mRt (r := (some (.int 0))) (h := (mSH, (mUp I 28 2 (nI (kS (I 27) t a))), L)) rfl rfl ?_
            exact q0 (kWd_fk (w := kW0) (k := 3) (J := mUp I 28 2 (nI (kS (I 27) t a))) ht rfl hs h120 (by decide) (of_decide_eq_true c0) (by decide) (of_decide_eq_false c4))
        · refine mB 1 (s2 := (d + 4, 30, 56, [some (.ref 28), some (.ref 1003), some (.int (nI (kLe (I 27) t 200 (kS (I 27) t a)))), some (.int 2)], [.int 0], 0, 0, (mSH, (mUp I 28 2 (nI (kS (I 27) t a))), L))) rfl ?_
          refine mRt (r := (some (.int 0))) (h := (mSH, (mUp I 28 2 (nI (kS (I 27) t a))), L)) rfl rfl ?_
          exact q0 (kWd_fk (w := kW0) (k := 2) (J := mUp I 28 2 (nI (kS (I 27) t a))) ht rfl hs h120 (by decide) (of_decide_eq_true c0) (by decide) (of_decide_eq_false c3))
      · refine mB 1 (s2 := (d + 4, 30, 56, [some (.ref 28), some (.ref 1003), some (.int (nI (kLe (I 27) t 200 (kS (I 27) t a)))), some (.int 1)], [.int 0], 0, 0, (mSH, (mUp I 28 2 (nI (kS (I 27) t a))), L))) rfl ?_
        refine mRt (r := (some (.int 0))) (h := (mSH, (mUp I 28 2 (nI (kS (I 27) t a))), L)) rfl rfl ?_
        exact q0 (kWd_fk (w := kW0) (k := 1) (J := mUp I 28 2 (nI (kS (I 27) t a))) ht rfl hs h120 (by decide) (of_decide_eq_true c0) (by decide) (of_decide_eq_false c2))
    · refine mB 1 (s2 := (d + 4, 30, 56, [some (.ref 28), some (.ref 1003), some (.int (nI (kLe (I 27) t 200 (kS (I 27) t a)))), some (.int 0)], [.int 0], 0, 0, (mSH, (mUp I 28 2 (nI (kS (I 27) t a))), L))) rfl ?_
      refine mRt (r := (some (.int 0))) (h := (mSH, (mUp I 28 2 (nI (kS (I 27) t a))), L)) rfl rfl ?_
      exact q0 (kWd_fk (w := kW0) (k := 0) (J := mUp I 28 2 (nI (kS (I 27) t a))) ht rfl hs h120 (by decide) (of_decide_eq_true c0) (by decide) (of_decide_eq_false c1))
  · refine mB 1 (s2 := (d + 4, 30, 23, [some (.ref 28), some (.ref 1003), some (.int (nI (kLe (I 27) t 200 (kS (I 27) t a)))), none], [.int 0], 0, 0, (mSH, (mUp I 28 2 (nI (kS (I 27) t a))), L))) rfl ?_
    refine mRt (r := (some (.int 0))) (h := (mSH, (mUp I 28 2 (nI (kS (I 27) t a))), L)) rfl rfl ?_
    exact q0 (kWd_f0 (w := kW0) hs (of_decide_eq_false c0))
theorem x_word_1 {ro : Nat → Nat × (Nat → Int32)} {Q : mPo} {d : Nat} {I : Nat → Nat → Int32} {L : Nat → Nat → Int64} {t a : Nat} {b : Nat → Int32} (h120 : t ≤ 120) (hb : I 27 = b) (ht : I 26 1 = nI t) (hp : I 28 2 = nI a) (ha : a ≤ 200) (hB : mRB ro) (q0 : kWdC b t kW1 a = none → Q (some (.int 0)) (mSH, mUp I 28 2 (nI (kS b t a)), L)) (q1 : ∀ e, kWdC b t kW1 a = some e → e ≤ t → Q (some (.int 1)) (mSH, mUp I 28 2 (nI e), L))   : mWP mTb_ mFT ro (d + 4, 30, 0, [some (.ref 28), some (.ref 1004), none, none], [], 0, 0, (mSH, I, L)) Q := by
  subst hb
  have hs : kS (I 27) t a ≤ 400 := by
    have := kSk_le (b := I 27) (t := t) 200 a
    rw [kS_e]
    omega
  have n26 : mCn I 26 120 := mCn.of ht h120 (by omega)
  refine mB 1 (s2 := (d + 4, 30, 1, [some (.ref 28), some (.ref 1004), none, none], [.ref 28], 0, 0, (mSH, I, L))) rfl ?_
  refine mCall (s2 := (d + 3, 34, 0, [some (.ref 28)], [], 0, 0, (mSH, I, L))) rfl ?_
  refine x_skip h120 (b := I 27) rfl ht hp (by omega) ?_
  show mWP mTb_ mFT ro (d + 4, 30, 4, [some (.ref 28), some (.ref 1004), none, none], [], 0, 0, (mSH, (mUp I 28 2 (nI (kS (I 27) t a))), L)) _
  refine mB 1 (s2 := (d + 4, 30, 5, [some (.ref 28), some (.ref 1004), none, none], [.ref 28], 0, 0, (mSH, (mUp I 28 2 (nI (kS (I 27) t a))), L))) rfl ?_
  refine mCall (s2 := (d + 3, 35, 0, [some (.ref 28), none], [], 0, 0, (mSH, (mUp I 28 2 (nI (kS (I 27) t a))), L))) rfl ?_
  refine x_el h120 (b := I 27) rfl ht rfl (by omega) ?_
  show mWP mTb_ mFT ro (d + 4, 30, 8, [some (.ref 28), some (.ref 1004), none, none], [.int (nI (kLe (I 27) t 200 (kS (I 27) t a)))], 0, 0, (mSH, (mUp I 28 2 (nI (kS (I 27) t a))), L)) _
  refine mB 6 (s2 := (d + 4, 30, 16, [some (.ref 28), some (.ref 1004), some (.int (nI (kLe (I 27) t 200 (kS (I 27) t a)))), none], [.ref 1004, .int ((nI (kLe (I 27) t 200 (kS (I 27) t a))) - (nI (kS (I 27) t a)))], 0, 0, (mSH, (mUp I 28 2 (nI (kS (I 27) t a))), L))) rfl ?_
  refine mCall (s2 := (d + 3, 160, 0, [some (.ref 1004)], [], 0, 0, (mSH, (mUp I 28 2 (nI (kS (I 27) t a))), L))) rfl ?_
  refine w_len_1 hB ?_
  show mWP mTb_ mFT ro (d + 4, 30, 19, [some (.ref 28), some (.ref 1004), some (.int (nI (kLe (I 27) t 200 (kS (I 27) t a)))), none], [.int 4, .int ((nI (kLe (I 27) t 200 (kS (I 27) t a))) - (nI (kS (I 27) t a)))], 0, 0, (mSH, (mUp I 28 2 (nI (kS (I 27) t a))), L)) _
  refine mBr (s2 := (d + 4, 30, 24, [some (.ref 28), some (.ref 1004), some (.int (nI (kLe (I 27) t 200 (kS (I 27) t a)))), none], [], 0, 0, (mSH, (mUp I 28 2 (nI (kS (I 27) t a))), L))) (s3 := (d + 4, 30, 22, [some (.ref 28), some (.ref 1004), some (.int (nI (kLe (I 27) t 200 (kS (I 27) t a)))), none], [], 0, 0, (mSH, (mUp I 28 2 (nI (kS (I 27) t a))), L))) rfl (fun c0 => ?_) (fun c0 => ?_)
  · refine mB 4 (s2 := (d + 4, 30, 28, [some (.ref 28), some (.ref 1004), some (.int (nI (kLe (I 27) t 200 (kS (I 27) t a)))), some (.int 0)], [.ref 1004, .int 0], 0, 0, (mSH, (mUp I 28 2 (nI (kS (I 27) t a))), L))) rfl ?_
    refine mCall (s2 := (d + 3, 160, 0, [some (.ref 1004)], [], 0, 0, (mSH, (mUp I 28 2 (nI (kS (I 27) t a))), L))) rfl ?_
    refine w_len_1 hB ?_
    show mWP mTb_ mFT ro (d + 4, 30, 31, [some (.ref 28), some (.ref 1004), some (.int (nI (kLe (I 27) t 200 (kS (I 27) t a)))), some (.int 0)], [.int 4, .int 0], 0, 0, (mSH, (mUp I 28 2 (nI (kS (I 27) t a))), L)) _
    refine mBF (s3 := (d + 4, 30, 34, [some (.ref 28), some (.ref 1004), some (.int (nI (kLe (I 27) t 200 (kS (I 27) t a)))), some (.int 0)], [], 0, 0, (mSH, (mUp I 28 2 (nI (kS (I 27) t a))), L))) rfl (by decide) ?_
    refine mB 6 (s2 := (d + 4, 30, 44, [some (.ref 28), some (.ref 1004), some (.int (nI (kLe (I 27) t 200 (kS (I 27) t a)))), some (.int 0)], [.int ((nI (kS (I 27) t a)) + 0), .ref 26], 0, 0, (mSH, (mUp I 28 2 (nI (kS (I 27) t a))), L))) rfl ?_
    refine mCall (s2 := (d + 3, 42, 0, [some (.ref 26), some (.int ((nI (kS (I 27) t a)) + 0))], [], 0, 0, (mSH, (mUp I 28 2 (nI (kS (I 27) t a))), L))) rfl ?_
    refine w_at_26 n26 ?_
    show mWP mTb_ mFT ro (d + 4, 30, 47, [some (.ref 28), some (.ref 1004), some (.int (nI (kLe (I 27) t 200 (kS (I 27) t a)))), some (.int 0)], [.int (mAt (mUp I 28 2 (nI (kS (I 27) t a))) 26 27 ((nI (kS (I 27) t a)) + 0))], 0, 0, (mSH, (mUp I 28 2 (nI (kS (I 27) t a))), L)) _
    refine mB 2 (s2 := (d + 4, 30, 49, [some (.ref 28), some (.ref 1004), some (.int (nI (kLe (I 27) t 200 (kS (I 27) t a)))), some (.int 0)], [.int 0, .ref 1004, .int (mAt (mUp I 28 2 (nI (kS (I 27) t a))) 26 27 ((nI (kS (I 27) t a)) + 0))], 0, 0, (mSH, (mUp I 28 2 (nI (kS (I 27) t a))), L))) rfl ?_
    refine mCall (s2 := (d + 3, 161, 0, [some (.ref 1004), some (.int 0)], [], 0, 0, (mSH, (mUp I 28 2 (nI (kS (I 27) t a))), L))) rfl ?_
    refine w_char_1_0 hB ?_
    show mWP mTb_ mFT ro (d + 4, 30, 52, [some (.ref 28), some (.ref 1004), some (.int (nI (kLe (I 27) t 200 (kS (I 27) t a)))), some (.int 0)], [.int 99, .int (mAt (mUp I 28 2 (nI (kS (I 27) t a))) 26 27 ((nI (kS (I 27) t a)) + 0))], 0, 0, (mSH, (mUp I 28 2 (nI (kS (I 27) t a))), L)) _
    refine mBr (s2 := (d + 4, 30, 57, [some (.ref 28), some (.ref 1004), some (.int (nI (kLe (I 27) t 200 (kS (I 27) t a)))), some (.int 0)], [], 0, 0, (mSH, (mUp I 28 2 (nI (kS (I 27) t a))), L))) (s3 := (d + 4, 30, 55, [some (.ref 28), some (.ref 1004), some (.int (nI (kLe (I 27) t 200 (kS (I 27) t a)))), some (.int 0)], [], 0, 0, (mSH, (mUp I 28 2 (nI (kS (I 27) t a))), L))) rfl (fun c1 => ?_) (fun c1 => ?_)
    · refine mB 4 (s2 := (d + 4, 30, 28, [some (.ref 28), some (.ref 1004), some (.int (nI (kLe (I 27) t 200 (kS (I 27) t a)))), some (.int 1)], [.ref 1004, .int 1], 0, 0, (mSH, (mUp I 28 2 (nI (kS (I 27) t a))), L))) rfl ?_
      refine mCall (s2 := (d + 3, 160, 0, [some (.ref 1004)], [], 0, 0, (mSH, (mUp I 28 2 (nI (kS (I 27) t a))), L))) rfl ?_
      refine w_len_1 hB ?_
      show mWP mTb_ mFT ro (d + 4, 30, 31, [some (.ref 28), some (.ref 1004), some (.int (nI (kLe (I 27) t 200 (kS (I 27) t a)))), some (.int 1)], [.int 4, .int 1], 0, 0, (mSH, (mUp I 28 2 (nI (kS (I 27) t a))), L)) _
      refine mBF (s3 := (d + 4, 30, 34, [some (.ref 28), some (.ref 1004), some (.int (nI (kLe (I 27) t 200 (kS (I 27) t a)))), some (.int 1)], [], 0, 0, (mSH, (mUp I 28 2 (nI (kS (I 27) t a))), L))) rfl (by decide) ?_
      refine mB 6 (s2 := (d + 4, 30, 44, [some (.ref 28), some (.ref 1004), some (.int (nI (kLe (I 27) t 200 (kS (I 27) t a)))), some (.int 1)], [.int ((nI (kS (I 27) t a)) + 1), .ref 26], 0, 0, (mSH, (mUp I 28 2 (nI (kS (I 27) t a))), L))) rfl ?_
      refine mCall (s2 := (d + 3, 42, 0, [some (.ref 26), some (.int ((nI (kS (I 27) t a)) + 1))], [], 0, 0, (mSH, (mUp I 28 2 (nI (kS (I 27) t a))), L))) rfl ?_
      refine w_at_26 n26 ?_
      show mWP mTb_ mFT ro (d + 4, 30, 47, [some (.ref 28), some (.ref 1004), some (.int (nI (kLe (I 27) t 200 (kS (I 27) t a)))), some (.int 1)], [.int (mAt (mUp I 28 2 (nI (kS (I 27) t a))) 26 27 ((nI (kS (I 27) t a)) + 1))], 0, 0, (mSH, (mUp I 28 2 (nI (kS (I 27) t a))), L)) _
      refine mB 2 (s2 := (d + 4, 30, 49, [some (.ref 28), some (.ref 1004), some (.int (nI (kLe (I 27) t 200 (kS (I 27) t a)))), some (.int 1)], [.int 1, .ref 1004, .int (mAt (mUp I 28 2 (nI (kS (I 27) t a))) 26 27 ((nI (kS (I 27) t a)) + 1))], 0, 0, (mSH, (mUp I 28 2 (nI (kS (I 27) t a))), L))) rfl ?_
      refine mCall (s2 := (d + 3, 161, 0, [some (.ref 1004), some (.int 1)], [], 0, 0, (mSH, (mUp I 28 2 (nI (kS (I 27) t a))), L))) rfl ?_
      refine w_char_1_1 hB ?_
      show mWP mTb_ mFT ro (d + 4, 30, 52, [some (.ref 28), some (.ref 1004), some (.int (nI (kLe (I 27) t 200 (kS (I 27) t a)))), some (.int 1)], [.int 111, .int (mAt (mUp I 28 2 (nI (kS (I 27) t a))) 26 27 ((nI (kS (I 27) t a)) + 1))], 0, 0, (mSH, (mUp I 28 2 (nI (kS (I 27) t a))), L)) _
      refine mBr (s2 := (d + 4, 30, 57, [some (.ref 28), some (.ref 1004), some (.int (nI (kLe (I 27) t 200 (kS (I 27) t a)))), some (.int 1)], [], 0, 0, (mSH, (mUp I 28 2 (nI (kS (I 27) t a))), L))) (s3 := (d + 4, 30, 55, [some (.ref 28), some (.ref 1004), some (.int (nI (kLe (I 27) t 200 (kS (I 27) t a)))), some (.int 1)], [], 0, 0, (mSH, (mUp I 28 2 (nI (kS (I 27) t a))), L))) rfl (fun c2 => ?_) (fun c2 => ?_)
      · refine mB 4 (s2 := (d + 4, 30, 28, [some (.ref 28), some (.ref 1004), some (.int (nI (kLe (I 27) t 200 (kS (I 27) t a)))), some (.int 2)], [.ref 1004, .int 2], 0, 0, (mSH, (mUp I 28 2 (nI (kS (I 27) t a))), L))) rfl ?_
        refine mCall (s2 := (d + 3, 160, 0, [some (.ref 1004)], [], 0, 0, (mSH, (mUp I 28 2 (nI (kS (I 27) t a))), L))) rfl ?_
        refine w_len_1 hB ?_
        show mWP mTb_ mFT ro (d + 4, 30, 31, [some (.ref 28), some (.ref 1004), some (.int (nI (kLe (I 27) t 200 (kS (I 27) t a)))), some (.int 2)], [.int 4, .int 2], 0, 0, (mSH, (mUp I 28 2 (nI (kS (I 27) t a))), L)) _
        refine mBF (s3 := (d + 4, 30, 34, [some (.ref 28), some (.ref 1004), some (.int (nI (kLe (I 27) t 200 (kS (I 27) t a)))), some (.int 2)], [], 0, 0, (mSH, (mUp I 28 2 (nI (kS (I 27) t a))), L))) rfl (by decide) ?_
        refine mB 6 (s2 := (d + 4, 30, 44, [some (.ref 28), some (.ref 1004), some (.int (nI (kLe (I 27) t 200 (kS (I 27) t a)))), some (.int 2)], [.int ((nI (kS (I 27) t a)) + 2), .ref 26], 0, 0, (mSH, (mUp I 28 2 (nI (kS (I 27) t a))), L))) rfl ?_
        refine mCall (s2 := (d + 3, 42, 0, [some (.ref 26), some (.int ((nI (kS (I 27) t a)) + 2))], [], 0, 0, (mSH, (mUp I 28 2 (nI (kS (I 27) t a))), L))) rfl ?_
        refine w_at_26 n26 ?_
        show mWP mTb_ mFT ro (d + 4, 30, 47, [some (.ref 28), some (.ref 1004), some (.int (nI (kLe (I 27) t 200 (kS (I 27) t a)))), some (.int 2)], [.int (mAt (mUp I 28 2 (nI (kS (I 27) t a))) 26 27 ((nI (kS (I 27) t a)) + 2))], 0, 0, (mSH, (mUp I 28 2 (nI (kS (I 27) t a))), L)) _
        refine mB 2 (s2 := (d + 4, 30, 49, [some (.ref 28), some (.ref 1004), some (.int (nI (kLe (I 27) t 200 (kS (I 27) t a)))), some (.int 2)], [.int 2, .ref 1004, .int (mAt (mUp I 28 2 (nI (kS (I 27) t a))) 26 27 ((nI (kS (I 27) t a)) + 2))], 0, 0, (mSH, (mUp I 28 2 (nI (kS (I 27) t a))), L))) rfl ?_
        refine mCall (s2 := (d + 3, 161, 0, [some (.ref 1004), some (.int 2)], [], 0, 0, (mSH, (mUp I 28 2 (nI (kS (I 27) t a))), L))) rfl ?_
        refine w_char_1_2 hB ?_
        show mWP mTb_ mFT ro (d + 4, 30, 52, [some (.ref 28), some (.ref 1004), some (.int (nI (kLe (I 27) t 200 (kS (I 27) t a)))), some (.int 2)], [.int 114, .int (mAt (mUp I 28 2 (nI (kS (I 27) t a))) 26 27 ((nI (kS (I 27) t a)) + 2))], 0, 0, (mSH, (mUp I 28 2 (nI (kS (I 27) t a))), L)) _
        refine mBr (s2 := (d + 4, 30, 57, [some (.ref 28), some (.ref 1004), some (.int (nI (kLe (I 27) t 200 (kS (I 27) t a)))), some (.int 2)], [], 0, 0, (mSH, (mUp I 28 2 (nI (kS (I 27) t a))), L))) (s3 := (d + 4, 30, 55, [some (.ref 28), some (.ref 1004), some (.int (nI (kLe (I 27) t 200 (kS (I 27) t a)))), some (.int 2)], [], 0, 0, (mSH, (mUp I 28 2 (nI (kS (I 27) t a))), L))) rfl (fun c3 => ?_) (fun c3 => ?_)
        · refine mB 4 (s2 := (d + 4, 30, 28, [some (.ref 28), some (.ref 1004), some (.int (nI (kLe (I 27) t 200 (kS (I 27) t a)))), some (.int 3)], [.ref 1004, .int 3], 0, 0, (mSH, (mUp I 28 2 (nI (kS (I 27) t a))), L))) rfl ?_
          refine mCall (s2 := (d + 3, 160, 0, [some (.ref 1004)], [], 0, 0, (mSH, (mUp I 28 2 (nI (kS (I 27) t a))), L))) rfl ?_
          refine w_len_1 hB ?_
          show mWP mTb_ mFT ro (d + 4, 30, 31, [some (.ref 28), some (.ref 1004), some (.int (nI (kLe (I 27) t 200 (kS (I 27) t a)))), some (.int 3)], [.int 4, .int 3], 0, 0, (mSH, (mUp I 28 2 (nI (kS (I 27) t a))), L)) _
          refine mBF (s3 := (d + 4, 30, 34, [some (.ref 28), some (.ref 1004), some (.int (nI (kLe (I 27) t 200 (kS (I 27) t a)))), some (.int 3)], [], 0, 0, (mSH, (mUp I 28 2 (nI (kS (I 27) t a))), L))) rfl (by decide) ?_
          refine mB 6 (s2 := (d + 4, 30, 44, [some (.ref 28), some (.ref 1004), some (.int (nI (kLe (I 27) t 200 (kS (I 27) t a)))), some (.int 3)], [.int ((nI (kS (I 27) t a)) + 3), .ref 26], 0, 0, (mSH, (mUp I 28 2 (nI (kS (I 27) t a))), L))) rfl ?_
          refine mCall (s2 := (d + 3, 42, 0, [some (.ref 26), some (.int ((nI (kS (I 27) t a)) + 3))], [], 0, 0, (mSH, (mUp I 28 2 (nI (kS (I 27) t a))), L))) rfl ?_
          refine w_at_26 n26 ?_
          show mWP mTb_ mFT ro (d + 4, 30, 47, [some (.ref 28), some (.ref 1004), some (.int (nI (kLe (I 27) t 200 (kS (I 27) t a)))), some (.int 3)], [.int (mAt (mUp I 28 2 (nI (kS (I 27) t a))) 26 27 ((nI (kS (I 27) t a)) + 3))], 0, 0, (mSH, (mUp I 28 2 (nI (kS (I 27) t a))), L)) _
          refine mB 2 (s2 := (d + 4, 30, 49, [some (.ref 28), some (.ref 1004), some (.int (nI (kLe (I 27) t 200 (kS (I 27) t a)))), some (.int 3)], [.int 3, .ref 1004, .int (mAt (mUp I 28 2 (nI (kS (I 27) t a))) 26 27 ((nI (kS (I 27) t a)) + 3))], 0, 0, (mSH, (mUp I 28 2 (nI (kS (I 27) t a))), L))) rfl ?_
          refine mCall (s2 := (d + 3, 161, 0, [some (.ref 1004), some (.int 3)], [], 0, 0, (mSH, (mUp I 28 2 (nI (kS (I 27) t a))), L))) rfl ?_
          refine w_char_1_3 hB ?_
          show mWP mTb_ mFT ro (d + 4, 30, 52, [some (.ref 28), some (.ref 1004), some (.int (nI (kLe (I 27) t 200 (kS (I 27) t a)))), some (.int 3)], [.int 101, .int (mAt (mUp I 28 2 (nI (kS (I 27) t a))) 26 27 ((nI (kS (I 27) t a)) + 3))], 0, 0, (mSH, (mUp I 28 2 (nI (kS (I 27) t a))), L)) _
          refine mBr (s2 := (d + 4, 30, 57, [some (.ref 28), some (.ref 1004), some (.int (nI (kLe (I 27) t 200 (kS (I 27) t a)))), some (.int 3)], [], 0, 0, (mSH, (mUp I 28 2 (nI (kS (I 27) t a))), L))) (s3 := (d + 4, 30, 55, [some (.ref 28), some (.ref 1004), some (.int (nI (kLe (I 27) t 200 (kS (I 27) t a)))), some (.int 3)], [], 0, 0, (mSH, (mUp I 28 2 (nI (kS (I 27) t a))), L))) rfl (fun c4 => ?_) (fun c4 => ?_)
          · refine mB 4 (s2 := (d + 4, 30, 28, [some (.ref 28), some (.ref 1004), some (.int (nI (kLe (I 27) t 200 (kS (I 27) t a)))), some (.int 4)], [.ref 1004, .int 4], 0, 0, (mSH, (mUp I 28 2 (nI (kS (I 27) t a))), L))) rfl ?_
            refine mCall (s2 := (d + 3, 160, 0, [some (.ref 1004)], [], 0, 0, (mSH, (mUp I 28 2 (nI (kS (I 27) t a))), L))) rfl ?_
            refine w_len_1 hB ?_
            show mWP mTb_ mFT ro (d + 4, 30, 31, [some (.ref 28), some (.ref 1004), some (.int (nI (kLe (I 27) t 200 (kS (I 27) t a)))), some (.int 4)], [.int 4, .int 4], 0, 0, (mSH, (mUp I 28 2 (nI (kS (I 27) t a))), L)) _
            refine mBT (s2 := (d + 4, 30, 63, [some (.ref 28), some (.ref 1004), some (.int (nI (kLe (I 27) t 200 (kS (I 27) t a)))), some (.int 4)], [], 0, 0, (mSH, (mUp I 28 2 (nI (kS (I 27) t a))), L))) rfl (by decide) ?_
            refine mB 4 (s2 := (d + 4, 30, 69, [some (.ref 28), some (.ref 1004), some (.int (nI (kLe (I 27) t 200 (kS (I 27) t a)))), some (.int 4)], [.int 1], 0, 0, (mSH, (mUp (mUp I 28 2 (nI (kS (I 27) t a))) 28 2 (nI (kLe (I 27) t 200 (kS (I 27) t a)))), L))) rfl ?_
            refine mRt (r := (some (.int 1))) (h := (mSH, (mUp (mUp I 28 2 (nI (kS (I 27) t a))) 28 2 (nI (kLe (I 27) t 200 (kS (I 27) t a)))), L)) rfl rfl ?_
            (have zt := kWd_t (w := kW1) (J := mUp I 28 2 (nI (kS (I 27) t a))) ht rfl hs h120 (by decide) (by decide) (of_decide_eq_true c0) (fun k hk => by match k, hk with | 0, _ => exact of_decide_eq_true c1 | 1, _ => exact of_decide_eq_true c2 | 2, _ => exact of_decide_eq_true c3 | 3, _ => exact of_decide_eq_true c4 | k + 4, hk => exact absurd hk (by show ¬ k + 4 < 4; omega)); rw [xU2]; exact q1 _ zt.1 zt.2)
          · refine mB 1 (s2 := (d + 4, 30, 56, [some (.ref 28), some (.ref 1004), some (.int (nI (kLe (I 27) t 200 (kS (I 27) t a)))), some (.int 3)], [.int 0], 0, 0, (mSH, (mUp I 28 2 (nI (kS (I 27) t a))), L))) rfl ?_
            refine mRt (r := (some (.int 0))) (h := (mSH, (mUp I 28 2 (nI (kS (I 27) t a))), L)) rfl rfl ?_
            exact q0 (kWd_fk (w := kW1) (k := 3) (J := mUp I 28 2 (nI (kS (I 27) t a))) ht rfl hs h120 (by decide) (of_decide_eq_true c0) (by decide) (of_decide_eq_false c4))
        · refine mB 1 (s2 := (d + 4, 30, 56, [some (.ref 28), some (.ref 1004), some (.int (nI (kLe (I 27) t 200 (kS (I 27) t a)))), some (.int 2)], [.int 0], 0, 0, (mSH, (mUp I 28 2 (nI (kS (I 27) t a))), L))) rfl ?_
          refine mRt (r := (some (.int 0))) (h := (mSH, (mUp I 28 2 (nI (kS (I 27) t a))), L)) rfl rfl ?_
          exact q0 (kWd_fk (w := kW1) (k := 2) (J := mUp I 28 2 (nI (kS (I 27) t a))) ht rfl hs h120 (by decide) (of_decide_eq_true c0) (by decide) (of_decide_eq_false c3))
      · refine mB 1 (s2 := (d + 4, 30, 56, [some (.ref 28), some (.ref 1004), some (.int (nI (kLe (I 27) t 200 (kS (I 27) t a)))), some (.int 1)], [.int 0], 0, 0, (mSH, (mUp I 28 2 (nI (kS (I 27) t a))), L))) rfl ?_
        refine mRt (r := (some (.int 0))) (h := (mSH, (mUp I 28 2 (nI (kS (I 27) t a))), L)) rfl rfl ?_
        exact q0 (kWd_fk (w := kW1) (k := 1) (J := mUp I 28 2 (nI (kS (I 27) t a))) ht rfl hs h120 (by decide) (of_decide_eq_true c0) (by decide) (of_decide_eq_false c2))
    · refine mB 1 (s2 := (d + 4, 30, 56, [some (.ref 28), some (.ref 1004), some (.int (nI (kLe (I 27) t 200 (kS (I 27) t a)))), some (.int 0)], [.int 0], 0, 0, (mSH, (mUp I 28 2 (nI (kS (I 27) t a))), L))) rfl ?_
      refine mRt (r := (some (.int 0))) (h := (mSH, (mUp I 28 2 (nI (kS (I 27) t a))), L)) rfl rfl ?_
      exact q0 (kWd_fk (w := kW1) (k := 0) (J := mUp I 28 2 (nI (kS (I 27) t a))) ht rfl hs h120 (by decide) (of_decide_eq_true c0) (by decide) (of_decide_eq_false c1))
  · refine mB 1 (s2 := (d + 4, 30, 23, [some (.ref 28), some (.ref 1004), some (.int (nI (kLe (I 27) t 200 (kS (I 27) t a)))), none], [.int 0], 0, 0, (mSH, (mUp I 28 2 (nI (kS (I 27) t a))), L))) rfl ?_
    refine mRt (r := (some (.int 0))) (h := (mSH, (mUp I 28 2 (nI (kS (I 27) t a))), L)) rfl rfl ?_
    exact q0 (kWd_f0 (w := kW1) hs (of_decide_eq_false c0))
theorem x_word_2 {ro : Nat → Nat × (Nat → Int32)} {Q : mPo} {d : Nat} {I : Nat → Nat → Int32} {L : Nat → Nat → Int64} {t a : Nat} {b : Nat → Int32} (h120 : t ≤ 120) (hb : I 27 = b) (ht : I 26 1 = nI t) (hp : I 28 2 = nI a) (ha : a ≤ 200) (hB : mRB ro) (q0 : kWdC b t kW2 a = none → Q (some (.int 0)) (mSH, mUp I 28 2 (nI (kS b t a)), L)) (q1 : ∀ e, kWdC b t kW2 a = some e → e ≤ t → Q (some (.int 1)) (mSH, mUp I 28 2 (nI e), L))   : mWP mTb_ mFT ro (d + 4, 30, 0, [some (.ref 28), some (.ref 1005), none, none], [], 0, 0, (mSH, I, L)) Q := by
  subst hb
  have hs : kS (I 27) t a ≤ 400 := by
    have := kSk_le (b := I 27) (t := t) 200 a
    rw [kS_e]
    omega
  have n26 : mCn I 26 120 := mCn.of ht h120 (by omega)
  refine mB 1 (s2 := (d + 4, 30, 1, [some (.ref 28), some (.ref 1005), none, none], [.ref 28], 0, 0, (mSH, I, L))) rfl ?_
  refine mCall (s2 := (d + 3, 34, 0, [some (.ref 28)], [], 0, 0, (mSH, I, L))) rfl ?_
  refine x_skip h120 (b := I 27) rfl ht hp (by omega) ?_
  show mWP mTb_ mFT ro (d + 4, 30, 4, [some (.ref 28), some (.ref 1005), none, none], [], 0, 0, (mSH, (mUp I 28 2 (nI (kS (I 27) t a))), L)) _
  refine mB 1 (s2 := (d + 4, 30, 5, [some (.ref 28), some (.ref 1005), none, none], [.ref 28], 0, 0, (mSH, (mUp I 28 2 (nI (kS (I 27) t a))), L))) rfl ?_
  refine mCall (s2 := (d + 3, 35, 0, [some (.ref 28), none], [], 0, 0, (mSH, (mUp I 28 2 (nI (kS (I 27) t a))), L))) rfl ?_
  refine x_el h120 (b := I 27) rfl ht rfl (by omega) ?_
  show mWP mTb_ mFT ro (d + 4, 30, 8, [some (.ref 28), some (.ref 1005), none, none], [.int (nI (kLe (I 27) t 200 (kS (I 27) t a)))], 0, 0, (mSH, (mUp I 28 2 (nI (kS (I 27) t a))), L)) _
  refine mB 6 (s2 := (d + 4, 30, 16, [some (.ref 28), some (.ref 1005), some (.int (nI (kLe (I 27) t 200 (kS (I 27) t a)))), none], [.ref 1005, .int ((nI (kLe (I 27) t 200 (kS (I 27) t a))) - (nI (kS (I 27) t a)))], 0, 0, (mSH, (mUp I 28 2 (nI (kS (I 27) t a))), L))) rfl ?_
  refine mCall (s2 := (d + 3, 160, 0, [some (.ref 1005)], [], 0, 0, (mSH, (mUp I 28 2 (nI (kS (I 27) t a))), L))) rfl ?_
  refine w_len_2 hB ?_
  show mWP mTb_ mFT ro (d + 4, 30, 19, [some (.ref 28), some (.ref 1005), some (.int (nI (kLe (I 27) t 200 (kS (I 27) t a)))), none], [.int 5, .int ((nI (kLe (I 27) t 200 (kS (I 27) t a))) - (nI (kS (I 27) t a)))], 0, 0, (mSH, (mUp I 28 2 (nI (kS (I 27) t a))), L)) _
  refine mBr (s2 := (d + 4, 30, 24, [some (.ref 28), some (.ref 1005), some (.int (nI (kLe (I 27) t 200 (kS (I 27) t a)))), none], [], 0, 0, (mSH, (mUp I 28 2 (nI (kS (I 27) t a))), L))) (s3 := (d + 4, 30, 22, [some (.ref 28), some (.ref 1005), some (.int (nI (kLe (I 27) t 200 (kS (I 27) t a)))), none], [], 0, 0, (mSH, (mUp I 28 2 (nI (kS (I 27) t a))), L))) rfl (fun c0 => ?_) (fun c0 => ?_)
  · refine mB 4 (s2 := (d + 4, 30, 28, [some (.ref 28), some (.ref 1005), some (.int (nI (kLe (I 27) t 200 (kS (I 27) t a)))), some (.int 0)], [.ref 1005, .int 0], 0, 0, (mSH, (mUp I 28 2 (nI (kS (I 27) t a))), L))) rfl ?_
    refine mCall (s2 := (d + 3, 160, 0, [some (.ref 1005)], [], 0, 0, (mSH, (mUp I 28 2 (nI (kS (I 27) t a))), L))) rfl ?_
    refine w_len_2 hB ?_
    show mWP mTb_ mFT ro (d + 4, 30, 31, [some (.ref 28), some (.ref 1005), some (.int (nI (kLe (I 27) t 200 (kS (I 27) t a)))), some (.int 0)], [.int 5, .int 0], 0, 0, (mSH, (mUp I 28 2 (nI (kS (I 27) t a))), L)) _
    refine mBF (s3 := (d + 4, 30, 34, [some (.ref 28), some (.ref 1005), some (.int (nI (kLe (I 27) t 200 (kS (I 27) t a)))), some (.int 0)], [], 0, 0, (mSH, (mUp I 28 2 (nI (kS (I 27) t a))), L))) rfl (by decide) ?_
    refine mB 6 (s2 := (d + 4, 30, 44, [some (.ref 28), some (.ref 1005), some (.int (nI (kLe (I 27) t 200 (kS (I 27) t a)))), some (.int 0)], [.int ((nI (kS (I 27) t a)) + 0), .ref 26], 0, 0, (mSH, (mUp I 28 2 (nI (kS (I 27) t a))), L))) rfl ?_
    refine mCall (s2 := (d + 3, 42, 0, [some (.ref 26), some (.int ((nI (kS (I 27) t a)) + 0))], [], 0, 0, (mSH, (mUp I 28 2 (nI (kS (I 27) t a))), L))) rfl ?_
    refine w_at_26 n26 ?_
    show mWP mTb_ mFT ro (d + 4, 30, 47, [some (.ref 28), some (.ref 1005), some (.int (nI (kLe (I 27) t 200 (kS (I 27) t a)))), some (.int 0)], [.int (mAt (mUp I 28 2 (nI (kS (I 27) t a))) 26 27 ((nI (kS (I 27) t a)) + 0))], 0, 0, (mSH, (mUp I 28 2 (nI (kS (I 27) t a))), L)) _
    refine mB 2 (s2 := (d + 4, 30, 49, [some (.ref 28), some (.ref 1005), some (.int (nI (kLe (I 27) t 200 (kS (I 27) t a)))), some (.int 0)], [.int 0, .ref 1005, .int (mAt (mUp I 28 2 (nI (kS (I 27) t a))) 26 27 ((nI (kS (I 27) t a)) + 0))], 0, 0, (mSH, (mUp I 28 2 (nI (kS (I 27) t a))), L))) rfl ?_
    refine mCall (s2 := (d + 3, 161, 0, [some (.ref 1005), some (.int 0)], [], 0, 0, (mSH, (mUp I 28 2 (nI (kS (I 27) t a))), L))) rfl ?_
    refine w_char_2_0 hB ?_
    show mWP mTb_ mFT ro (d + 4, 30, 52, [some (.ref 28), some (.ref 1005), some (.int (nI (kLe (I 27) t 200 (kS (I 27) t a)))), some (.int 0)], [.int 110, .int (mAt (mUp I 28 2 (nI (kS (I 27) t a))) 26 27 ((nI (kS (I 27) t a)) + 0))], 0, 0, (mSH, (mUp I 28 2 (nI (kS (I 27) t a))), L)) _
    refine mBr (s2 := (d + 4, 30, 57, [some (.ref 28), some (.ref 1005), some (.int (nI (kLe (I 27) t 200 (kS (I 27) t a)))), some (.int 0)], [], 0, 0, (mSH, (mUp I 28 2 (nI (kS (I 27) t a))), L))) (s3 := (d + 4, 30, 55, [some (.ref 28), some (.ref 1005), some (.int (nI (kLe (I 27) t 200 (kS (I 27) t a)))), some (.int 0)], [], 0, 0, (mSH, (mUp I 28 2 (nI (kS (I 27) t a))), L))) rfl (fun c1 => ?_) (fun c1 => ?_)
    · refine mB 4 (s2 := (d + 4, 30, 28, [some (.ref 28), some (.ref 1005), some (.int (nI (kLe (I 27) t 200 (kS (I 27) t a)))), some (.int 1)], [.ref 1005, .int 1], 0, 0, (mSH, (mUp I 28 2 (nI (kS (I 27) t a))), L))) rfl ?_
      refine mCall (s2 := (d + 3, 160, 0, [some (.ref 1005)], [], 0, 0, (mSH, (mUp I 28 2 (nI (kS (I 27) t a))), L))) rfl ?_
      refine w_len_2 hB ?_
      show mWP mTb_ mFT ro (d + 4, 30, 31, [some (.ref 28), some (.ref 1005), some (.int (nI (kLe (I 27) t 200 (kS (I 27) t a)))), some (.int 1)], [.int 5, .int 1], 0, 0, (mSH, (mUp I 28 2 (nI (kS (I 27) t a))), L)) _
      refine mBF (s3 := (d + 4, 30, 34, [some (.ref 28), some (.ref 1005), some (.int (nI (kLe (I 27) t 200 (kS (I 27) t a)))), some (.int 1)], [], 0, 0, (mSH, (mUp I 28 2 (nI (kS (I 27) t a))), L))) rfl (by decide) ?_
      refine mB 6 (s2 := (d + 4, 30, 44, [some (.ref 28), some (.ref 1005), some (.int (nI (kLe (I 27) t 200 (kS (I 27) t a)))), some (.int 1)], [.int ((nI (kS (I 27) t a)) + 1), .ref 26], 0, 0, (mSH, (mUp I 28 2 (nI (kS (I 27) t a))), L))) rfl ?_
      refine mCall (s2 := (d + 3, 42, 0, [some (.ref 26), some (.int ((nI (kS (I 27) t a)) + 1))], [], 0, 0, (mSH, (mUp I 28 2 (nI (kS (I 27) t a))), L))) rfl ?_
      refine w_at_26 n26 ?_
      show mWP mTb_ mFT ro (d + 4, 30, 47, [some (.ref 28), some (.ref 1005), some (.int (nI (kLe (I 27) t 200 (kS (I 27) t a)))), some (.int 1)], [.int (mAt (mUp I 28 2 (nI (kS (I 27) t a))) 26 27 ((nI (kS (I 27) t a)) + 1))], 0, 0, (mSH, (mUp I 28 2 (nI (kS (I 27) t a))), L)) _
      refine mB 2 (s2 := (d + 4, 30, 49, [some (.ref 28), some (.ref 1005), some (.int (nI (kLe (I 27) t 200 (kS (I 27) t a)))), some (.int 1)], [.int 1, .ref 1005, .int (mAt (mUp I 28 2 (nI (kS (I 27) t a))) 26 27 ((nI (kS (I 27) t a)) + 1))], 0, 0, (mSH, (mUp I 28 2 (nI (kS (I 27) t a))), L))) rfl ?_
      refine mCall (s2 := (d + 3, 161, 0, [some (.ref 1005), some (.int 1)], [], 0, 0, (mSH, (mUp I 28 2 (nI (kS (I 27) t a))), L))) rfl ?_
      refine w_char_2_1 hB ?_
      show mWP mTb_ mFT ro (d + 4, 30, 52, [some (.ref 28), some (.ref 1005), some (.int (nI (kLe (I 27) t 200 (kS (I 27) t a)))), some (.int 1)], [.int 111, .int (mAt (mUp I 28 2 (nI (kS (I 27) t a))) 26 27 ((nI (kS (I 27) t a)) + 1))], 0, 0, (mSH, (mUp I 28 2 (nI (kS (I 27) t a))), L)) _
      refine mBr (s2 := (d + 4, 30, 57, [some (.ref 28), some (.ref 1005), some (.int (nI (kLe (I 27) t 200 (kS (I 27) t a)))), some (.int 1)], [], 0, 0, (mSH, (mUp I 28 2 (nI (kS (I 27) t a))), L))) (s3 := (d + 4, 30, 55, [some (.ref 28), some (.ref 1005), some (.int (nI (kLe (I 27) t 200 (kS (I 27) t a)))), some (.int 1)], [], 0, 0, (mSH, (mUp I 28 2 (nI (kS (I 27) t a))), L))) rfl (fun c2 => ?_) (fun c2 => ?_)
      · refine mB 4 (s2 := (d + 4, 30, 28, [some (.ref 28), some (.ref 1005), some (.int (nI (kLe (I 27) t 200 (kS (I 27) t a)))), some (.int 2)], [.ref 1005, .int 2], 0, 0, (mSH, (mUp I 28 2 (nI (kS (I 27) t a))), L))) rfl ?_
        refine mCall (s2 := (d + 3, 160, 0, [some (.ref 1005)], [], 0, 0, (mSH, (mUp I 28 2 (nI (kS (I 27) t a))), L))) rfl ?_
        refine w_len_2 hB ?_
        show mWP mTb_ mFT ro (d + 4, 30, 31, [some (.ref 28), some (.ref 1005), some (.int (nI (kLe (I 27) t 200 (kS (I 27) t a)))), some (.int 2)], [.int 5, .int 2], 0, 0, (mSH, (mUp I 28 2 (nI (kS (I 27) t a))), L)) _
        refine mBF (s3 := (d + 4, 30, 34, [some (.ref 28), some (.ref 1005), some (.int (nI (kLe (I 27) t 200 (kS (I 27) t a)))), some (.int 2)], [], 0, 0, (mSH, (mUp I 28 2 (nI (kS (I 27) t a))), L))) rfl (by decide) ?_
        refine mB 6 (s2 := (d + 4, 30, 44, [some (.ref 28), some (.ref 1005), some (.int (nI (kLe (I 27) t 200 (kS (I 27) t a)))), some (.int 2)], [.int ((nI (kS (I 27) t a)) + 2), .ref 26], 0, 0, (mSH, (mUp I 28 2 (nI (kS (I 27) t a))), L))) rfl ?_
        refine mCall (s2 := (d + 3, 42, 0, [some (.ref 26), some (.int ((nI (kS (I 27) t a)) + 2))], [], 0, 0, (mSH, (mUp I 28 2 (nI (kS (I 27) t a))), L))) rfl ?_
        refine w_at_26 n26 ?_
        show mWP mTb_ mFT ro (d + 4, 30, 47, [some (.ref 28), some (.ref 1005), some (.int (nI (kLe (I 27) t 200 (kS (I 27) t a)))), some (.int 2)], [.int (mAt (mUp I 28 2 (nI (kS (I 27) t a))) 26 27 ((nI (kS (I 27) t a)) + 2))], 0, 0, (mSH, (mUp I 28 2 (nI (kS (I 27) t a))), L)) _
        refine mB 2 (s2 := (d + 4, 30, 49, [some (.ref 28), some (.ref 1005), some (.int (nI (kLe (I 27) t 200 (kS (I 27) t a)))), some (.int 2)], [.int 2, .ref 1005, .int (mAt (mUp I 28 2 (nI (kS (I 27) t a))) 26 27 ((nI (kS (I 27) t a)) + 2))], 0, 0, (mSH, (mUp I 28 2 (nI (kS (I 27) t a))), L))) rfl ?_
        refine mCall (s2 := (d + 3, 161, 0, [some (.ref 1005), some (.int 2)], [], 0, 0, (mSH, (mUp I 28 2 (nI (kS (I 27) t a))), L))) rfl ?_
        refine w_char_2_2 hB ?_
        show mWP mTb_ mFT ro (d + 4, 30, 52, [some (.ref 28), some (.ref 1005), some (.int (nI (kLe (I 27) t 200 (kS (I 27) t a)))), some (.int 2)], [.int 114, .int (mAt (mUp I 28 2 (nI (kS (I 27) t a))) 26 27 ((nI (kS (I 27) t a)) + 2))], 0, 0, (mSH, (mUp I 28 2 (nI (kS (I 27) t a))), L)) _
        refine mBr (s2 := (d + 4, 30, 57, [some (.ref 28), some (.ref 1005), some (.int (nI (kLe (I 27) t 200 (kS (I 27) t a)))), some (.int 2)], [], 0, 0, (mSH, (mUp I 28 2 (nI (kS (I 27) t a))), L))) (s3 := (d + 4, 30, 55, [some (.ref 28), some (.ref 1005), some (.int (nI (kLe (I 27) t 200 (kS (I 27) t a)))), some (.int 2)], [], 0, 0, (mSH, (mUp I 28 2 (nI (kS (I 27) t a))), L))) rfl (fun c3 => ?_) (fun c3 => ?_)
        · refine mB 4 (s2 := (d + 4, 30, 28, [some (.ref 28), some (.ref 1005), some (.int (nI (kLe (I 27) t 200 (kS (I 27) t a)))), some (.int 3)], [.ref 1005, .int 3], 0, 0, (mSH, (mUp I 28 2 (nI (kS (I 27) t a))), L))) rfl ?_
          refine mCall (s2 := (d + 3, 160, 0, [some (.ref 1005)], [], 0, 0, (mSH, (mUp I 28 2 (nI (kS (I 27) t a))), L))) rfl ?_
          refine w_len_2 hB ?_
          show mWP mTb_ mFT ro (d + 4, 30, 31, [some (.ref 28), some (.ref 1005), some (.int (nI (kLe (I 27) t 200 (kS (I 27) t a)))), some (.int 3)], [.int 5, .int 3], 0, 0, (mSH, (mUp I 28 2 (nI (kS (I 27) t a))), L)) _
          refine mBF (s3 := (d + 4, 30, 34, [some (.ref 28), some (.ref 1005), some (.int (nI (kLe (I 27) t 200 (kS (I 27) t a)))), some (.int 3)], [], 0, 0, (mSH, (mUp I 28 2 (nI (kS (I 27) t a))), L))) rfl (by decide) ?_
          refine mB 6 (s2 := (d + 4, 30, 44, [some (.ref 28), some (.ref 1005), some (.int (nI (kLe (I 27) t 200 (kS (I 27) t a)))), some (.int 3)], [.int ((nI (kS (I 27) t a)) + 3), .ref 26], 0, 0, (mSH, (mUp I 28 2 (nI (kS (I 27) t a))), L))) rfl ?_
          refine mCall (s2 := (d + 3, 42, 0, [some (.ref 26), some (.int ((nI (kS (I 27) t a)) + 3))], [], 0, 0, (mSH, (mUp I 28 2 (nI (kS (I 27) t a))), L))) rfl ?_
          refine w_at_26 n26 ?_
          show mWP mTb_ mFT ro (d + 4, 30, 47, [some (.ref 28), some (.ref 1005), some (.int (nI (kLe (I 27) t 200 (kS (I 27) t a)))), some (.int 3)], [.int (mAt (mUp I 28 2 (nI (kS (I 27) t a))) 26 27 ((nI (kS (I 27) t a)) + 3))], 0, 0, (mSH, (mUp I 28 2 (nI (kS (I 27) t a))), L)) _
          refine mB 2 (s2 := (d + 4, 30, 49, [some (.ref 28), some (.ref 1005), some (.int (nI (kLe (I 27) t 200 (kS (I 27) t a)))), some (.int 3)], [.int 3, .ref 1005, .int (mAt (mUp I 28 2 (nI (kS (I 27) t a))) 26 27 ((nI (kS (I 27) t a)) + 3))], 0, 0, (mSH, (mUp I 28 2 (nI (kS (I 27) t a))), L))) rfl ?_
          refine mCall (s2 := (d + 3, 161, 0, [some (.ref 1005), some (.int 3)], [], 0, 0, (mSH, (mUp I 28 2 (nI (kS (I 27) t a))), L))) rfl ?_
          refine w_char_2_3 hB ?_
          show mWP mTb_ mFT ro (d + 4, 30, 52, [some (.ref 28), some (.ref 1005), some (.int (nI (kLe (I 27) t 200 (kS (I 27) t a)))), some (.int 3)], [.int 116, .int (mAt (mUp I 28 2 (nI (kS (I 27) t a))) 26 27 ((nI (kS (I 27) t a)) + 3))], 0, 0, (mSH, (mUp I 28 2 (nI (kS (I 27) t a))), L)) _
          refine mBr (s2 := (d + 4, 30, 57, [some (.ref 28), some (.ref 1005), some (.int (nI (kLe (I 27) t 200 (kS (I 27) t a)))), some (.int 3)], [], 0, 0, (mSH, (mUp I 28 2 (nI (kS (I 27) t a))), L))) (s3 := (d + 4, 30, 55, [some (.ref 28), some (.ref 1005), some (.int (nI (kLe (I 27) t 200 (kS (I 27) t a)))), some (.int 3)], [], 0, 0, (mSH, (mUp I 28 2 (nI (kS (I 27) t a))), L))) rfl (fun c4 => ?_) (fun c4 => ?_)
          · refine mB 4 (s2 := (d + 4, 30, 28, [some (.ref 28), some (.ref 1005), some (.int (nI (kLe (I 27) t 200 (kS (I 27) t a)))), some (.int 4)], [.ref 1005, .int 4], 0, 0, (mSH, (mUp I 28 2 (nI (kS (I 27) t a))), L))) rfl ?_
            refine mCall (s2 := (d + 3, 160, 0, [some (.ref 1005)], [], 0, 0, (mSH, (mUp I 28 2 (nI (kS (I 27) t a))), L))) rfl ?_
            refine w_len_2 hB ?_
            show mWP mTb_ mFT ro (d + 4, 30, 31, [some (.ref 28), some (.ref 1005), some (.int (nI (kLe (I 27) t 200 (kS (I 27) t a)))), some (.int 4)], [.int 5, .int 4], 0, 0, (mSH, (mUp I 28 2 (nI (kS (I 27) t a))), L)) _
            refine mBF (s3 := (d + 4, 30, 34, [some (.ref 28), some (.ref 1005), some (.int (nI (kLe (I 27) t 200 (kS (I 27) t a)))), some (.int 4)], [], 0, 0, (mSH, (mUp I 28 2 (nI (kS (I 27) t a))), L))) rfl (by decide) ?_
            refine mB 6 (s2 := (d + 4, 30, 44, [some (.ref 28), some (.ref 1005), some (.int (nI (kLe (I 27) t 200 (kS (I 27) t a)))), some (.int 4)], [.int ((nI (kS (I 27) t a)) + 4), .ref 26], 0, 0, (mSH, (mUp I 28 2 (nI (kS (I 27) t a))), L))) rfl ?_
            refine mCall (s2 := (d + 3, 42, 0, [some (.ref 26), some (.int ((nI (kS (I 27) t a)) + 4))], [], 0, 0, (mSH, (mUp I 28 2 (nI (kS (I 27) t a))), L))) rfl ?_
            refine w_at_26 n26 ?_
            show mWP mTb_ mFT ro (d + 4, 30, 47, [some (.ref 28), some (.ref 1005), some (.int (nI (kLe (I 27) t 200 (kS (I 27) t a)))), some (.int 4)], [.int (mAt (mUp I 28 2 (nI (kS (I 27) t a))) 26 27 ((nI (kS (I 27) t a)) + 4))], 0, 0, (mSH, (mUp I 28 2 (nI (kS (I 27) t a))), L)) _
            refine mB 2 (s2 := (d + 4, 30, 49, [some (.ref 28), some (.ref 1005), some (.int (nI (kLe (I 27) t 200 (kS (I 27) t a)))), some (.int 4)], [.int 4, .ref 1005, .int (mAt (mUp I 28 2 (nI (kS (I 27) t a))) 26 27 ((nI (kS (I 27) t a)) + 4))], 0, 0, (mSH, (mUp I 28 2 (nI (kS (I 27) t a))), L))) rfl ?_
            refine mCall (s2 := (d + 3, 161, 0, [some (.ref 1005), some (.int 4)], [], 0, 0, (mSH, (mUp I 28 2 (nI (kS (I 27) t a))), L))) rfl ?_
            refine w_char_2_4 hB ?_
            show mWP mTb_ mFT ro (d + 4, 30, 52, [some (.ref 28), some (.ref 1005), some (.int (nI (kLe (I 27) t 200 (kS (I 27) t a)))), some (.int 4)], [.int 104, .int (mAt (mUp I 28 2 (nI (kS (I 27) t a))) 26 27 ((nI (kS (I 27) t a)) + 4))], 0, 0, (mSH, (mUp I 28 2 (nI (kS (I 27) t a))), L)) _
            refine mBr (s2 := (d + 4, 30, 57, [some (.ref 28), some (.ref 1005), some (.int (nI (kLe (I 27) t 200 (kS (I 27) t a)))), some (.int 4)], [], 0, 0, (mSH, (mUp I 28 2 (nI (kS (I 27) t a))), L))) (s3 := (d + 4, 30, 55, [some (.ref 28), some (.ref 1005), some (.int (nI (kLe (I 27) t 200 (kS (I 27) t a)))), some (.int 4)], [], 0, 0, (mSH, (mUp I 28 2 (nI (kS (I 27) t a))), L))) rfl (fun c5 => ?_) (fun c5 => ?_)
            · refine mB 4 (s2 := (d + 4, 30, 28, [some (.ref 28), some (.ref 1005), some (.int (nI (kLe (I 27) t 200 (kS (I 27) t a)))), some (.int 5)], [.ref 1005, .int 5], 0, 0, (mSH, (mUp I 28 2 (nI (kS (I 27) t a))), L))) rfl ?_
              refine mCall (s2 := (d + 3, 160, 0, [some (.ref 1005)], [], 0, 0, (mSH, (mUp I 28 2 (nI (kS (I 27) t a))), L))) rfl ?_
              refine w_len_2 hB ?_
              show mWP mTb_ mFT ro (d + 4, 30, 31, [some (.ref 28), some (.ref 1005), some (.int (nI (kLe (I 27) t 200 (kS (I 27) t a)))), some (.int 5)], [.int 5, .int 5], 0, 0, (mSH, (mUp I 28 2 (nI (kS (I 27) t a))), L)) _
              refine mBT (s2 := (d + 4, 30, 63, [some (.ref 28), some (.ref 1005), some (.int (nI (kLe (I 27) t 200 (kS (I 27) t a)))), some (.int 5)], [], 0, 0, (mSH, (mUp I 28 2 (nI (kS (I 27) t a))), L))) rfl (by decide) ?_
              refine mB 4 (s2 := (d + 4, 30, 69, [some (.ref 28), some (.ref 1005), some (.int (nI (kLe (I 27) t 200 (kS (I 27) t a)))), some (.int 5)], [.int 1], 0, 0, (mSH, (mUp (mUp I 28 2 (nI (kS (I 27) t a))) 28 2 (nI (kLe (I 27) t 200 (kS (I 27) t a)))), L))) rfl ?_
              refine mRt (r := (some (.int 1))) (h := (mSH, (mUp (mUp I 28 2 (nI (kS (I 27) t a))) 28 2 (nI (kLe (I 27) t 200 (kS (I 27) t a)))), L)) rfl rfl ?_
              (have zt := kWd_t (w := kW2) (J := mUp I 28 2 (nI (kS (I 27) t a))) ht rfl hs h120 (by decide) (by decide) (of_decide_eq_true c0) (fun k hk => by match k, hk with | 0, _ => exact of_decide_eq_true c1 | 1, _ => exact of_decide_eq_true c2 | 2, _ => exact of_decide_eq_true c3 | 3, _ => exact of_decide_eq_true c4 | 4, _ => exact of_decide_eq_true c5 | k + 5, hk => exact absurd hk (by show ¬ k + 5 < 5; omega)); rw [xU2]; exact q1 _ zt.1 zt.2)
            · refine mB 1 (s2 := (d + 4, 30, 56, [some (.ref 28), some (.ref 1005), some (.int (nI (kLe (I 27) t 200 (kS (I 27) t a)))), some (.int 4)], [.int 0], 0, 0, (mSH, (mUp I 28 2 (nI (kS (I 27) t a))), L))) rfl ?_
              refine mRt (r := (some (.int 0))) (h := (mSH, (mUp I 28 2 (nI (kS (I 27) t a))), L)) rfl rfl ?_
              exact q0 (kWd_fk (w := kW2) (k := 4) (J := mUp I 28 2 (nI (kS (I 27) t a))) ht rfl hs h120 (by decide) (of_decide_eq_true c0) (by decide) (of_decide_eq_false c5))
          · refine mB 1 (s2 := (d + 4, 30, 56, [some (.ref 28), some (.ref 1005), some (.int (nI (kLe (I 27) t 200 (kS (I 27) t a)))), some (.int 3)], [.int 0], 0, 0, (mSH, (mUp I 28 2 (nI (kS (I 27) t a))), L))) rfl ?_
            refine mRt (r := (some (.int 0))) (h := (mSH, (mUp I 28 2 (nI (kS (I 27) t a))), L)) rfl rfl ?_
            exact q0 (kWd_fk (w := kW2) (k := 3) (J := mUp I 28 2 (nI (kS (I 27) t a))) ht rfl hs h120 (by decide) (of_decide_eq_true c0) (by decide) (of_decide_eq_false c4))
        · refine mB 1 (s2 := (d + 4, 30, 56, [some (.ref 28), some (.ref 1005), some (.int (nI (kLe (I 27) t 200 (kS (I 27) t a)))), some (.int 2)], [.int 0], 0, 0, (mSH, (mUp I 28 2 (nI (kS (I 27) t a))), L))) rfl ?_
          refine mRt (r := (some (.int 0))) (h := (mSH, (mUp I 28 2 (nI (kS (I 27) t a))), L)) rfl rfl ?_
          exact q0 (kWd_fk (w := kW2) (k := 2) (J := mUp I 28 2 (nI (kS (I 27) t a))) ht rfl hs h120 (by decide) (of_decide_eq_true c0) (by decide) (of_decide_eq_false c3))
      · refine mB 1 (s2 := (d + 4, 30, 56, [some (.ref 28), some (.ref 1005), some (.int (nI (kLe (I 27) t 200 (kS (I 27) t a)))), some (.int 1)], [.int 0], 0, 0, (mSH, (mUp I 28 2 (nI (kS (I 27) t a))), L))) rfl ?_
        refine mRt (r := (some (.int 0))) (h := (mSH, (mUp I 28 2 (nI (kS (I 27) t a))), L)) rfl rfl ?_
        exact q0 (kWd_fk (w := kW2) (k := 1) (J := mUp I 28 2 (nI (kS (I 27) t a))) ht rfl hs h120 (by decide) (of_decide_eq_true c0) (by decide) (of_decide_eq_false c2))
    · refine mB 1 (s2 := (d + 4, 30, 56, [some (.ref 28), some (.ref 1005), some (.int (nI (kLe (I 27) t 200 (kS (I 27) t a)))), some (.int 0)], [.int 0], 0, 0, (mSH, (mUp I 28 2 (nI (kS (I 27) t a))), L))) rfl ?_
      refine mRt (r := (some (.int 0))) (h := (mSH, (mUp I 28 2 (nI (kS (I 27) t a))), L)) rfl rfl ?_
      exact q0 (kWd_fk (w := kW2) (k := 0) (J := mUp I 28 2 (nI (kS (I 27) t a))) ht rfl hs h120 (by decide) (of_decide_eq_true c0) (by decide) (of_decide_eq_false c1))
  · refine mB 1 (s2 := (d + 4, 30, 23, [some (.ref 28), some (.ref 1005), some (.int (nI (kLe (I 27) t 200 (kS (I 27) t a)))), none], [.int 0], 0, 0, (mSH, (mUp I 28 2 (nI (kS (I 27) t a))), L))) rfl ?_
    refine mRt (r := (some (.int 0))) (h := (mSH, (mUp I 28 2 (nI (kS (I 27) t a))), L)) rfl rfl ?_
    exact q0 (kWd_f0 (w := kW2) hs (of_decide_eq_false c0))
theorem x_word_3 {ro : Nat → Nat × (Nat → Int32)} {Q : mPo} {d : Nat} {I : Nat → Nat → Int32} {L : Nat → Nat → Int64} {t a : Nat} {b : Nat → Int32} (h120 : t ≤ 120) (hb : I 27 = b) (ht : I 26 1 = nI t) (hp : I 28 2 = nI a) (ha : a ≤ 200) (hB : mRB ro) (q0 : kWdC b t kW3 a = none → Q (some (.int 0)) (mSH, mUp I 28 2 (nI (kS b t a)), L)) (q1 : ∀ e, kWdC b t kW3 a = some e → e ≤ t → Q (some (.int 1)) (mSH, mUp I 28 2 (nI e), L))   : mWP mTb_ mFT ro (d + 4, 30, 0, [some (.ref 28), some (.ref 1006), none, none], [], 0, 0, (mSH, I, L)) Q := by
  subst hb
  have hs : kS (I 27) t a ≤ 400 := by
    have := kSk_le (b := I 27) (t := t) 200 a
    rw [kS_e]
    omega
  have n26 : mCn I 26 120 := mCn.of ht h120 (by omega)
  refine mB 1 (s2 := (d + 4, 30, 1, [some (.ref 28), some (.ref 1006), none, none], [.ref 28], 0, 0, (mSH, I, L))) rfl ?_
  refine mCall (s2 := (d + 3, 34, 0, [some (.ref 28)], [], 0, 0, (mSH, I, L))) rfl ?_
  refine x_skip h120 (b := I 27) rfl ht hp (by omega) ?_
  show mWP mTb_ mFT ro (d + 4, 30, 4, [some (.ref 28), some (.ref 1006), none, none], [], 0, 0, (mSH, (mUp I 28 2 (nI (kS (I 27) t a))), L)) _
  refine mB 1 (s2 := (d + 4, 30, 5, [some (.ref 28), some (.ref 1006), none, none], [.ref 28], 0, 0, (mSH, (mUp I 28 2 (nI (kS (I 27) t a))), L))) rfl ?_
  refine mCall (s2 := (d + 3, 35, 0, [some (.ref 28), none], [], 0, 0, (mSH, (mUp I 28 2 (nI (kS (I 27) t a))), L))) rfl ?_
  refine x_el h120 (b := I 27) rfl ht rfl (by omega) ?_
  show mWP mTb_ mFT ro (d + 4, 30, 8, [some (.ref 28), some (.ref 1006), none, none], [.int (nI (kLe (I 27) t 200 (kS (I 27) t a)))], 0, 0, (mSH, (mUp I 28 2 (nI (kS (I 27) t a))), L)) _
  refine mB 6 (s2 := (d + 4, 30, 16, [some (.ref 28), some (.ref 1006), some (.int (nI (kLe (I 27) t 200 (kS (I 27) t a)))), none], [.ref 1006, .int ((nI (kLe (I 27) t 200 (kS (I 27) t a))) - (nI (kS (I 27) t a)))], 0, 0, (mSH, (mUp I 28 2 (nI (kS (I 27) t a))), L))) rfl ?_
  refine mCall (s2 := (d + 3, 160, 0, [some (.ref 1006)], [], 0, 0, (mSH, (mUp I 28 2 (nI (kS (I 27) t a))), L))) rfl ?_
  refine w_len_3 hB ?_
  show mWP mTb_ mFT ro (d + 4, 30, 19, [some (.ref 28), some (.ref 1006), some (.int (nI (kLe (I 27) t 200 (kS (I 27) t a)))), none], [.int 5, .int ((nI (kLe (I 27) t 200 (kS (I 27) t a))) - (nI (kS (I 27) t a)))], 0, 0, (mSH, (mUp I 28 2 (nI (kS (I 27) t a))), L)) _
  refine mBr (s2 := (d + 4, 30, 24, [some (.ref 28), some (.ref 1006), some (.int (nI (kLe (I 27) t 200 (kS (I 27) t a)))), none], [], 0, 0, (mSH, (mUp I 28 2 (nI (kS (I 27) t a))), L))) (s3 := (d + 4, 30, 22, [some (.ref 28), some (.ref 1006), some (.int (nI (kLe (I 27) t 200 (kS (I 27) t a)))), none], [], 0, 0, (mSH, (mUp I 28 2 (nI (kS (I 27) t a))), L))) rfl (fun c0 => ?_) (fun c0 => ?_)
  · refine mB 4 (s2 := (d + 4, 30, 28, [some (.ref 28), some (.ref 1006), some (.int (nI (kLe (I 27) t 200 (kS (I 27) t a)))), some (.int 0)], [.ref 1006, .int 0], 0, 0, (mSH, (mUp I 28 2 (nI (kS (I 27) t a))), L))) rfl ?_
    refine mCall (s2 := (d + 3, 160, 0, [some (.ref 1006)], [], 0, 0, (mSH, (mUp I 28 2 (nI (kS (I 27) t a))), L))) rfl ?_
    refine w_len_3 hB ?_
    show mWP mTb_ mFT ro (d + 4, 30, 31, [some (.ref 28), some (.ref 1006), some (.int (nI (kLe (I 27) t 200 (kS (I 27) t a)))), some (.int 0)], [.int 5, .int 0], 0, 0, (mSH, (mUp I 28 2 (nI (kS (I 27) t a))), L)) _
    refine mBF (s3 := (d + 4, 30, 34, [some (.ref 28), some (.ref 1006), some (.int (nI (kLe (I 27) t 200 (kS (I 27) t a)))), some (.int 0)], [], 0, 0, (mSH, (mUp I 28 2 (nI (kS (I 27) t a))), L))) rfl (by decide) ?_
    refine mB 6 (s2 := (d + 4, 30, 44, [some (.ref 28), some (.ref 1006), some (.int (nI (kLe (I 27) t 200 (kS (I 27) t a)))), some (.int 0)], [.int ((nI (kS (I 27) t a)) + 0), .ref 26], 0, 0, (mSH, (mUp I 28 2 (nI (kS (I 27) t a))), L))) rfl ?_
    refine mCall (s2 := (d + 3, 42, 0, [some (.ref 26), some (.int ((nI (kS (I 27) t a)) + 0))], [], 0, 0, (mSH, (mUp I 28 2 (nI (kS (I 27) t a))), L))) rfl ?_
    refine w_at_26 n26 ?_
    show mWP mTb_ mFT ro (d + 4, 30, 47, [some (.ref 28), some (.ref 1006), some (.int (nI (kLe (I 27) t 200 (kS (I 27) t a)))), some (.int 0)], [.int (mAt (mUp I 28 2 (nI (kS (I 27) t a))) 26 27 ((nI (kS (I 27) t a)) + 0))], 0, 0, (mSH, (mUp I 28 2 (nI (kS (I 27) t a))), L)) _
    refine mB 2 (s2 := (d + 4, 30, 49, [some (.ref 28), some (.ref 1006), some (.int (nI (kLe (I 27) t 200 (kS (I 27) t a)))), some (.int 0)], [.int 0, .ref 1006, .int (mAt (mUp I 28 2 (nI (kS (I 27) t a))) 26 27 ((nI (kS (I 27) t a)) + 0))], 0, 0, (mSH, (mUp I 28 2 (nI (kS (I 27) t a))), L))) rfl ?_
    refine mCall (s2 := (d + 3, 161, 0, [some (.ref 1006), some (.int 0)], [], 0, 0, (mSH, (mUp I 28 2 (nI (kS (I 27) t a))), L))) rfl ?_
    refine w_char_3_0 hB ?_
    show mWP mTb_ mFT ro (d + 4, 30, 52, [some (.ref 28), some (.ref 1006), some (.int (nI (kLe (I 27) t 200 (kS (I 27) t a)))), some (.int 0)], [.int 115, .int (mAt (mUp I 28 2 (nI (kS (I 27) t a))) 26 27 ((nI (kS (I 27) t a)) + 0))], 0, 0, (mSH, (mUp I 28 2 (nI (kS (I 27) t a))), L)) _
    refine mBr (s2 := (d + 4, 30, 57, [some (.ref 28), some (.ref 1006), some (.int (nI (kLe (I 27) t 200 (kS (I 27) t a)))), some (.int 0)], [], 0, 0, (mSH, (mUp I 28 2 (nI (kS (I 27) t a))), L))) (s3 := (d + 4, 30, 55, [some (.ref 28), some (.ref 1006), some (.int (nI (kLe (I 27) t 200 (kS (I 27) t a)))), some (.int 0)], [], 0, 0, (mSH, (mUp I 28 2 (nI (kS (I 27) t a))), L))) rfl (fun c1 => ?_) (fun c1 => ?_)
    · refine mB 4 (s2 := (d + 4, 30, 28, [some (.ref 28), some (.ref 1006), some (.int (nI (kLe (I 27) t 200 (kS (I 27) t a)))), some (.int 1)], [.ref 1006, .int 1], 0, 0, (mSH, (mUp I 28 2 (nI (kS (I 27) t a))), L))) rfl ?_
      refine mCall (s2 := (d + 3, 160, 0, [some (.ref 1006)], [], 0, 0, (mSH, (mUp I 28 2 (nI (kS (I 27) t a))), L))) rfl ?_
      refine w_len_3 hB ?_
      show mWP mTb_ mFT ro (d + 4, 30, 31, [some (.ref 28), some (.ref 1006), some (.int (nI (kLe (I 27) t 200 (kS (I 27) t a)))), some (.int 1)], [.int 5, .int 1], 0, 0, (mSH, (mUp I 28 2 (nI (kS (I 27) t a))), L)) _
      refine mBF (s3 := (d + 4, 30, 34, [some (.ref 28), some (.ref 1006), some (.int (nI (kLe (I 27) t 200 (kS (I 27) t a)))), some (.int 1)], [], 0, 0, (mSH, (mUp I 28 2 (nI (kS (I 27) t a))), L))) rfl (by decide) ?_
      refine mB 6 (s2 := (d + 4, 30, 44, [some (.ref 28), some (.ref 1006), some (.int (nI (kLe (I 27) t 200 (kS (I 27) t a)))), some (.int 1)], [.int ((nI (kS (I 27) t a)) + 1), .ref 26], 0, 0, (mSH, (mUp I 28 2 (nI (kS (I 27) t a))), L))) rfl ?_
      refine mCall (s2 := (d + 3, 42, 0, [some (.ref 26), some (.int ((nI (kS (I 27) t a)) + 1))], [], 0, 0, (mSH, (mUp I 28 2 (nI (kS (I 27) t a))), L))) rfl ?_
      refine w_at_26 n26 ?_
      show mWP mTb_ mFT ro (d + 4, 30, 47, [some (.ref 28), some (.ref 1006), some (.int (nI (kLe (I 27) t 200 (kS (I 27) t a)))), some (.int 1)], [.int (mAt (mUp I 28 2 (nI (kS (I 27) t a))) 26 27 ((nI (kS (I 27) t a)) + 1))], 0, 0, (mSH, (mUp I 28 2 (nI (kS (I 27) t a))), L)) _
      refine mB 2 (s2 := (d + 4, 30, 49, [some (.ref 28), some (.ref 1006), some (.int (nI (kLe (I 27) t 200 (kS (I 27) t a)))), some (.int 1)], [.int 1, .ref 1006, .int (mAt (mUp I 28 2 (nI (kS (I 27) t a))) 26 27 ((nI (kS (I 27) t a)) + 1))], 0, 0, (mSH, (mUp I 28 2 (nI (kS (I 27) t a))), L))) rfl ?_
      refine mCall (s2 := (d + 3, 161, 0, [some (.ref 1006), some (.int 1)], [], 0, 0, (mSH, (mUp I 28 2 (nI (kS (I 27) t a))), L))) rfl ?_
      refine w_char_3_1 hB ?_
      show mWP mTb_ mFT ro (d + 4, 30, 52, [some (.ref 28), some (.ref 1006), some (.int (nI (kLe (I 27) t 200 (kS (I 27) t a)))), some (.int 1)], [.int 111, .int (mAt (mUp I 28 2 (nI (kS (I 27) t a))) 26 27 ((nI (kS (I 27) t a)) + 1))], 0, 0, (mSH, (mUp I 28 2 (nI (kS (I 27) t a))), L)) _
      refine mBr (s2 := (d + 4, 30, 57, [some (.ref 28), some (.ref 1006), some (.int (nI (kLe (I 27) t 200 (kS (I 27) t a)))), some (.int 1)], [], 0, 0, (mSH, (mUp I 28 2 (nI (kS (I 27) t a))), L))) (s3 := (d + 4, 30, 55, [some (.ref 28), some (.ref 1006), some (.int (nI (kLe (I 27) t 200 (kS (I 27) t a)))), some (.int 1)], [], 0, 0, (mSH, (mUp I 28 2 (nI (kS (I 27) t a))), L))) rfl (fun c2 => ?_) (fun c2 => ?_)
      · refine mB 4 (s2 := (d + 4, 30, 28, [some (.ref 28), some (.ref 1006), some (.int (nI (kLe (I 27) t 200 (kS (I 27) t a)))), some (.int 2)], [.ref 1006, .int 2], 0, 0, (mSH, (mUp I 28 2 (nI (kS (I 27) t a))), L))) rfl ?_
        refine mCall (s2 := (d + 3, 160, 0, [some (.ref 1006)], [], 0, 0, (mSH, (mUp I 28 2 (nI (kS (I 27) t a))), L))) rfl ?_
        refine w_len_3 hB ?_
        show mWP mTb_ mFT ro (d + 4, 30, 31, [some (.ref 28), some (.ref 1006), some (.int (nI (kLe (I 27) t 200 (kS (I 27) t a)))), some (.int 2)], [.int 5, .int 2], 0, 0, (mSH, (mUp I 28 2 (nI (kS (I 27) t a))), L)) _
        refine mBF (s3 := (d + 4, 30, 34, [some (.ref 28), some (.ref 1006), some (.int (nI (kLe (I 27) t 200 (kS (I 27) t a)))), some (.int 2)], [], 0, 0, (mSH, (mUp I 28 2 (nI (kS (I 27) t a))), L))) rfl (by decide) ?_
        refine mB 6 (s2 := (d + 4, 30, 44, [some (.ref 28), some (.ref 1006), some (.int (nI (kLe (I 27) t 200 (kS (I 27) t a)))), some (.int 2)], [.int ((nI (kS (I 27) t a)) + 2), .ref 26], 0, 0, (mSH, (mUp I 28 2 (nI (kS (I 27) t a))), L))) rfl ?_
        refine mCall (s2 := (d + 3, 42, 0, [some (.ref 26), some (.int ((nI (kS (I 27) t a)) + 2))], [], 0, 0, (mSH, (mUp I 28 2 (nI (kS (I 27) t a))), L))) rfl ?_
        refine w_at_26 n26 ?_
        show mWP mTb_ mFT ro (d + 4, 30, 47, [some (.ref 28), some (.ref 1006), some (.int (nI (kLe (I 27) t 200 (kS (I 27) t a)))), some (.int 2)], [.int (mAt (mUp I 28 2 (nI (kS (I 27) t a))) 26 27 ((nI (kS (I 27) t a)) + 2))], 0, 0, (mSH, (mUp I 28 2 (nI (kS (I 27) t a))), L)) _
        refine mB 2 (s2 := (d + 4, 30, 49, [some (.ref 28), some (.ref 1006), some (.int (nI (kLe (I 27) t 200 (kS (I 27) t a)))), some (.int 2)], [.int 2, .ref 1006, .int (mAt (mUp I 28 2 (nI (kS (I 27) t a))) 26 27 ((nI (kS (I 27) t a)) + 2))], 0, 0, (mSH, (mUp I 28 2 (nI (kS (I 27) t a))), L))) rfl ?_
        refine mCall (s2 := (d + 3, 161, 0, [some (.ref 1006), some (.int 2)], [], 0, 0, (mSH, (mUp I 28 2 (nI (kS (I 27) t a))), L))) rfl ?_
        refine w_char_3_2 hB ?_
        show mWP mTb_ mFT ro (d + 4, 30, 52, [some (.ref 28), some (.ref 1006), some (.int (nI (kLe (I 27) t 200 (kS (I 27) t a)))), some (.int 2)], [.int 117, .int (mAt (mUp I 28 2 (nI (kS (I 27) t a))) 26 27 ((nI (kS (I 27) t a)) + 2))], 0, 0, (mSH, (mUp I 28 2 (nI (kS (I 27) t a))), L)) _
        refine mBr (s2 := (d + 4, 30, 57, [some (.ref 28), some (.ref 1006), some (.int (nI (kLe (I 27) t 200 (kS (I 27) t a)))), some (.int 2)], [], 0, 0, (mSH, (mUp I 28 2 (nI (kS (I 27) t a))), L))) (s3 := (d + 4, 30, 55, [some (.ref 28), some (.ref 1006), some (.int (nI (kLe (I 27) t 200 (kS (I 27) t a)))), some (.int 2)], [], 0, 0, (mSH, (mUp I 28 2 (nI (kS (I 27) t a))), L))) rfl (fun c3 => ?_) (fun c3 => ?_)
        · refine mB 4 (s2 := (d + 4, 30, 28, [some (.ref 28), some (.ref 1006), some (.int (nI (kLe (I 27) t 200 (kS (I 27) t a)))), some (.int 3)], [.ref 1006, .int 3], 0, 0, (mSH, (mUp I 28 2 (nI (kS (I 27) t a))), L))) rfl ?_
          refine mCall (s2 := (d + 3, 160, 0, [some (.ref 1006)], [], 0, 0, (mSH, (mUp I 28 2 (nI (kS (I 27) t a))), L))) rfl ?_
          refine w_len_3 hB ?_
          show mWP mTb_ mFT ro (d + 4, 30, 31, [some (.ref 28), some (.ref 1006), some (.int (nI (kLe (I 27) t 200 (kS (I 27) t a)))), some (.int 3)], [.int 5, .int 3], 0, 0, (mSH, (mUp I 28 2 (nI (kS (I 27) t a))), L)) _
          refine mBF (s3 := (d + 4, 30, 34, [some (.ref 28), some (.ref 1006), some (.int (nI (kLe (I 27) t 200 (kS (I 27) t a)))), some (.int 3)], [], 0, 0, (mSH, (mUp I 28 2 (nI (kS (I 27) t a))), L))) rfl (by decide) ?_
          refine mB 6 (s2 := (d + 4, 30, 44, [some (.ref 28), some (.ref 1006), some (.int (nI (kLe (I 27) t 200 (kS (I 27) t a)))), some (.int 3)], [.int ((nI (kS (I 27) t a)) + 3), .ref 26], 0, 0, (mSH, (mUp I 28 2 (nI (kS (I 27) t a))), L))) rfl ?_
          refine mCall (s2 := (d + 3, 42, 0, [some (.ref 26), some (.int ((nI (kS (I 27) t a)) + 3))], [], 0, 0, (mSH, (mUp I 28 2 (nI (kS (I 27) t a))), L))) rfl ?_
          refine w_at_26 n26 ?_
          show mWP mTb_ mFT ro (d + 4, 30, 47, [some (.ref 28), some (.ref 1006), some (.int (nI (kLe (I 27) t 200 (kS (I 27) t a)))), some (.int 3)], [.int (mAt (mUp I 28 2 (nI (kS (I 27) t a))) 26 27 ((nI (kS (I 27) t a)) + 3))], 0, 0, (mSH, (mUp I 28 2 (nI (kS (I 27) t a))), L)) _
          refine mB 2 (s2 := (d + 4, 30, 49, [some (.ref 28), some (.ref 1006), some (.int (nI (kLe (I 27) t 200 (kS (I 27) t a)))), some (.int 3)], [.int 3, .ref 1006, .int (mAt (mUp I 28 2 (nI (kS (I 27) t a))) 26 27 ((nI (kS (I 27) t a)) + 3))], 0, 0, (mSH, (mUp I 28 2 (nI (kS (I 27) t a))), L))) rfl ?_
          refine mCall (s2 := (d + 3, 161, 0, [some (.ref 1006), some (.int 3)], [], 0, 0, (mSH, (mUp I 28 2 (nI (kS (I 27) t a))), L))) rfl ?_
          refine w_char_3_3 hB ?_
          show mWP mTb_ mFT ro (d + 4, 30, 52, [some (.ref 28), some (.ref 1006), some (.int (nI (kLe (I 27) t 200 (kS (I 27) t a)))), some (.int 3)], [.int 116, .int (mAt (mUp I 28 2 (nI (kS (I 27) t a))) 26 27 ((nI (kS (I 27) t a)) + 3))], 0, 0, (mSH, (mUp I 28 2 (nI (kS (I 27) t a))), L)) _
          refine mBr (s2 := (d + 4, 30, 57, [some (.ref 28), some (.ref 1006), some (.int (nI (kLe (I 27) t 200 (kS (I 27) t a)))), some (.int 3)], [], 0, 0, (mSH, (mUp I 28 2 (nI (kS (I 27) t a))), L))) (s3 := (d + 4, 30, 55, [some (.ref 28), some (.ref 1006), some (.int (nI (kLe (I 27) t 200 (kS (I 27) t a)))), some (.int 3)], [], 0, 0, (mSH, (mUp I 28 2 (nI (kS (I 27) t a))), L))) rfl (fun c4 => ?_) (fun c4 => ?_)
          · refine mB 4 (s2 := (d + 4, 30, 28, [some (.ref 28), some (.ref 1006), some (.int (nI (kLe (I 27) t 200 (kS (I 27) t a)))), some (.int 4)], [.ref 1006, .int 4], 0, 0, (mSH, (mUp I 28 2 (nI (kS (I 27) t a))), L))) rfl ?_
            refine mCall (s2 := (d + 3, 160, 0, [some (.ref 1006)], [], 0, 0, (mSH, (mUp I 28 2 (nI (kS (I 27) t a))), L))) rfl ?_
            refine w_len_3 hB ?_
            show mWP mTb_ mFT ro (d + 4, 30, 31, [some (.ref 28), some (.ref 1006), some (.int (nI (kLe (I 27) t 200 (kS (I 27) t a)))), some (.int 4)], [.int 5, .int 4], 0, 0, (mSH, (mUp I 28 2 (nI (kS (I 27) t a))), L)) _
            refine mBF (s3 := (d + 4, 30, 34, [some (.ref 28), some (.ref 1006), some (.int (nI (kLe (I 27) t 200 (kS (I 27) t a)))), some (.int 4)], [], 0, 0, (mSH, (mUp I 28 2 (nI (kS (I 27) t a))), L))) rfl (by decide) ?_
            refine mB 6 (s2 := (d + 4, 30, 44, [some (.ref 28), some (.ref 1006), some (.int (nI (kLe (I 27) t 200 (kS (I 27) t a)))), some (.int 4)], [.int ((nI (kS (I 27) t a)) + 4), .ref 26], 0, 0, (mSH, (mUp I 28 2 (nI (kS (I 27) t a))), L))) rfl ?_
            refine mCall (s2 := (d + 3, 42, 0, [some (.ref 26), some (.int ((nI (kS (I 27) t a)) + 4))], [], 0, 0, (mSH, (mUp I 28 2 (nI (kS (I 27) t a))), L))) rfl ?_
            refine w_at_26 n26 ?_
            show mWP mTb_ mFT ro (d + 4, 30, 47, [some (.ref 28), some (.ref 1006), some (.int (nI (kLe (I 27) t 200 (kS (I 27) t a)))), some (.int 4)], [.int (mAt (mUp I 28 2 (nI (kS (I 27) t a))) 26 27 ((nI (kS (I 27) t a)) + 4))], 0, 0, (mSH, (mUp I 28 2 (nI (kS (I 27) t a))), L)) _
            refine mB 2 (s2 := (d + 4, 30, 49, [some (.ref 28), some (.ref 1006), some (.int (nI (kLe (I 27) t 200 (kS (I 27) t a)))), some (.int 4)], [.int 4, .ref 1006, .int (mAt (mUp I 28 2 (nI (kS (I 27) t a))) 26 27 ((nI (kS (I 27) t a)) + 4))], 0, 0, (mSH, (mUp I 28 2 (nI (kS (I 27) t a))), L))) rfl ?_
            refine mCall (s2 := (d + 3, 161, 0, [some (.ref 1006), some (.int 4)], [], 0, 0, (mSH, (mUp I 28 2 (nI (kS (I 27) t a))), L))) rfl ?_
            refine w_char_3_4 hB ?_
            show mWP mTb_ mFT ro (d + 4, 30, 52, [some (.ref 28), some (.ref 1006), some (.int (nI (kLe (I 27) t 200 (kS (I 27) t a)))), some (.int 4)], [.int 104, .int (mAt (mUp I 28 2 (nI (kS (I 27) t a))) 26 27 ((nI (kS (I 27) t a)) + 4))], 0, 0, (mSH, (mUp I 28 2 (nI (kS (I 27) t a))), L)) _
            refine mBr (s2 := (d + 4, 30, 57, [some (.ref 28), some (.ref 1006), some (.int (nI (kLe (I 27) t 200 (kS (I 27) t a)))), some (.int 4)], [], 0, 0, (mSH, (mUp I 28 2 (nI (kS (I 27) t a))), L))) (s3 := (d + 4, 30, 55, [some (.ref 28), some (.ref 1006), some (.int (nI (kLe (I 27) t 200 (kS (I 27) t a)))), some (.int 4)], [], 0, 0, (mSH, (mUp I 28 2 (nI (kS (I 27) t a))), L))) rfl (fun c5 => ?_) (fun c5 => ?_)
            · refine mB 4 (s2 := (d + 4, 30, 28, [some (.ref 28), some (.ref 1006), some (.int (nI (kLe (I 27) t 200 (kS (I 27) t a)))), some (.int 5)], [.ref 1006, .int 5], 0, 0, (mSH, (mUp I 28 2 (nI (kS (I 27) t a))), L))) rfl ?_
              refine mCall (s2 := (d + 3, 160, 0, [some (.ref 1006)], [], 0, 0, (mSH, (mUp I 28 2 (nI (kS (I 27) t a))), L))) rfl ?_
              refine w_len_3 hB ?_
              show mWP mTb_ mFT ro (d + 4, 30, 31, [some (.ref 28), some (.ref 1006), some (.int (nI (kLe (I 27) t 200 (kS (I 27) t a)))), some (.int 5)], [.int 5, .int 5], 0, 0, (mSH, (mUp I 28 2 (nI (kS (I 27) t a))), L)) _
              refine mBT (s2 := (d + 4, 30, 63, [some (.ref 28), some (.ref 1006), some (.int (nI (kLe (I 27) t 200 (kS (I 27) t a)))), some (.int 5)], [], 0, 0, (mSH, (mUp I 28 2 (nI (kS (I 27) t a))), L))) rfl (by decide) ?_
              refine mB 4 (s2 := (d + 4, 30, 69, [some (.ref 28), some (.ref 1006), some (.int (nI (kLe (I 27) t 200 (kS (I 27) t a)))), some (.int 5)], [.int 1], 0, 0, (mSH, (mUp (mUp I 28 2 (nI (kS (I 27) t a))) 28 2 (nI (kLe (I 27) t 200 (kS (I 27) t a)))), L))) rfl ?_
              refine mRt (r := (some (.int 1))) (h := (mSH, (mUp (mUp I 28 2 (nI (kS (I 27) t a))) 28 2 (nI (kLe (I 27) t 200 (kS (I 27) t a)))), L)) rfl rfl ?_
              (have zt := kWd_t (w := kW3) (J := mUp I 28 2 (nI (kS (I 27) t a))) ht rfl hs h120 (by decide) (by decide) (of_decide_eq_true c0) (fun k hk => by match k, hk with | 0, _ => exact of_decide_eq_true c1 | 1, _ => exact of_decide_eq_true c2 | 2, _ => exact of_decide_eq_true c3 | 3, _ => exact of_decide_eq_true c4 | 4, _ => exact of_decide_eq_true c5 | k + 5, hk => exact absurd hk (by show ¬ k + 5 < 5; omega)); rw [xU2]; exact q1 _ zt.1 zt.2)
            · refine mB 1 (s2 := (d + 4, 30, 56, [some (.ref 28), some (.ref 1006), some (.int (nI (kLe (I 27) t 200 (kS (I 27) t a)))), some (.int 4)], [.int 0], 0, 0, (mSH, (mUp I 28 2 (nI (kS (I 27) t a))), L))) rfl ?_
              refine mRt (r := (some (.int 0))) (h := (mSH, (mUp I 28 2 (nI (kS (I 27) t a))), L)) rfl rfl ?_
              exact q0 (kWd_fk (w := kW3) (k := 4) (J := mUp I 28 2 (nI (kS (I 27) t a))) ht rfl hs h120 (by decide) (of_decide_eq_true c0) (by decide) (of_decide_eq_false c5))
          · refine mB 1 (s2 := (d + 4, 30, 56, [some (.ref 28), some (.ref 1006), some (.int (nI (kLe (I 27) t 200 (kS (I 27) t a)))), some (.int 3)], [.int 0], 0, 0, (mSH, (mUp I 28 2 (nI (kS (I 27) t a))), L))) rfl ?_
            refine mRt (r := (some (.int 0))) (h := (mSH, (mUp I 28 2 (nI (kS (I 27) t a))), L)) rfl rfl ?_
            exact q0 (kWd_fk (w := kW3) (k := 3) (J := mUp I 28 2 (nI (kS (I 27) t a))) ht rfl hs h120 (by decide) (of_decide_eq_true c0) (by decide) (of_decide_eq_false c4))
        · refine mB 1 (s2 := (d + 4, 30, 56, [some (.ref 28), some (.ref 1006), some (.int (nI (kLe (I 27) t 200 (kS (I 27) t a)))), some (.int 2)], [.int 0], 0, 0, (mSH, (mUp I 28 2 (nI (kS (I 27) t a))), L))) rfl ?_
          refine mRt (r := (some (.int 0))) (h := (mSH, (mUp I 28 2 (nI (kS (I 27) t a))), L)) rfl rfl ?_
          exact q0 (kWd_fk (w := kW3) (k := 2) (J := mUp I 28 2 (nI (kS (I 27) t a))) ht rfl hs h120 (by decide) (of_decide_eq_true c0) (by decide) (of_decide_eq_false c3))
      · refine mB 1 (s2 := (d + 4, 30, 56, [some (.ref 28), some (.ref 1006), some (.int (nI (kLe (I 27) t 200 (kS (I 27) t a)))), some (.int 1)], [.int 0], 0, 0, (mSH, (mUp I 28 2 (nI (kS (I 27) t a))), L))) rfl ?_
        refine mRt (r := (some (.int 0))) (h := (mSH, (mUp I 28 2 (nI (kS (I 27) t a))), L)) rfl rfl ?_
        exact q0 (kWd_fk (w := kW3) (k := 1) (J := mUp I 28 2 (nI (kS (I 27) t a))) ht rfl hs h120 (by decide) (of_decide_eq_true c0) (by decide) (of_decide_eq_false c2))
    · refine mB 1 (s2 := (d + 4, 30, 56, [some (.ref 28), some (.ref 1006), some (.int (nI (kLe (I 27) t 200 (kS (I 27) t a)))), some (.int 0)], [.int 0], 0, 0, (mSH, (mUp I 28 2 (nI (kS (I 27) t a))), L))) rfl ?_
      refine mRt (r := (some (.int 0))) (h := (mSH, (mUp I 28 2 (nI (kS (I 27) t a))), L)) rfl rfl ?_
      exact q0 (kWd_fk (w := kW3) (k := 0) (J := mUp I 28 2 (nI (kS (I 27) t a))) ht rfl hs h120 (by decide) (of_decide_eq_true c0) (by decide) (of_decide_eq_false c1))
  · refine mB 1 (s2 := (d + 4, 30, 23, [some (.ref 28), some (.ref 1006), some (.int (nI (kLe (I 27) t 200 (kS (I 27) t a)))), none], [.int 0], 0, 0, (mSH, (mUp I 28 2 (nI (kS (I 27) t a))), L))) rfl ?_
    refine mRt (r := (some (.int 0))) (h := (mSH, (mUp I 28 2 (nI (kS (I 27) t a))), L)) rfl rfl ?_
    exact q0 (kWd_f0 (w := kW3) hs (of_decide_eq_false c0))
/-- only the reader's place and the pointing that it read have changed -/
def xFp (I I1 : Nat → Nat → Int32) : Prop := ∀ c, c ≠ 28 → c ≠ 29 → I1 c = I c
theorem xFp.rf {I : Nat → Nat → Int32} : xFp I I := fun _ _ _ => rfl
theorem xFp.u8 {I J : Nat → Nat → Int32} {j : Nat} {v : Int32} (h : xFp I J) : xFp I (mUp J 28 j v) := fun c a b => by rw [mUp_row a]; exact h c a b
theorem xFp.u9 {I J : Nat → Nat → Int32} {j : Nat} {v : Int32} (h : xFp I J) : xFp I (mUp J 29 j v) := fun c a b => by rw [mUp_row b]; exact h c a b
theorem x_point {ro : Nat → Nat × (Nat → Int32)} {Q : mPo} {d : Nat} {I : Nat → Nat → Int32} {L : Nat → Nat → Int64} {t a : Nat} {b : Nat → Int32} (h120 : t ≤ 120) (hb : I 27 = b) (ht : I 26 1 = nI t) (hp : I 28 2 = nI a) (ha : a ≤ 200) (hB : mRB ro) (q0 : kPt (kWdC b t) b t a = none → ∀ I1, xFp I I1 → Q (some (.int 0)) (mSH, I1, L)) (q1 : ∀ so e, kPt (kWdC b t) b t a = some (so, e) → e ≤ t → ∀ I1, xFp I I1 → I1 28 2 = nI e → I1 29 2 = so → Q (some (.int 1)) (mSH, I1, L))   : mWP mTb_ mFT ro (d + 5, 29, 0, [some (.ref 28)], [], 0, 0, (mSH, I, L)) Q := by
  refine mB 2 (s2 := (d + 5, 29, 3, [some (.ref 28)], [.ref 1005, .ref 28], 0, 0, (mSH, I, L))) rfl ?_
  refine mCall (s2 := (d + 4, 30, 0, [some (.ref 28), some (.ref 1005), none, none], [], 0, 0, (mSH, I, L))) rfl ?_
  refine x_word_2 (b := b) (a := a) h120 hb ht hp ha hB ?_ ?_
  · intro we1
    show mWP mTb_ mFT ro (d + 5, 29, 6, [some (.ref 28)], [.int 0], 0, 0, (mSH, (mUp I 28 2 (nI (kS b t a))), L)) _
    refine mBT (s2 := (d + 5, 29, 19, [some (.ref 28)], [], 0, 0, (mSH, (mUp I 28 2 (nI (kS b t a))), L))) rfl (by decide) ?_
    refine mB 6 (s2 := (d + 5, 29, 30, [some (.ref 28)], [.ref 1006, .ref 28], 0, 0, (mSH, (mUp (mUp I 28 2 (nI (kS b t a))) 29 2 1), L))) rfl ?_
    refine mCall (s2 := (d + 4, 30, 0, [some (.ref 28), some (.ref 1006), none, none], [], 0, 0, (mSH, (mUp (mUp I 28 2 (nI (kS b t a))) 29 2 1), L))) rfl ?_
    refine x_word_3 (b := b) (a := kS b t a) h120 hb ht rfl (by have := kSk_le (b := b) (t := t) 200 a; rw [kS_e b t a]; omega) hB ?_ ?_
    · intro we2
      show mWP mTb_ mFT ro (d + 5, 29, 33, [some (.ref 28)], [.int 0], 0, 0, (mSH, (mUp (mUp (mUp I 28 2 (nI (kS b t a))) 29 2 1) 28 2 (nI (kS b t (kS b t a)))), L)) _
      refine mRt (r := (some (.int 0))) (h := (mSH, (mUp (mUp (mUp I 28 2 (nI (kS b t a))) 29 2 1) 28 2 (nI (kS b t (kS b t a)))), L)) rfl rfl ?_
      exact q0 (by simp only [kPt, we1, we2]) _ (xFp.u8 (xFp.u9 (xFp.u8 xFp.rf)))
    · intro e2 we2 le2
      show mWP mTb_ mFT ro (d + 5, 29, 33, [some (.ref 28)], [.int 1], 0, 0, (mSH, (mUp (mUp (mUp I 28 2 (nI (kS b t a))) 29 2 1) 28 2 (nI e2)), L)) _
      refine mRt (r := (some (.int 1))) (h := (mSH, (mUp (mUp (mUp I 28 2 (nI (kS b t a))) 29 2 1) 28 2 (nI e2)), L)) rfl rfl ?_
      exact q1 1 e2 (by simp only [kPt, we1, we2]) (by omega) _ (xFp.u8 (xFp.u9 (xFp.u8 xFp.rf))) rfl rfl
  · intro e1 we1 le1
    show mWP mTb_ mFT ro (d + 5, 29, 6, [some (.ref 28)], [.int 1], 0, 0, (mSH, (mUp I 28 2 (nI e1)), L)) _
    refine mBF (s3 := (d + 5, 29, 9, [some (.ref 28)], [], 0, 0, (mSH, (mUp I 28 2 (nI e1)), L))) rfl (by decide) ?_
    refine mB 5 (s2 := (d + 5, 29, 18, [some (.ref 28)], [.int 1], 0, 0, (mSH, (mUp (mUp I 28 2 (nI e1)) 29 2 0), L))) rfl ?_
    refine mRt (r := (some (.int 1))) (h := (mSH, (mUp (mUp I 28 2 (nI e1)) 29 2 0), L)) rfl rfl ?_
    exact q1 0 e1 (by simp only [kPt, we1]) (by omega) _ (xFp.u9 (xFp.u8 xFp.rf)) rfl rfl
