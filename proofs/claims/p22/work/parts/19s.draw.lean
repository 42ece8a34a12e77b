/-! draw of the reference, exactly. Written by a program (wip/mk_c.py). -/
section DN
variable {ro : Nat → Nat × (Nat → Int32)} {Q : mPo} {d : Nat} {L : Nat → Nat → Int64}
theorem e_mdraw2 {N : Nat} (hN : N ≤ 16) {sd : Int32} (f : Nat) : ∀ (x : Int64) (P J : Nat) (I : Nat → Nat → Int32) (o6 o7 : Option Value), 8 - J < f → J ≤ 8 → P ≤ N → (∃ a, a < 2 ^ 31 ∧ x = lN a) → (∀ j, j < N → mYR (I 35 j)) → (∀ j, j < J → mLR (I 36 j)) → I 34 3 = nI J → (∀ I', (∀ c, c ≠ 34 → c ≠ 36 → I' c = I c) → (∀ j, j ≠ 3 → I' 34 j = I 34 j) → (∃ J', J' ≤ 8 ∧ I' 34 3 = nI J' ∧ ∀ j, j < J' → mLR (I' 36 j)) → (∀ j, I' 36 j = kDA (I 35) N f x P J (I 36) j) → I' 34 3 = mDL (nI N) f x (nI P) (nI J) → Q (some (.int (mDL (nI N) f x (nI P) (nI J)))) (mSH, I', L)) → mWP mTb_ mFT ro (d, 121, 96, [some (.ref 34), some (.int sd), some (.int (nI N)), some (.long x), none, some (.int (nI P)), o6, o7], [], 0, 0, (mSH, I, L)) Q := by
  induction f with
  | zero =>
    intro x P J I o6 o7 hf
    omega
  | succ f ih =>
    intro x P J I o6 o7 hf hJ hP hX hY hL h3 hq
    obtain ⟨a0, ha0, rfl⟩ := hX
    obtain ⟨b0, hb0, eb0⟩ := mNxt_l ha0
    generalize lN a0 = x at *
    obtain ⟨w, hw, ew⟩ := mLw hb0
    rw [← eb0] at ew
    have hj8 : ¬ ((8 : Int32) ≤ I 34 3) → J < 8 := fun c => by
      rcases Nat.lt_or_ge J 8 with g | g
      · exact g
      · exact absurd (by rw [h3]; exact nI_le (a := 8) (b := J) g (by omega)) c
    have hpn : ¬ (nI N ≤ nI P) → P < N := fun c => by
      rcases Nat.lt_or_ge P N with g | g
      · exact g
      · exact absurd (nI_le g (by omega)) c
    have hp3 : ¬ (nI N - nI P < 3) → P + 3 ≤ N := fun c => by
      rw [pk_sub hP] at c
      rcases Nat.lt_or_ge (N - P) 3 with g | g
      · exact absurd (nI_lt (a := N - P) (b := 3) g (by omega)) c
      · omega
    have hvp : ¬ ((8 : Int32) ≤ I 34 3) → vp_in (I 34 3) 8 := fun c => by
      have := hj8 c
      rw [h3]
      exact vp_in_nI this (by omega)
    have v0 : ¬ (nI N ≤ nI P) → vp_in (nI P) 16 := fun c => by
      have := hpn c
      exact vp_in_nI (by omega) (by omega)
    have go : ∀ (k : Nat) (a b : Option Value) (v : Int32), ¬ ((8 : Int32) ≤ I 34 3) → P + k ≤ N → mLR v → mDL (nI N) (f + 1) x (nI P) (nI J) = mDL (nI N) f (mNxt x) (nI (P + k)) (nI J + 1) → kDA (I 35) N (f + 1) x P J (I 36) = kDA (I 35) N f (mNxt x) (P + k) (J + 1) (kPut (I 36) J v) → mWP mTb_ mFT ro (d, 121, 96, [some (.ref 34), some (.int sd), some (.int (nI N)), some (.long (mNxt x)), none, some (.int (nI (P + k))), a, b], [], 0, 0, (mSH, mUp (mUp I 36 (I 34 3).toNatClampNeg v) 34 3 (I 34 3 + 1), L)) Q := by
      intro k a b v c hk hv e ea
      have := hj8 c
      rw [nI_1] at e
      have ci : (I 34 3).toNatClampNeg = J := by rw [h3, nI_clamp (by omega)]
      rw [ci]
      refine ih (mNxt x) (P + k) (J + 1) _ a b (by omega) (by omega) hk ⟨b0, hb0, eb0⟩ hY ?_ ?_ (fun I' k1 k2 k3 k4 k5 => ?_)
      · intro j hj
        rw [mUp_row (by omega)]
        rcases Nat.lt_or_ge j J with z | z
        · rw [mUp_oth (by omega)]
          exact hL j z
        · have ej : j = J := by omega
          rw [ej, mUp_same]
          exact hv
      · show I 34 3 + 1 = _
        rw [h3, nI_1]
      · rw [← e] at k5 ⊢
        refine hq I' (fun c h34 h36 => ?_) (fun j hj => ?_) k3 (fun j => ?_) k5
        · rw [k1 c h34 h36, mUp_row h34, mUp_row h36]
        · rw [k2 j hj, mUp_oth hj, mUp_row (by omega)]
        · rw [k4 j, ea, mUp_row (show (35 : Nat) ≠ 34 by omega), mUp_row (show (35 : Nat) ≠ 36 by omega), mUp_row (show (36 : Nat) ≠ 34 by omega), kPut_e]
    have y0 : ¬ (nI N ≤ nI P) → mYR (I 35 (nI P).toNatClampNeg) := fun c => by
      have := hpn c
      rw [nI_clamp (by omega)]
      exact hY P (by omega)
    have y1 : ¬ (nI N - nI P < 3) → mYR (I 35 (nI P + 1).toNatClampNeg) := fun c => by
      have := hp3 c
      rw [nI_1, nI_clamp (by omega)]
      exact hY (P + 1) (by omega)
    have y2 : ¬ (nI N - nI P < 3) → mYR (I 35 (nI P + 1 + 1).toNatClampNeg) := fun c => by
      have := hp3 c
      rw [nI_1, nI_1, nI_clamp (by omega)]
      exact hY (P + 1 + 1) (by omega)
    have n3 : nI P + 3 = nI (P + 3) := nI_add P 3
    have n3' : nI P + 1 + 1 + 1 = nI (P + 3) := by rw [nI_1, nI_1, nI_1]
    have d1 : 8 ≤ nI J → mDL (nI N) (f + 1) x (nI P) (nI J) = nI J := fun c => by rw [mDL_s, if_pos c]
    have d2 : ¬ (8 ≤ nI J) → nI N ≤ nI P → mDL (nI N) (f + 1) x (nI P) (nI J) = nI J := fun c e => by rw [mDL_s, if_neg c, if_pos e]
    have d3 : ¬ (8 ≤ nI J) → ¬ (nI N ≤ nI P) → mQ4 x = 0 → nI N - nI P < 3 → mDL (nI N) (f + 1) x (nI P) (nI J) = mDL (nI N) f (mNxt x) (nI (P + 1)) (nI J + 1) := fun c e g z => by rw [mDL_s, if_neg c, if_neg e, if_pos g, if_pos z, nI_1 P]
    have d4 : ¬ (8 ≤ nI J) → ¬ (nI N ≤ nI P) → mQ4 x = 0 → ¬ (nI N - nI P < 3) → mDL (nI N) (f + 1) x (nI P) (nI J) = mDL (nI N) f (mNxt x) (nI (P + 3)) (nI J + 1) := fun c e g z => by rw [mDL_s, if_neg c, if_neg e, if_pos g, if_neg z, n3]
    have d5 : ¬ (8 ≤ nI J) → ¬ (nI N ≤ nI P) → ¬ (mQ4 x = 0) → mDL (nI N) (f + 1) x (nI P) (nI J) = mDL (nI N) f (mNxt x) (nI (P + 1)) (nI J + 1) := fun c e g => by rw [mDL_s, if_neg c, if_neg e, if_neg g, nI_1 P]
    rw [← h3] at d1 d2 d3 d4 d5
    rw [← h3] at hq go
    have h3e : ∃ J', J' ≤ 8 ∧ I 34 3 = nI J' ∧ ∀ j, j < J' → mLR (I 36 j) := ⟨J, hJ, h3, hL⟩
    have j8 : (8 : Int32) ≤ I 34 3 ↔ 8 ≤ J := by
      rw [h3]
      exact nI_leI (a := 8) (b := J) (by omega) (by omega)
    have pn : nI N ≤ nI P ↔ N ≤ P := nI_leI (by omega) (by omega)
    have p3 : nI N - nI P < 3 ↔ ¬ 3 ≤ N - P := by
      rw [pk_sub hP]
      have z : nI (N - P) < 3 ↔ N - P < 3 := nI_ltI (a := N - P) (b := 3) (by omega) (by omega)
      rw [z]
      omega
    have cP : (nI P).toNatClampNeg = P := nI_clamp (by omega)
    have cP1 : (nI P + 1).toNatClampNeg = P + 1 := by rw [nI_1, nI_clamp (by omega)]
    have cP2 : (nI P + 1 + 1).toNatClampNeg = P + 2 := by rw [nI_1, nI_1, nI_clamp (by omega)]
    have a1 : 8 ≤ I 34 3 → kDA (I 35) N (f + 1) x P J (I 36) = I 36 := fun c => by rw [kDA_s, if_pos (j8.mp c)]
    have a2 : ¬ 8 ≤ I 34 3 → nI N ≤ nI P → kDA (I 35) N (f + 1) x P J (I 36) = I 36 := fun c e => by rw [kDA_s, if_neg (mt j8.mpr c), if_pos (pn.mp e)]
    have a3 : ¬ 8 ≤ I 34 3 → ¬ nI N ≤ nI P → ¬ (mQ4 x = 0 ∧ 3 ≤ N - P) → kDA (I 35) N (f + 1) x P J (I 36) = kDA (I 35) N f (mNxt x) (P + 1) (J + 1) (kPut (I 36) J (kDr x + I 35 P)) := fun c e g => by rw [kDA_s, if_neg (mt j8.mpr c), if_neg (mt pn.mpr e), if_neg g]
    have a4 : ¬ 8 ≤ I 34 3 → ¬ nI N ≤ nI P → (mQ4 x = 0 ∧ 3 ≤ N - P) → kDA (I 35) N (f + 1) x P J (I 36) = kDA (I 35) N f (mNxt x) (P + 3) (J + 1) (kPut (I 36) J (kDr x + I 35 P + I 35 (P + 1) + I 35 (P + 2))) := fun c e g => by rw [kDA_s, if_neg (mt j8.mpr c), if_neg (mt pn.mpr e), if_pos g]
    apply s_mdraw2
    case h1 =>
      intro c
      have z := hq I (fun _ _ _ => rfl) (fun _ _ => rfl) h3e (fun j => by rw [a1 c]) (by rw [d1 c])
      rw [d1 c] at z
      exact z
    case h2 =>
      intro c e
      have z := hq I (fun _ _ _ => rfl) (fun _ _ => rfl) h3e (fun j => by rw [a2 c e]) (by rw [d2 c e])
      rw [d2 c e] at z
      exact z
    case h3 => exact fun c _ _ _ => hvp c
    case h4 => exact fun c _ _ _ => hvp c
    case h5 => exact fun _ e _ _ => v0 e
    case h6 => exact fun c _ _ _ => hvp c
    case h7 =>
      rw [← mNxt_e, ← mQ4_e, nI_1]
      intro c e g z
      simp only [mUp_same, mUp_2]
      rw [← kDr_e] at ew ⊢
      have hv : mLR (kDr x + I 35 (nI P).toNatClampNeg) := by
        rw [ew]
        exact mLR1 hw (y0 e)
      rw [cP] at hv ⊢
      exact go 1 _ _ _ c (hpn e) hv (d3 c e g z) (a3 c e (fun w => p3.mp z w.2))
    case h8 => exact fun c _ _ _ => hvp c
    case h9 => exact fun c _ _ _ => hvp c
    case h10 => exact fun _ e _ _ => v0 e
    case h11 => exact fun c _ _ _ => hvp c
    case h12 => exact fun c _ _ _ => hvp c
    case h13 =>
      intro _ _ _ z
      have := hp3 z
      rw [nI_1]
      exact vp_in_nI (by omega) (by omega)
    case h14 => exact fun c _ _ _ => hvp c
    case h15 => exact fun c _ _ _ => hvp c
    case h16 =>
      intro _ _ _ z
      have := hp3 z
      rw [nI_1, nI_1]
      exact vp_in_nI (by omega) (by omega)
    case h17 => exact fun c _ _ _ => hvp c
    case h18 =>
      rw [← mNxt_e, ← mQ4_e, n3']
      intro c e g z
      simp only [mUp_same, mUp_2]
      rw [← kDr_e] at ew ⊢
      have hv : mLR (kDr x + I 35 (nI P).toNatClampNeg + I 35 (nI P + 1).toNatClampNeg + I 35 (nI P + 1 + 1).toNatClampNeg) := by
        rw [ew]
        exact mLR3 hw (y0 e) (y1 z) (y2 z)
      rw [cP, cP1, cP2] at hv ⊢
      exact go 3 _ _ _ c (hp3 z) hv (d4 c e g z) (a4 c e ⟨g, Decidable.of_not_not (fun w => z (p3.mpr w))⟩)
    case h19 => exact fun c _ _ => hvp c
    case h20 => exact fun c _ _ => hvp c
    case h21 => exact fun _ e _ => v0 e
    case h22 => exact fun c _ _ => hvp c
    case h23 =>
      rw [← mNxt_e, ← mQ4_e, nI_1]
      intro c e g
      simp only [mUp_same, mUp_2]
      rw [← kDr_e] at ew ⊢
      have hv : mLR (kDr x + I 35 (nI P).toNatClampNeg) := by
        rw [ew]
        exact mLR1 hw (y0 e)
      rw [cP] at hv ⊢
      exact go 1 _ _ _ c (hpn e) hv (d5 c e g) (a3 c e (fun w => g w.1))
theorem e_mdraw1 {N : Nat} (hN : N ≤ 16) {sd : Int32} {o6 o7 : Option Value} (f : Nat) (hf : 8 < f) (m : Nat) : ∀ (k : Nat) (x : Int64) (I : Nat → Nat → Int32), k + m = N → (∃ a, a < 2 ^ 31 ∧ x = lN a) → (∀ j, j < k → mYR (I 35 j)) → (∀ I', (∀ c, c ≠ 34 → c ≠ 35 → c ≠ 36 → I' c = I c) → (∀ j, j ≠ 1 → j ≠ 3 → j ≠ 4 → I' 34 j = I 34 j) → I' 34 1 = nI N → (∀ j, j < N → mYR (I' 35 j)) → (∃ J', J' ≤ 8 ∧ I' 34 3 = nI J' ∧ ∀ j, j < J' → mLR (I' 36 j)) → I' 34 4 = 0 → I' 34 3 = mDL (nI N) f (mIt m x) (nI 0) (nI 0) → (∀ j, I' 35 j = if k ≤ j ∧ j < N then kDy (mIt (j - k) x) else I 35 j) → (∀ j, I' 36 j = kDA (I' 35) N f (mIt m x) 0 0 (I 36) j) → Q (some (.int (mDL (nI N) f (mIt m x) (nI 0) (nI 0)))) (mSH, I', L)) → mWP mTb_ mFT ro (d, 121, 33, [some (.ref 34), some (.int sd), some (.int (nI N)), some (.long x), none, some (.int (nI k)), o6, o7], [], 0, 0, (mSH, I, L)) Q := by
  induction m with
  | zero =>
    intro k x I e hX hY hq
    simp only [mIt_z] at hq
    have e : k = N := by omega
    subst e
    refine s_mdraw1 (fun _ => ?_) (fun c => absurd (nI_le (Nat.le_refl k) (by omega)) c) (fun c => absurd (nI_le (Nat.le_refl k) (by omega)) c)
    have z0 : some (Value.int 0) = some (Value.int (nI 0)) := rfl
    rw [z0]
    refine e_mdraw2 hN f x 0 0 _ _ _ (by omega) (by omega) (by omega) hX hY (fun j hj => absurd hj (Nat.not_lt_zero j)) rfl (fun I' k1 k2 k3 k4 k5 => ?_)
    have k35 : I' 35 = I 35 := k1 35 (by omega) (by omega)
    refine hq I' (fun c c1 c2 c3 => ?_) (fun j h1 h3 h4 => by rw [k2 j h3, mUp_oth h4, mUp_oth h3, mUp_oth h1]) (k2 1 (by omega)) ?_ k3 (k2 4 (by omega)) k5 (fun j => by rw [k35, if_neg (by omega)]) (fun j => by rw [k35]; exact k4 j)
    · rw [k1 c c1 c3, mUp_row c1, mUp_row c1, mUp_row c1]
    · rw [k1 35 (by omega) (by omega)]
      exact hY
  | succ m ih =>
    intro k x I e hX hY hq
    simp only [mIt_s] at hq
    obtain ⟨a0, ha0, ea0⟩ := hX
    obtain ⟨b0, hb0, eb0⟩ := mNxt_l ha0
    rw [← ea0] at eb0
    refine s_mdraw1 (fun c => absurd c (nI_ge (by omega) (by omega))) (fun _ => vp_in_nI (by omega) (by omega)) (fun _ => ?_)
    rw [nI_1, ← mNxt_e, nI_clamp (n := k) (by omega)]
    refine ih (k + 1) (mNxt x) _ (by omega) ⟨b0, hb0, eb0⟩ ?_ (fun I' k1 k2 k3 k4 k5 k6 k7 k8 k9 => hq I' (fun c c1 c2 c3 => ?_) k2 k3 k4 k5 k6 k7 (fun j => ?_) k9)
    · intro j hj
      rcases Nat.lt_or_ge j k with z | z
      · rw [mUp_oth (by omega)]
        exact hY j z
      · have ej : j = k := by omega
        rw [ej, mUp_same, eb0]
        exact mYv hb0
    · rw [k1 c c1 c2 c3, mUp_row c2]
    · rw [k8 j]
      by_cases c : k + 1 ≤ j ∧ j < N
      · rw [if_pos c, if_pos ⟨by omega, c.2⟩, show j - k = (j - (k + 1)) + 1 by omega, mIt_s]
      · rw [if_neg c]
        by_cases g : j = k
        · rw [g, mUp_same, if_pos ⟨Nat.le_refl k, by omega⟩, Nat.sub_self, mIt_z]
          rfl
        · rw [mUp_oth g, if_neg (by omega)]
end DN
