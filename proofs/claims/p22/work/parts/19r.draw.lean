/-! draw of the class, exactly. Written by a program (wip/mk_c.py). -/
def kDy (x : Int64) : Int32 := ((mNxt x / 65536) - (mNxt x / 65536) / 20 * 20).toInt32 + 1
def kDr (x : Int64) : Int32 := ((mNxt x / 1024) - (mNxt x / 1024) / 3 * 3).toInt32
def kDA (y : Nat → Int32) (N : Nat) : Nat → Int64 → Nat → Nat → (Nat → Int32) → (Nat → Int32)
  | 0, _, _, _, g => g
  | f + 1, x, P, J, g => if 8 ≤ J then g else if N ≤ P then g else if mQ4 x = 0 ∧ 3 ≤ N - P then kDA y N f (mNxt x) (P + 3) (J + 1) (kPut g J (kDr x + y P + y (P + 1) + y (P + 2))) else kDA y N f (mNxt x) (P + 1) (J + 1) (kPut g J (kDr x + y P))
theorem kDA_s (y : Nat → Int32) (N f : Nat) (x : Int64) (P J : Nat) (g : Nat → Int32) : kDA y N (f + 1) x P J g = if 8 ≤ J then g else if N ≤ P then g else if mQ4 x = 0 ∧ 3 ≤ N - P then kDA y N f (mNxt x) (P + 3) (J + 1) (kPut g J (kDr x + y P + y (P + 1) + y (P + 2))) else kDA y N f (mNxt x) (P + 1) (J + 1) (kPut g J (kDr x + y P)) := rfl
theorem kDy_e (x : Int64) : kDy x = ((mNxt x / 65536) - (mNxt x / 65536) / 20 * 20).toInt32 + 1 := rfl
theorem kDr_e (x : Int64) : kDr x = ((mNxt x / 1024) - (mNxt x / 1024) / 3 * 3).toInt32 := rfl
/-- what is drawn of years -/
def kYs (N : Nat) (x : Int64) (g : Nat → Int32) : Nat → Int32 := fun j => if j < N then kDy (mIt j x) else g j
section DX
variable {ro : Nat → Nat × (Nat → Int32)} {Q : mPo} {d : Nat} {L : Nat → Nat → Int64}
theorem e_spans {N : Nat} (hN : N ≤ 16) {sd : Int32} (m : Nat) : ∀ (k : Nat) (x : Int64) (I : Nat → Nat → Int32), k + m = N → I 2 1 = nI k → (∀ I', I' 2 1 = nI N → (∀ r, r ≠ 2 → r ≠ 3 → I' r = I r) → (∀ j, I' 3 j = if k ≤ j ∧ j < N then kDy (mIt (j - k) x) else I 3 j) → Q (some (.long (mIt m x))) (mSH, I', L)) → mWP mTb_ mFT ro (d + 2, 72, 14, [some (.ref 1), some (.int sd), some (.int (nI N)), some (.long x), none, some (.int (nI k))], [], 0, 0, (mSH, I, L)) Q := by
  induction m with
  | zero =>
    intro k x I e hI hq
    simp only [mIt_z] at hq
    have e : k = N := by omega
    subst e
    refine s_drawSpans (fun _ => hq I hI (fun _ _ _ => rfl) (fun j => by rw [if_neg (by omega)])) (fun c => absurd (nI_le (Nat.le_refl k) (by omega)) c) (fun c => absurd (nI_le (Nat.le_refl k) (by omega)) c) (fun c => absurd (nI_le (Nat.le_refl k) (by omega)) c)
  | succ m ih =>
    intro k x I e hI hq
    simp only [mIt_s] at hq
    have hlt : nI k < nI 16 := nI_lt (a := k) (b := 16) (by omega) (by omega)
    have hlt : nI k < 16 := hlt
    refine s_drawSpans (fun c => absurd c (nI_ge (by omega) (by omega))) (fun _ _ => by rw [hI]; exact vp_in_nI (by omega) (by omega)) (fun _ _ => ?_) (fun _ c => absurd (by rw [hI]; exact hlt) c)
    rw [nI_1, ← mNxt_e, ← kDy_e, hI, nI_clamp (n := k) (by omega), nI_1]
    refine ih (k + 1) (mNxt x) _ (by omega) rfl (fun I' h1 h2 h3 => ?_)
    refine hq I' h1 (fun r n2 n3 => ?_) (fun j => ?_)
    · rw [h2 r n2 n3, mUp_row n2, mUp_row n3]
    · rw [h3 j]
      by_cases c : k + 1 ≤ j ∧ j < N
      · rw [if_pos c, if_pos ⟨by omega, c.2⟩, show j - k = (j - (k + 1)) + 1 by omega, mIt_s]
      · rw [if_neg c, mUp_row (by omega)]
        by_cases g : j = k
        · rw [g, mUp_same, if_pos ⟨Nat.le_refl k, by omega⟩, Nat.sub_self, mIt_z]
        · rw [mUp_oth g, if_neg (by omega)]
theorem e_ac1 (a r : Int32) : 0 + a + r = r + a := by rw [Int32.zero_add, Int32.add_comm]
theorem e_ac3 (a b c r : Int32) : 0 + a + b + c + r = r + a + b + c := by rw [Int32.zero_add, Int32.add_comm (a + b + c) r, ← Int32.add_assoc, ← Int32.add_assoc]
theorem e_layers {N : Nat} (hN : N ≤ 16) {dr : Int64} (f : Nat) : ∀ (x : Int64) (P J : Nat) (I : Nat → Nat → Int32) (o7 o8 : Option Value), 8 - J < f → J ≤ 8 → P ≤ N → I 2 1 = nI N → I 4 1 = nI J → (∀ I', I' 4 1 = mDL (nI N) f x (nI P) (nI J) → (∀ r, r ≠ 4 → r ≠ 5 → I' r = I r) → (∀ j, I' 5 j = kDA (I 3) N f x P J (I 5) j) → Q none (mSH, I', L)) → mWP mTb_ mFT ro (d + 2, 73, 16, [some (.ref 1), some (.long dr), none, some (.long x), none, some (.int (nI P)), some (.int (nI J)), o7, o8], [], 0, 0, (mSH, I, L)) Q := by
  induction f with
  | zero =>
    intro x P J I o7 o8 hf
    omega
  | succ f ih =>
    intro x P J I o7 o8 hf hJ hP h2 h4 hq
    have n2 : mCn I 2 16 := mCn.of h2 hN (by omega)
    have j8 : (8 : Int32) ≤ nI J ↔ 8 ≤ J := nI_leI (a := 8) (b := J) (by omega) (by omega)
    have pn : I 2 1 ≤ nI P ↔ N ≤ P := by
      rw [h2]
      exact nI_leI (by omega) (by omega)
    have p3 : I 2 1 - nI P < 3 ↔ ¬ 3 ≤ N - P := by
      rw [h2, pk_sub hP]
      have z := nI_ltI (a := N - P) (b := 3) (by omega) (by omega)
      have z : nI (N - P) < 3 ↔ N - P < 3 := z
      rw [z]
      omega
    have f8 : ¬ (8 : Int32) ≤ nI J → I 4 1 < 8 := fun c => by
      rw [h4]
      exact nI_lt (a := J) (b := 8) (by have := mt j8.mpr c; omega) (by omega)
    have vp : ¬ (8 : Int32) ≤ nI J → vp_in (I 4 1) 8 := fun c => by
      rw [h4]
      exact vp_in_nI (by have := mt j8.mpr c; omega) (by omega)
    have ci : (I 4 1).toNatClampNeg = J := by rw [h4, nI_clamp (by omega)]
    have at0 : P < N → mAt I 2 3 (nI P + 0) = I 3 P := fun g => by
      rw [Int32.add_zero]
      exact mAt_lt h2 g (by omega)
    have at1 : P + 1 < N → mAt I 2 3 (nI P + 1) = I 3 (P + 1) := fun g => by
      rw [nI_1]
      exact mAt_lt h2 g (by omega)
    have at2 : P + 2 < N → mAt I 2 3 (nI P + 2) = I 3 (P + 2) := fun g => by
      rw [show nI P + 2 = nI (P + 2) from nI_add P 2]
      exact mAt_lt h2 g (by omega)
    have go : ∀ (P' : Nat) (v : Int32) (a b : Option Value), ¬ ((8 : Int32) ≤ nI J) → P' ≤ N → mDL (nI N) (f + 1) x (nI P) (nI J) = mDL (nI N) f (mNxt x) (nI P') (nI J + 1) → kDA (I 3) N (f + 1) x P J (I 5) = kDA (I 3) N f (mNxt x) P' (J + 1) (kPut (I 5) J v) → mWP mTb_ mFT ro (d + 2, 73, 16, [some (.ref 1), some (.long dr), none, some (.long (mNxt x)), none, some (.int (nI P')), some (.int (nI J + 1)), a, b], [], 0, 0, (mSH, mUp (mUp I 5 (I 4 1).toNatClampNeg v) 4 1 (I 4 1 + 1), L)) Q := by
      intro P' v a b c hP' e ea
      have := mt j8.mpr c
      rw [nI_1] at e ⊢
      rw [ci, h4, nI_1]
      refine ih (mNxt x) P' (J + 1) _ a b (by omega) (by omega) hP' h2 rfl (fun I' g1 g2 g3 => ?_)
      refine hq I' (by rw [g1, e]) (fun r n4 n5 => ?_) (fun j => ?_)
      · rw [g2 r n4 n5, mUp_row n4, mUp_row n5]
      · rw [g3 j, ea, mUp_row (show (3 : Nat) ≠ 4 by omega), mUp_row (show (3 : Nat) ≠ 5 by omega), mUp_row (show (5 : Nat) ≠ 4 by omega), kPut_e]
    have d1 : 8 ≤ nI J → mDL (nI N) (f + 1) x (nI P) (nI J) = nI J := fun c => by rw [mDL_s, if_pos c]
    have d2 : ¬ (8 ≤ nI J) → nI N ≤ nI P → mDL (nI N) (f + 1) x (nI P) (nI J) = nI J := fun c e => by rw [mDL_s, if_neg c, if_pos e]
    have d3 : ¬ (8 ≤ nI J) → ¬ (nI N ≤ nI P) → mQ4 x = 0 → nI N - nI P < 3 → mDL (nI N) (f + 1) x (nI P) (nI J) = mDL (nI N) f (mNxt x) (nI (P + 1)) (nI J + 1) := fun c e g z => by rw [mDL_s, if_neg c, if_neg e, if_pos g, if_pos z, nI_1 P]
    have d4 : ¬ (8 ≤ nI J) → ¬ (nI N ≤ nI P) → mQ4 x = 0 → ¬ (nI N - nI P < 3) → mDL (nI N) (f + 1) x (nI P) (nI J) = mDL (nI N) f (mNxt x) (nI (P + 3)) (nI J + 1) := fun c e g z => by rw [mDL_s, if_neg c, if_neg e, if_pos g, if_neg z, show nI P + 3 = nI (P + 3) from nI_add P 3]
    have d5 : ¬ (8 ≤ nI J) → ¬ (nI N ≤ nI P) → ¬ (mQ4 x = 0) → mDL (nI N) (f + 1) x (nI P) (nI J) = mDL (nI N) f (mNxt x) (nI (P + 1)) (nI J + 1) := fun c e g => by rw [mDL_s, if_neg c, if_neg e, if_neg g, nI_1 P]
    rw [← h2] at d2 d3 d4 d5
    apply s_drawLayers n2
    case h1 => exact fun c => hq I (by rw [h4, d1 c]) (fun _ _ _ => rfl) (fun j => by rw [kDA_s, if_pos (j8.mp c)])
    case h2 => exact fun c e => hq I (by rw [h4, ← h2, d2 c e]) (fun _ _ _ => rfl) (fun j => by rw [kDA_s, if_neg (mt j8.mpr c), if_pos (pn.mp e)])
    case h3 => exact fun c _ _ _ _ => vp c
    case h4 =>
      rw [← mNxt_e, ← mQ4_e, ← kDr_e, nI_1 P, e_ac1]
      intro c e g z _
      have lt := mt pn.mpr e
      rw [at0 (by omega)]
      exact go (P + 1) _ _ _ c (by omega) (by rw [← h2]; exact d3 c e g z) (by rw [kDA_s, if_neg (mt j8.mpr c), if_neg lt, if_neg (fun w => p3.mp z w.2)])
    case h5 => exact fun c _ _ _ z => absurd (f8 c) z
    case h6 => exact fun c _ _ _ _ => vp c
    case h7 =>
      rw [← mNxt_e, ← mQ4_e, ← kDr_e, show nI P + 3 = nI (P + 3) from nI_add P 3, e_ac3]
      intro c e g z _
      have lt := mt pn.mpr e
      have t3 : 3 ≤ N - P := Decidable.of_not_not (fun w => z (p3.mpr w))
      rw [at0 (by omega), at1 (by omega), at2 (by omega)]
      exact go (P + 3) _ _ _ c (by omega) (by rw [← h2]; exact d4 c e g z) (by rw [kDA_s, if_neg (mt j8.mpr c), if_neg lt, if_pos ⟨g, t3⟩])
    case h8 => exact fun c _ _ _ z => absurd (f8 c) z
    case h9 => exact fun c _ _ _ => vp c
    case h10 =>
      rw [← mNxt_e, ← mQ4_e, ← kDr_e, nI_1 P, e_ac1]
      intro c e g _
      have lt := mt pn.mpr e
      rw [at0 (by omega)]
      exact go (P + 1) _ _ _ c (by omega) (by rw [← h2]; exact d5 c e g) (by rw [kDA_s, if_neg (mt j8.mpr c), if_neg lt, if_neg (fun w => g w.1)])
    case h11 => exact fun c _ _ z => absurd (f8 c) z
end DX
