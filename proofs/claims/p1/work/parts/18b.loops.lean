/-! draw: how many layers come, on both sides. -/
def mNx (x : Int64) : Int64 := ((x * 1103515245) + 12345) - ((x * 1103515245) + 12345) / 2147483648 * 2147483648
def mQ4 (x : Int64) : Int32 := lg_cmp ((mNx x / 65536) - (mNx x / 65536) / 4 * 4) 0
def mIt : Nat → Int64 → Int64
  | 0, x => x
  | m + 1, x => mIt m (mNx x)
def mDL (n : Int32) : Nat → Int64 → Int32 → Int32 → Int32
  | 0, _, _, j => j
  | f + 1, x, i, j => if 8 ≤ j then j else if n ≤ i then j else if mQ4 x = 0 then (if n - i < 3 then mDL n f (mNx x) (i + 1) (j + 1) else mDL n f (mNx x) (i + 3) (j + 1)) else mDL n f (mNx x) (i + 1) (j + 1)
theorem mDL_s (n : Int32) (f : Nat) (x : Int64) (i j : Int32) : mDL n (f + 1) x i j = if 8 ≤ j then j else if n ≤ i then j else if mQ4 x = 0 then (if n - i < 3 then mDL n f (mNx x) (i + 1) (j + 1) else mDL n f (mNx x) (i + 3) (j + 1)) else mDL n f (mNx x) (i + 1) (j + 1) := rfl
section DR
variable {ro : Nat → Nat × (Nat → Int32)} {Q : mPo} {d : Nat} {L : Nat → Nat → Int64}
theorem w_drawSpans {N : Nat} (hN : N ≤ 16) {sd : Int32} : ∀ (m k : Nat) (x : Int64) (I : Nat → Nat → Int32), k + m = N → I 2 1 = nI k → (∀ I', I' 2 1 = nI N → (∀ r, r ≠ 2 → r ≠ 3 → I' r = I r) → Q (some (.long (mIt m x))) (mSH, I', L)) → mWP mTb_ mFT ro (d + 2, 72, 14, [some (.ref 1), some (.int sd), some (.int (nI N)), some (.long x), none, some (.int (nI k))], [], 0, 0, (mSH, I, L)) Q
  | 0, k, x, I, e, hI, hq => by
    have e : k = N := by omega
    subst e
    refine s_drawSpans (fun _ => hq I hI (fun _ _ _ => rfl)) (fun c => absurd (nI_le (Nat.le_refl k) (by omega)) c) (fun c => absurd (nI_le (Nat.le_refl k) (by omega)) c) (fun c => absurd (nI_le (Nat.le_refl k) (by omega)) c)
  | m + 1, k, x, I, e, hI, hq => by
    have hlt : nI k < 16 := nI_lt (a := k) (b := 16) (by omega) (by omega)
    refine s_drawSpans (fun c => absurd c (nI_ge (by omega) (by omega))) (fun _ _ => by rw [hI]; exact vp_in_nI (by omega) (by omega)) (fun _ _ => ?_) (fun _ c => absurd (by rw [hI]; exact hlt) c)
    rw [nI_1]
    refine w_drawSpans hN m (k + 1) (mNx x) _ (by omega) (by show I 2 1 + 1 = _; rw [hI, nI_1]) (fun I' h1 h2 => hq I' h1 (fun r n2 n3 => ?_))
    rw [h2 r n2 n3, mUp_row n2, mUp_row n3]
theorem w_drawLayers {N : Nat} (hN : N ≤ 16) {dr : Int64} : ∀ (f : Nat) (x : Int64) (i : Int32) (J : Nat) (I : Nat → Nat → Int32) (o7 o8 : Option Value), 8 - J < f → J ≤ 8 → I 2 1 = nI N → I 4 1 = nI J → (∀ I', I' 4 1 = mDL (nI N) f x i (nI J) → (∀ r, r ≠ 4 → r ≠ 5 → I' r = I r) → Q none (mSH, I', L)) → mWP mTb_ mFT ro (d + 2, 73, 16, [some (.ref 1), some (.long dr), none, some (.long x), none, some (.int i), some (.int (nI J)), o7, o8], [], 0, 0, (mSH, I, L)) Q
  | 0, x, i, J, I, o7, o8, hf, _, _, _, _ => by omega
  | f + 1, x, i, J, I, o7, o8, hf, hJ, h2, h4, hq => by
    have hle : (I 2 1).toInt ≤ (16 : Nat) := by
      rw [h2, nI_toInt (by omega)]
      omega
    have hj8 : ¬ ((8 : Int32) ≤ nI J) → J < 8 := fun c => by
      rcases Nat.lt_or_ge J 8 with g | g
      · exact g
      · exact absurd (nI_le (a := 8) (b := J) g (by omega)) c
    have hf8 : ¬ ((8 : Int32) ≤ nI J) → I 4 1 < 8 := fun c => by
      rw [h4]
      exact nI_lt (a := J) (b := 8) (hj8 c) (by omega)
    have hvp : ¬ ((8 : Int32) ≤ nI J) → vp_in (I 4 1) 8 := fun c => by
      rw [h4]
      exact vp_in_nI (hj8 c) (by omega)
    have go : ∀ (i' v : Int32) (a b : Option Value), ¬ ((8 : Int32) ≤ nI J) → mDL (nI N) (f + 1) x i (nI J) = mDL (nI N) f (mNx x) i' (nI J + 1) → mWP mTb_ mFT ro (d + 2, 73, 16, [some (.ref 1), some (.long dr), none, some (.long (mNx x)), none, some (.int i'), some (.int (nI J + 1)), a, b], [], 0, 0, (mSH, mUp (mUp I 5 (I 4 1).toNatClampNeg v) 4 1 (I 4 1 + 1), L)) Q := by
      intro i' v a b c e
      have := hj8 c
      rw [nI_1] at e ⊢
      refine w_drawLayers hN f (mNx x) i' (J + 1) _ a b (by omega) (by omega) h2 (by show I 4 1 + 1 = _; rw [h4, nI_1]) (fun I' g1 g2 => hq I' (by rw [g1, e]) (fun r n4 n5 => ?_))
      rw [g2 r n4 n5, mUp_row n4, mUp_row n5]
    apply s_drawLayers
    case h1 => exact fun c => hq I (by rw [h4, mDL_s, if_pos c]) (fun _ _ _ => rfl)
    case h2 => exact fun c e => hq I (by rw [h4, mDL_s, if_neg c, if_pos (by rw [← h2]; exact e)]) (fun _ _ _ => rfl)
    case h3 => exact fun _ _ _ _ => hle
    case h4 => exact fun c _ _ _ _ => hvp c
    case h5 => exact fun c e g z _ => go (i + 1) _ _ _ c (by rw [mDL_s, if_neg c, if_neg (by rw [← h2]; exact e), if_pos (show mQ4 x = 0 from g), if_pos (by rw [← h2]; exact z)])
    case h6 => exact fun c _ _ _ z => absurd (hf8 c) z
    case h7 => exact fun _ _ _ _ => hle
    case h8 => exact fun _ _ _ _ => hle
    case h9 => exact fun _ _ _ _ => hle
    case h10 => exact fun c _ _ _ _ => hvp c
    case h11 => exact fun c e g z _ => go (i + 3) _ _ _ c (by rw [mDL_s, if_neg c, if_neg (by rw [← h2]; exact e), if_pos (show mQ4 x = 0 from g), if_neg (by rw [← h2]; exact z)])
    case h12 => exact fun c _ _ _ z => absurd (hf8 c) z
    case h13 => exact fun _ _ _ => hle
    case h14 => exact fun c _ _ _ => hvp c
    case h15 => exact fun c e g _ => go (i + 1) _ _ _ c (by rw [mDL_s, if_neg c, if_neg (by rw [← h2]; exact e), if_neg (show ¬ mQ4 x = 0 from g)])
    case h16 => exact fun c _ _ z => absurd (hf8 c) z
theorem w_mdraw2 {N : Nat} (hN : N ≤ 16) {sd : Int32} : ∀ (f : Nat) (x : Int64) (P J : Nat) (I : Nat → Nat → Int32) (o6 o7 : Option Value), 8 - J < f → J ≤ 8 → P ≤ N → I 34 3 = nI J → (∀ I', Q (some (.int (mDL (nI N) f x (nI P) (nI J)))) (mSH, I', L)) → mWP mTb_ mFT ro (d, 121, 96, [some (.ref 34), some (.int sd), some (.int (nI N)), some (.long x), none, some (.int (nI P)), o6, o7], [], 0, 0, (mSH, I, L)) Q
  | 0, x, P, J, I, o6, o7, hf, _, _, _, _ => by omega
  | f + 1, x, P, J, I, o6, o7, hf, hJ, hP, h3, hq => by
    have hj8 : ¬ ((8 : Int32) ≤ I 34 3) → J < 8 := fun c => by
      rcases Nat.lt_or_ge J 8 with g | g
      · exact g
      · exact absurd (by rw [h3]; exact nI_le (a := 8) (b := J) g (by omega)) c
    have hpn : ¬ (nI N ≤ nI P) → P < N := fun c => by
      rcases Nat.lt_or_ge P N with g | g
      · exact g
      · exact absurd (nI_le g (by omega)) c
    have hp3 : ¬ (nI N - nI P < 3) → P + 3 ≤ N := fun c => by
      rw [pk_sub hP] at c
      rcases Nat.lt_or_ge (N - P) 3 with g | g
      · exact absurd (nI_lt (a := N - P) (b := 3) g (by omega)) c
      · omega
    have hvp : ¬ ((8 : Int32) ≤ I 34 3) → vp_in (I 34 3) 8 := fun c => by
      have := hj8 c
      rw [h3]
      exact vp_in_nI this (by omega)
    have v0 : ¬ (nI N ≤ nI P) → vp_in (nI P) 16 := fun c => by
      have := hpn c
      exact vp_in_nI (by omega) (by omega)
    have e8 : ¬ ((8 : Int32) ≤ I 34 3) → ¬ ((8 : Int32) ≤ nI J) := fun c => by rw [← h3]; exact c
    have go : ∀ (k : Nat) (a b : Option Value) (I2 : Nat → Nat → Int32), ¬ ((8 : Int32) ≤ I 34 3) → P + k ≤ N → I2 34 3 = I 34 3 + 1 → mDL (nI N) (f + 1) x (nI P) (nI J) = mDL (nI N) f (mNx x) (nI (P + k)) (nI J + 1) → mWP mTb_ mFT ro (d, 121, 96, [some (.ref 34), some (.int sd), some (.int (nI N)), some (.long (mNx x)), none, some (.int (nI (P + k))), a, b], [], 0, 0, (mSH, I2, L)) Q := by
      intro k a b I2 c hk e3 e
      have := hj8 c
      rw [nI_1] at e
      exact w_mdraw2 hN f (mNx x) (P + k) (J + 1) I2 a b (by omega) (by omega) hk (by rw [e3, h3, nI_1]) (fun I' => by rw [← e]; exact hq I')
    have n3 : nI P + 3 = nI (P + 3) := nI_add P 3
    apply s_mdraw2
    case h1 => exact fun c => by
      have z := hq I
      rw [mDL_s, if_pos (by rw [← h3]; exact c), ← h3] at z
      exact z
    case h2 => exact fun c e => by
      have z := hq I
      rw [mDL_s, if_neg (e8 c), if_pos e, ← h3] at z
      exact z
    case h3 => exact fun c _ _ _ => hvp c
    case h4 => exact fun c _ _ _ => hvp c
    case h5 => exact fun _ e _ _ => v0 e
    case h6 => exact fun c _ _ _ => hvp c
    case h7 => exact fun c e g z => by
      rw [nI_1]
      exact go 1 _ _ _ c (hpn e) rfl (by rw [mDL_s, if_neg (e8 c), if_neg e, if_pos (show mQ4 x = 0 from g), if_pos z, nI_1])
    case h8 => exact fun c _ _ _ => hvp c
    case h9 => exact fun c _ _ _ => hvp c
    case h10 => exact fun _ e _ _ => v0 e
    case h11 => exact fun c _ _ _ => hvp c
    case h12 => exact fun c _ _ _ => hvp c
    case h13 => exact fun _ _ _ z => by
      have := hp3 z
      rw [nI_1]
      exact vp_in_nI (by omega) (by omega)
    case h14 => exact fun c _ _ _ => hvp c
    case h15 => exact fun c _ _ _ => hvp c
    case h16 => exact fun _ _ _ z => by
      have := hp3 z
      rw [nI_1, nI_1]
      exact vp_in_nI (by omega) (by omega)
    case h17 => exact fun c _ _ _ => hvp c
    case h18 => exact fun c e g z => by
      rw [nI_1, nI_1, nI_1]
      exact go 3 _ _ _ c (hp3 z) rfl (by rw [mDL_s, if_neg (e8 c), if_neg e, if_pos (show mQ4 x = 0 from g), if_neg z, n3])
    case h19 => exact fun c _ _ => hvp c
    case h20 => exact fun c _ _ => hvp c
    case h21 => exact fun _ e _ => v0 e
    case h22 => exact fun c _ _ => hvp c
    case h23 => exact fun c e g => by
      rw [nI_1]
      exact go 1 _ _ _ c (hpn e) rfl (by rw [mDL_s, if_neg (e8 c), if_neg e, if_neg (show ¬ mQ4 x = 0 from g), nI_1])
theorem w_mdraw1 {N : Nat} (hN : N ≤ 16) {sd : Int32} {o6 o7 : Option Value} : ∀ (m k : Nat) (x : Int64) (I : Nat → Nat → Int32), k + m = N → (∀ I', Q (some (.int (mDL (nI N) 9 (mIt m x) 0 0))) (mSH, I', L)) → mWP mTb_ mFT ro (d, 121, 33, [some (.ref 34), some (.int sd), some (.int (nI N)), some (.long x), none, some (.int (nI k)), o6, o7], [], 0, 0, (mSH, I, L)) Q
  | 0, k, x, I, e, hq => by
    have e : k = N := by omega
    subst e
    refine s_mdraw1 (fun _ => ?_) (fun c => absurd (nI_le (Nat.le_refl k) (by omega)) c) (fun c => absurd (nI_le (Nat.le_refl k) (by omega)) c)
    exact w_mdraw2 hN 9 x 0 0 _ _ _ (by omega) (by omega) (by omega) rfl hq
  | m + 1, k, x, I, e, hq => by
    refine s_mdraw1 (fun c => absurd c (nI_ge (by omega) (by omega))) (fun _ => vp_in_nI (by omega) (by omega)) (fun _ => ?_)
    rw [nI_1]
    exact w_mdraw1 hN m (k + 1) (mNx x) _ (by omega) hq
end DR
