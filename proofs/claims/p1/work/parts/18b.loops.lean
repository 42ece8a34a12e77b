/-! draw: how many layers come, on both sides. -/
def mNxt (x : Int64) : Int64 := ((x * 1103515245) + 12345) - ((x * 1103515245) + 12345) / 2147483648 * 2147483648
def mQ4 (x : Int64) : Int32 := lg_cmp ((mNxt x / 65536) - (mNxt x / 65536) / 4 * 4) 0
def mItG (g : Int64 → Int64) : Nat → Int64 → Int64
  | 0, x => x
  | m + 1, x => mItG g m (g x)
theorem mItG_s (g : Int64 → Int64) (m : Nat) (x : Int64) : mItG g (m + 1) x = mItG g m (g x) := rfl
theorem mItG_z (g : Int64 → Int64) (x : Int64) : mItG g 0 x = x := rfl
def mIt (m : Nat) (x : Int64) : Int64 := mItG mNxt m x
def mDL (n : Int32) : Nat → Int64 → Int32 → Int32 → Int32
  | 0, _, _, j => j
  | f + 1, x, i, j => if 8 ≤ j then j else if n ≤ i then j else if mQ4 x = 0 then (if n - i < 3 then mDL n f (mNxt x) (i + 1) (j + 1) else mDL n f (mNxt x) (i + 3) (j + 1)) else mDL n f (mNxt x) (i + 1) (j + 1)
theorem mDL_s (n : Int32) (f : Nat) (x : Int64) (i j : Int32) : mDL n (f + 1) x i j = if 8 ≤ j then j else if n ≤ i then j else if mQ4 x = 0 then (if n - i < 3 then mDL n f (mNxt x) (i + 1) (j + 1) else mDL n f (mNxt x) (i + 3) (j + 1)) else mDL n f (mNxt x) (i + 1) (j + 1) := rfl
theorem mIt_s (m : Nat) (x : Int64) : mIt (m + 1) x = mIt m (mNxt x) := mItG_s mNxt m x
theorem mIt_z (x : Int64) : mIt 0 x = x := mItG_z mNxt x
theorem mNxt_e (x : Int64) : mNxt x = ((x * 1103515245) + 12345) - ((x * 1103515245) + 12345) / 2147483648 * 2147483648 := rfl
theorem mQ4_e (x : Int64) : mQ4 x = lg_cmp ((mNxt x / 65536) - (mNxt x / 65536) / 4 * 4) 0 := rfl
section DR
variable {ro : Nat → Nat × (Nat → Int32)} {Q : mPo} {d : Nat} {L : Nat → Nat → Int64}
theorem w_drawSpans {N : Nat} (hN : N ≤ 16) {sd : Int32} (m : Nat) : ∀ (k : Nat) (x : Int64) (I : Nat → Nat → Int32), k + m = N → I 2 1 = nI k → (∀ I', I' 2 1 = nI N → (∀ r, r ≠ 2 → r ≠ 3 → I' r = I r) → Q (some (.long (mIt m x))) (mSH, I', L)) → mWP mTb_ mFT ro (d + 2, 72, 14, [some (.ref 1), some (.int sd), some (.int (nI N)), some (.long x), none, some (.int (nI k))], [], 0, 0, (mSH, I, L)) Q := by
  induction m with
  | zero =>
    intro k x I e hI hq
    simp only [mIt_z] at hq
    have e : k = N := by omega
    subst e
    refine s_drawSpans (fun _ => hq I hI (fun _ _ _ => rfl)) (fun c => absurd (nI_le (Nat.le_refl k) (by omega)) c) (fun c => absurd (nI_le (Nat.le_refl k) (by omega)) c) (fun c => absurd (nI_le (Nat.le_refl k) (by omega)) c)
  | succ m ih =>
    intro k x I e hI hq
    simp only [mIt_s] at hq
    have hlt : nI k < nI 16 := nI_lt (a := k) (b := 16) (by omega) (by omega)
    have hlt : nI k < 16 := hlt
    refine s_drawSpans (fun c => absurd c (nI_ge (by omega) (by omega))) (fun _ _ => by rw [hI]; exact vp_in_nI (by omega) (by omega)) (fun _ _ => ?_) (fun _ c => absurd (by rw [hI]; exact hlt) c)
    rw [nI_1, ← mNxt_e]
    have hu : ∀ z, (mUp (mUp I 3 (I 2 1).toNatClampNeg z) 2 1 (I 2 1 + 1)) 2 1 = nI (k + 1) := fun z => by
      show I 2 1 + 1 = _
      rw [hI, nI_1]
    refine ih (k + 1) (mNxt x) _ (by omega) (hu _) (fun I' h1 h2 => ?_)
    refine hq I' h1 (fun r n2 n3 => ?_)
    rw [h2 r n2 n3, mUp_row n2, mUp_row n3]
theorem w_drawLayers {N : Nat} (hN : N ≤ 16) {dr : Int64} (f : Nat) : ∀ (x : Int64) (i : Int32) (J : Nat) (I : Nat → Nat → Int32) (o7 o8 : Option Value), 8 - J < f → J ≤ 8 → I 2 1 = nI N → I 4 1 = nI J → (∀ I', I' 4 1 = mDL (nI N) f x i (nI J) → (∀ r, r ≠ 4 → r ≠ 5 → I' r = I r) → Q none (mSH, I', L)) → mWP mTb_ mFT ro (d + 2, 73, 16, [some (.ref 1), some (.long dr), none, some (.long x), none, some (.int i), some (.int (nI J)), o7, o8], [], 0, 0, (mSH, I, L)) Q := by
  induction f with
  | zero =>
    intro x i J I o7 o8 hf
    omega
  | succ f ih =>
    intro x i J I o7 o8 hf hJ h2 h4 hq
    have hle : (I 2 1).toInt ≤ (16 : Nat) := by
      rw [h2, nI_toInt (by omega)]
      omega
    have hj8 : ¬ ((8 : Int32) ≤ nI J) → J < 8 := fun c => by
      rcases Nat.lt_or_ge J 8 with g | g
      · exact g
      · exact absurd (nI_le (a := 8) (b := J) g (by omega)) c
    have hf8 : ¬ ((8 : Int32) ≤ nI J) → I 4 1 < 8 := fun c => by
      rw [h4]
      exact nI_lt (a := J) (b := 8) (hj8 c) (by omega)
    have hvp : ¬ ((8 : Int32) ≤ nI J) → vp_in (I 4 1) 8 := fun c => by
      rw [h4]
      exact vp_in_nI (hj8 c) (by omega)
    have hu : ∀ v, (mUp (mUp I 5 (I 4 1).toNatClampNeg v) 4 1 (I 4 1 + 1)) 4 1 = nI (J + 1) := fun v => by
      show I 4 1 + 1 = _
      rw [h4, nI_1]
    have go : ∀ (i' v : Int32) (a b : Option Value), ¬ ((8 : Int32) ≤ nI J) → mDL (nI N) (f + 1) x i (nI J) = mDL (nI N) f (mNxt x) i' (nI J + 1) → mWP mTb_ mFT ro (d + 2, 73, 16, [some (.ref 1), some (.long dr), none, some (.long (mNxt x)), none, some (.int i'), some (.int (nI J + 1)), a, b], [], 0, 0, (mSH, mUp (mUp I 5 (I 4 1).toNatClampNeg v) 4 1 (I 4 1 + 1), L)) Q := by
      intro i' v a b c e
      have := hj8 c
      rw [nI_1] at e ⊢
      refine ih (mNxt x) i' (J + 1) _ a b (by omega) (by omega) h2 (hu v) (fun I' g1 g2 => ?_)
      refine hq I' (by rw [g1, e]) (fun r n4 n5 => ?_)
      rw [g2 r n4 n5, mUp_row n4, mUp_row n5]
    have d1 : 8 ≤ nI J → mDL (nI N) (f + 1) x i (nI J) = nI J := fun c => by rw [mDL_s, if_pos c]
    have d2 : ¬ (8 ≤ nI J) → nI N ≤ i → mDL (nI N) (f + 1) x i (nI J) = nI J := fun c e => by rw [mDL_s, if_neg c, if_pos e]
    have d3 : ¬ (8 ≤ nI J) → ¬ (nI N ≤ i) → mQ4 x = 0 → nI N - i < 3 → mDL (nI N) (f + 1) x i (nI J) = mDL (nI N) f (mNxt x) (i + 1) (nI J + 1) := fun c e g z => by rw [mDL_s, if_neg c, if_neg e, if_pos g, if_pos z]
    have d4 : ¬ (8 ≤ nI J) → ¬ (nI N ≤ i) → mQ4 x = 0 → ¬ (nI N - i < 3) → mDL (nI N) (f + 1) x i (nI J) = mDL (nI N) f (mNxt x) (i + 3) (nI J + 1) := fun c e g z => by rw [mDL_s, if_neg c, if_neg e, if_pos g, if_neg z]
    have d5 : ¬ (8 ≤ nI J) → ¬ (nI N ≤ i) → ¬ (mQ4 x = 0) → mDL (nI N) (f + 1) x i (nI J) = mDL (nI N) f (mNxt x) (i + 1) (nI J + 1) := fun c e g => by rw [mDL_s, if_neg c, if_neg e, if_neg g]
    rw [← h2] at d2 d3 d4 d5
    apply s_drawLayers
    case h1 => exact fun c => hq I (by rw [h4, d1 c]) (fun _ _ _ => rfl)
    case h2 => exact fun c e => hq I (by rw [h4, ← h2, d2 c e]) (fun _ _ _ => rfl)
    case h3 => exact fun _ _ _ _ => hle
    case h4 => exact fun c _ _ _ _ => hvp c
    case h5 =>
      rw [← mNxt_e, ← mQ4_e]
      exact fun c e g z _ => go (i + 1) _ _ _ c (by rw [← h2]; exact d3 c e g z)
    case h6 => exact fun c _ _ _ z => absurd (hf8 c) z
    case h7 => exact fun _ _ _ _ => hle
    case h8 => exact fun _ _ _ _ => hle
    case h9 => exact fun _ _ _ _ => hle
    case h10 => exact fun c _ _ _ _ => hvp c
    case h11 =>
      rw [← mNxt_e, ← mQ4_e]
      exact fun c e g z _ => go (i + 3) _ _ _ c (by rw [← h2]; exact d4 c e g z)
    case h12 => exact fun c _ _ _ z => absurd (hf8 c) z
    case h13 => exact fun _ _ _ => hle
    case h14 => exact fun c _ _ _ => hvp c
    case h15 =>
      rw [← mNxt_e, ← mQ4_e]
      exact fun c e g _ => go (i + 1) _ _ _ c (by rw [← h2]; exact d5 c e g)
    case h16 => exact fun c _ _ z => absurd (hf8 c) z
theorem w_mdraw2 {N : Nat} (hN : N ≤ 16) {sd : Int32} (f : Nat) : ∀ (x : Int64) (P J : Nat) (I : Nat → Nat → Int32) (o6 o7 : Option Value), 8 - J < f → J ≤ 8 → P ≤ N → I 34 3 = nI J → (∀ I', Q (some (.int (mDL (nI N) f x (nI P) (nI J)))) (mSH, I', L)) → mWP mTb_ mFT ro (d, 121, 96, [some (.ref 34), some (.int sd), some (.int (nI N)), some (.long x), none, some (.int (nI P)), o6, o7], [], 0, 0, (mSH, I, L)) Q := by
  induction f with
  | zero =>
    intro x P J I o6 o7 hf
    omega
  | succ f ih =>
    intro x P J I o6 o7 hf hJ hP h3 hq
    have hj8 : ¬ ((8 : Int32) ≤ I 34 3) → J < 8 := fun c => by
      rcases Nat.lt_or_ge J 8 with g | g
      · exact g
      · exact absurd (by rw [h3]; exact nI_le (a := 8) (b := J) g (by omega)) c
    have hpn : ¬ (nI N ≤ nI P) → P < N := fun c => by
      rcases Nat.lt_or_ge P N with g | g
      · exact g
      · exact absurd (nI_le g (by omega)) c
    have hp3 : ¬ (nI N - nI P < 3) → P + 3 ≤ N := fun c => by
      rw [pk_sub hP] at c
      rcases Nat.lt_or_ge (N - P) 3 with g | g
      · exact absurd (nI_lt (a := N - P) (b := 3) g (by omega)) c
      · omega
    have hvp : ¬ ((8 : Int32) ≤ I 34 3) → vp_in (I 34 3) 8 := fun c => by
      have := hj8 c
      rw [h3]
      exact vp_in_nI this (by omega)
    have v0 : ¬ (nI N ≤ nI P) → vp_in (nI P) 16 := fun c => by
      have := hpn c
      exact vp_in_nI (by omega) (by omega)
    have go : ∀ (k : Nat) (a b : Option Value) (I2 : Nat → Nat → Int32), ¬ ((8 : Int32) ≤ I 34 3) → P + k ≤ N → I2 34 3 = I 34 3 + 1 → mDL (nI N) (f + 1) x (nI P) (nI J) = mDL (nI N) f (mNxt x) (nI (P + k)) (nI J + 1) → mWP mTb_ mFT ro (d, 121, 96, [some (.ref 34), some (.int sd), some (.int (nI N)), some (.long (mNxt x)), none, some (.int (nI (P + k))), a, b], [], 0, 0, (mSH, I2, L)) Q := by
      intro k a b I2 c hk e3 e
      have := hj8 c
      rw [nI_1] at e
      exact ih (mNxt x) (P + k) (J + 1) I2 a b (by omega) (by omega) hk (by rw [e3, h3, nI_1]) (fun I' => by rw [← e]; exact hq I')
    have n3 : nI P + 3 = nI (P + 3) := nI_add P 3
    have n3' : nI P + 1 + 1 + 1 = nI (P + 3) := by rw [nI_1, nI_1, nI_1]
    have d1 : 8 ≤ nI J → mDL (nI N) (f + 1) x (nI P) (nI J) = nI J := fun c => by rw [mDL_s, if_pos c]
    have d2 : ¬ (8 ≤ nI J) → nI N ≤ nI P → mDL (nI N) (f + 1) x (nI P) (nI J) = nI J := fun c e => by rw [mDL_s, if_neg c, if_pos e]
    have d3 : ¬ (8 ≤ nI J) → ¬ (nI N ≤ nI P) → mQ4 x = 0 → nI N - nI P < 3 → mDL (nI N) (f + 1) x (nI P) (nI J) = mDL (nI N) f (mNxt x) (nI (P + 1)) (nI J + 1) := fun c e g z => by rw [mDL_s, if_neg c, if_neg e, if_pos g, if_pos z, nI_1 P]
    have d4 : ¬ (8 ≤ nI J) → ¬ (nI N ≤ nI P) → mQ4 x = 0 → ¬ (nI N - nI P < 3) → mDL (nI N) (f + 1) x (nI P) (nI J) = mDL (nI N) f (mNxt x) (nI (P + 3)) (nI J + 1) := fun c e g z => by rw [mDL_s, if_neg c, if_neg e, if_pos g, if_neg z, n3]
    have d5 : ¬ (8 ≤ nI J) → ¬ (nI N ≤ nI P) → ¬ (mQ4 x = 0) → mDL (nI N) (f + 1) x (nI P) (nI J) = mDL (nI N) f (mNxt x) (nI (P + 1)) (nI J + 1) := fun c e g => by rw [mDL_s, if_neg c, if_neg e, if_neg g, nI_1 P]
    rw [← h3] at d1 d2 d3 d4 d5
    rw [← h3] at hq go
    apply s_mdraw2
    case h1 =>
      intro c
      have z := hq I
      rw [d1 c] at z
      exact z
    case h2 =>
      intro c e
      have z := hq I
      rw [d2 c e] at z
      exact z
    case h3 => exact fun c _ _ _ => hvp c
    case h4 => exact fun c _ _ _ => hvp c
    case h5 => exact fun _ e _ _ => v0 e
    case h6 => exact fun c _ _ _ => hvp c
    case h7 =>
      rw [← mNxt_e, ← mQ4_e, nI_1]
      exact fun c e g z => go 1 _ _ _ c (hpn e) rfl (d3 c e g z)
    case h8 => exact fun c _ _ _ => hvp c
    case h9 => exact fun c _ _ _ => hvp c
    case h10 => exact fun _ e _ _ => v0 e
    case h11 => exact fun c _ _ _ => hvp c
    case h12 => exact fun c _ _ _ => hvp c
    case h13 =>
      intro _ _ _ z
      have := hp3 z
      rw [nI_1]
      exact vp_in_nI (by omega) (by omega)
    case h14 => exact fun c _ _ _ => hvp c
    case h15 => exact fun c _ _ _ => hvp c
    case h16 =>
      intro _ _ _ z
      have := hp3 z
      rw [nI_1, nI_1]
      exact vp_in_nI (by omega) (by omega)
    case h17 => exact fun c _ _ _ => hvp c
    case h18 =>
      rw [← mNxt_e, ← mQ4_e, n3']
      exact fun c e g z => go 3 _ _ _ c (hp3 z) rfl (d4 c e g z)
    case h19 => exact fun c _ _ => hvp c
    case h20 => exact fun c _ _ => hvp c
    case h21 => exact fun _ e _ => v0 e
    case h22 => exact fun c _ _ => hvp c
    case h23 =>
      rw [← mNxt_e, ← mQ4_e, nI_1]
      exact fun c e g => go 1 _ _ _ c (hpn e) rfl (d5 c e g)
theorem w_mdraw1 {N : Nat} (hN : N ≤ 16) {sd : Int32} {o6 o7 : Option Value} (f : Nat) (hf : 8 < f) (m : Nat) : ∀ (k : Nat) (x : Int64) (I : Nat → Nat → Int32), k + m = N → (∀ I', Q (some (.int (mDL (nI N) f (mIt m x) (nI 0) (nI 0)))) (mSH, I', L)) → mWP mTb_ mFT ro (d, 121, 33, [some (.ref 34), some (.int sd), some (.int (nI N)), some (.long x), none, some (.int (nI k)), o6, o7], [], 0, 0, (mSH, I, L)) Q := by
  induction m with
  | zero =>
    intro k x I e hq
    simp only [mIt_z] at hq
    have e : k = N := by omega
    subst e
    refine s_mdraw1 (fun _ => ?_) (fun c => absurd (nI_le (Nat.le_refl k) (by omega)) c) (fun c => absurd (nI_le (Nat.le_refl k) (by omega)) c)
    have z0 : (0 : Int32) = nI 0 := rfl
    rw [z0]
    refine w_mdraw2 hN f x 0 0 _ _ _ (by omega) (by omega) (by omega) ?_ hq
    rfl
  | succ m ih =>
    intro k x I e hq
    simp only [mIt_s] at hq
    refine s_mdraw1 (fun c => absurd c (nI_ge (by omega) (by omega))) (fun _ => vp_in_nI (by omega) (by omega)) (fun _ => ?_)
    rw [nI_1, ← mNxt_e]
    exact ih (k + 1) (mNxt x) _ (by omega) hq
end DR
