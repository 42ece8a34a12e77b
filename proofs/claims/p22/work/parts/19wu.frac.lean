/-! Fractions and ages, exactly. Written by a program (wip/mk_c.py). -/
def fr_eu : Nat → Nat → Nat → Nat
  | 0, a, _ => a
  | f + 1, a, b => if b = 0 then a else fr_eu f b (a % b)
theorem fr_g (a b : Nat) : Nat.gcd b (a % b) = Nat.gcd a b := by
  rw [Nat.gcd_comm a b, Nat.gcd_rec b a, Nat.gcd_comm]
theorem fr_gcd : ∀ (k a b : Nat), b < 2 ^ k → ∀ f, 2 * k ≤ f → fr_eu f a b = Nat.gcd a b
  | 0, a, b, hb, f, hf => by
    have e : b = 0 := by omega
    subst e
    rw [Nat.gcd_zero_right]
    cases f with
    | zero => rfl
    | succ f => exact if_pos rfl
  | k + 1, a, b, hb, f, hf => by
    obtain ⟨f, rfl⟩ : ∃ g, f = g + 2 := ⟨f - 2, by omega⟩
    show (if b = 0 then a else fr_eu (f + 1) b (a % b)) = _
    by_cases c : b = 0
    · rw [if_pos c, c, Nat.gcd_zero_right]
    · rw [if_neg c, ← fr_g a b]
      show (if a % b = 0 then b else fr_eu f (a % b) (b % (a % b))) = _
      by_cases d : a % b = 0
      · rw [if_pos d, d, Nat.gcd_zero_right]
      · have lt : a % b < b := Nat.mod_lt _ (by omega)
        have l2 : b % (a % b) < a % b := Nat.mod_lt _ (by omega)
        have l3 : b % (a % b) ≤ b - a % b := by
          rw [Nat.mod_eq_sub_mod (Nat.le_of_lt lt)]
          exact Nat.mod_le _ _
        rw [if_neg d, ← fr_g b (a % b)]
        exact fr_gcd k _ _ (by rw [Nat.pow_succ] at hb; omega) f (by omega)
/-- in lowest terms -/
def fr_a (a b : Nat) : Nat := a / Nat.gcd a b
def fr_b (a b : Nat) : Nat := b / Nat.gcd a b
section FR
variable {ro : Nat → Nat × (Nat → Int32)} {Q : mPo} {d : Nat} {I : Nat → Nat → Int32} {L : Nat → Nat → Int64} {a b : Nat}
theorem l_gcdx {u v : Int32} : ∀ (f k a b : Nat) (o5 : Option Value), k + f = 64 → a < 2 ^ 31 → b < 2 ^ 31 → Q (some (.int (nI (fr_eu f a b)))) (mSH, I, L) → mWP mTb_ mFT ro (d, 6, 7, [some (.int u), some (.int v), some (.int (nI a)), some (.int (nI b)), some (.int (nI k)), o5], [], 0, 0, (mSH, I, L)) Q
  | 0, k, a, b, o5, hk, ha, hb, hq => by
    have e : k = 64 := by omega
    subst e
    have z : (64 : Int32) ≤ nI 64 := by decide
    exact s_gcd (fun _ => hq) (fun c => absurd z c) (fun c => absurd z c)
  | f + 1, k, a, b, o5, hk, ha, hb, hq => by
    have z : ¬ (64 : Int32) ≤ nI k := nI_ge (b := 64) (by omega) (by omega)
    have hq : Q (some (.int (nI (if b = 0 then a else fr_eu f b (a % b))))) (mSH, I, L) := hq
    refine s_gcd (fun c => absurd c z) (fun _ c => ?_) (fun _ c => ?_)
    · have e : b = 0 := (nI_eq (b := 0) hb (by omega)).mp c
      rw [if_pos e] at hq
      exact hq
    · have e : ¬ b = 0 := fun y => c (by rw [y]; rfl)
      rw [if_neg e] at hq
      rw [pk_rem ha (by omega) hb, nI_1]
      exact l_gcdx f (k + 1) b (a % b) _ (by omega) hb (Nat.lt_trans (Nat.mod_lt _ (by omega)) hb) hq
theorem x_gcd {v0 v1 : Int32} (e0 : v0 = nI a) (e1 : v1 = nI b) (ha : a < 2 ^ 31) (hb : b < 2 ^ 31) (hq : Q (some (.int (nI (Nat.gcd a b)))) (mSH, I, L)) : mWP mTb_ mFT ro (d, 6, 0, [some (.int v0), some (.int v1), none, none, none, none], [], 0, 0, (mSH, I, L)) Q := by
  subst e0
  subst e1
  have z := l_gcdx (ro := ro) (Q := Q) (d := d) (I := I) (L := L) (u := nI a) (v := nI b) 64 0 a b none (by omega) ha hb (by rw [fr_gcd 31 a b hb 64 (by omega)]; exact hq)
  exact mB 6 (s2 := (d, 6, 7, [some (.int (nI a)), some (.int (nI b)), some (.int (nI a)), some (.int (nI b)), some (.int (nI 0)), none], [], 0, 0, (mSH, I, L))) rfl z
end FR
theorem x_frac {ro : Nat → Nat × (Nat → Int32)} {Q : mPo} {d : Nat} {I : Nat → Nat → Int32} {L : Nat → Nat → Int64} {v0 v1 : Int32} {a b : Nat} (e0 : v0 = nI a) (e1 : v1 = nI b) (ha : a < 2 ^ 31) (hb0 : 0 < b) (hb : b < 2 ^ 31) (hq : Q none (mSH, mUp (mUp I 25 0 (nI (fr_a a b))) 25 1 (nI (fr_b a b)), L))   : mWP mTb_ mFT ro (d + 1, 5, 0, [some (.ref 25), some (.int v0), some (.int v1), none], [], 0, 0, (mSH, I, L)) Q := by
  have g0 : 0 < Nat.gcd a b := Nat.gcd_pos_of_pos_right a hb0
  have gl : Nat.gcd a b ≤ b := Nat.gcd_le_right a hb0
  have p1 : ¬ v1 ≤ 0 := by
    rw [e1]
    exact nI_nle hb0 hb
  have p2 : ¬ nI (Nat.gcd a b) ≤ 0 := nI_nle g0 (by omega)
  have v0a : v0 / nI (Nat.gcd a b) = nI (fr_a a b) := by
    rw [e0]
    exact pk_div ha g0 (by omega)
  have v0b : v1 / nI (Nat.gcd a b) = nI (fr_b a b) := by
    rw [e1]
    exact pk_div hb g0 (by omega)
  refine mB 2 (s2 := (d + 1, 5, 2, [some (.ref 25), some (.int v0), some (.int v1), none], [.int v1, .int v0], 0, 0, (mSH, I, L))) rfl ?_
  refine mCall (s2 := (d, 6, 0, [some (.int v0), some (.int v1), none, none, none, none], [], 0, 0, (mSH, I, L))) rfl ?_
  refine x_gcd e0 e1 ha (by omega) ?_
  show mWP mTb_ mFT ro (d + 1, 5, 5, [some (.ref 25), some (.int v0), some (.int v1), none], [.int (nI (Nat.gcd a b))], 0, 0, (mSH, I, L)) _
  refine mB 2 (s2 := (d + 1, 5, 7, [some (.ref 25), some (.int v0), some (.int v1), some (.int (nI (Nat.gcd a b)))], [.int v1], 0, 0, (mSH, I, L))) rfl ?_
  refine mBr (s2 := (d + 1, 5, 28, [some (.ref 25), some (.int v0), some (.int v1), some (.int (nI (Nat.gcd a b)))], [], 0, 0, (mSH, I, L))) (s3 := (d + 1, 5, 10, [some (.ref 25), some (.int v0), some (.int v1), some (.int (nI (Nat.gcd a b)))], [], 0, 0, (mSH, I, L))) rfl (fun c0 => ?_) (fun c0 => ?_)
  · refine mRt (r := none) (h := (mSH, I, L)) rfl rfl ?_
    exact absurd (of_decide_eq_true c0) p1
  · refine mB 1 (s2 := (d + 1, 5, 11, [some (.ref 25), some (.int v0), some (.int v1), some (.int (nI (Nat.gcd a b)))], [.int (nI (Nat.gcd a b))], 0, 0, (mSH, I, L))) rfl ?_
    refine mBr (s2 := (d + 1, 5, 28, [some (.ref 25), some (.int v0), some (.int v1), some (.int (nI (Nat.gcd a b)))], [], 0, 0, (mSH, I, L))) (s3 := (d + 1, 5, 14, [some (.ref 25), some (.int v0), some (.int v1), some (.int (nI (Nat.gcd a b)))], [], 0, 0, (mSH, I, L))) rfl (fun c1 => ?_) (fun c1 => ?_)
    · refine mRt (r := none) (h := (mSH, I, L)) rfl rfl ?_
      exact absurd (of_decide_eq_true c1) p2
    · refine mB 3 (s2 := (d + 1, 5, 17, [some (.ref 25), some (.int v0), some (.int v1), some (.int (nI (Nat.gcd a b)))], [.int (nI (Nat.gcd a b)), .int v0, .ref 25], 0, 0, (mSH, I, L))) rfl ?_
      refine mRq (s2 := (d + 1, 5, 18, [some (.ref 25), some (.int v0), some (.int v1), some (.int (nI (Nat.gcd a b)))], [.int (v0 / (nI (Nat.gcd a b))), .ref 25], 0, 0, (mSH, I, L))) rfl (decide_eq_true (mNe0 (of_decide_eq_false c1))) ?_
      refine mB 4 (s2 := (d + 1, 5, 24, [some (.ref 25), some (.int v0), some (.int v1), some (.int (nI (Nat.gcd a b)))], [.int (nI (Nat.gcd a b)), .int v1, .ref 25], 0, 0, (mSH, (mUp I 25 0 (v0 / (nI (Nat.gcd a b)))), L))) rfl ?_
      refine mRq (s2 := (d + 1, 5, 25, [some (.ref 25), some (.int v0), some (.int v1), some (.int (nI (Nat.gcd a b)))], [.int (v1 / (nI (Nat.gcd a b))), .ref 25], 0, 0, (mSH, (mUp I 25 0 (v0 / (nI (Nat.gcd a b)))), L))) rfl (decide_eq_true (mNe0 (of_decide_eq_false c1))) ?_
      refine mB 1 (s2 := (d + 1, 5, 28, [some (.ref 25), some (.int v0), some (.int v1), some (.int (nI (Nat.gcd a b)))], [], 0, 0, (mSH, (mUp (mUp I 25 0 (v0 / (nI (Nat.gcd a b)))) 25 1 (v1 / (nI (Nat.gcd a b)))), L))) rfl ?_
      refine mRt (r := none) (h := (mSH, (mUp (mUp I 25 0 (v0 / (nI (Nat.gcd a b)))) 25 1 (v1 / (nI (Nat.gcd a b)))), L)) rfl rfl ?_
      (rw [v0a, v0b]; exact hq)
section FM
variable {ro : Nat → Nat × (Nat → Int32)} {Q : mPo} {d : Nat} {I : Nat → Nat → Int32} {L : Nat → Nat → Int64} {a b : Nat}
theorem l_becx (ha : a < 2 ^ 62) (hb : b < 2 ^ 62) (hb0 : 0 < b) (hq : Q (some (.int 1)) (mSH, I, mUpL (mUpL L 34 7 (lN (fr_a a b))) 34 8 (lN (fr_b a b)))) : ∀ (m x y : Nat) (o9 : Option Value), y < m → x < 2 ^ 62 → y < 2 ^ 62 → Nat.gcd x y = Nat.gcd a b → mWP mTb_ mFT ro (d, 141, 6, [some (.ref 34), some (.long (lN a)), none, some (.long (lN b)), none, some (.long (lN x)), none, some (.long (lN y)), none, o9, none], [], 0, 0, (mSH, I, L)) Q := by
  have g0 : 0 < Nat.gcd a b := Nat.gcd_pos_of_pos_right a hb0
  intro m
  induction m with
  | zero => exact fun x y o9 h => absurd h (Nat.not_lt_zero y)
  | succ m ih =>
    intro x y o9 hm hx hy hg
    have zero : lg_cmp (lN y) 0 = 0 ↔ y = 0 := by
      rw [lg_cmp_eq]
      exact pk_lEQ (a := y) (b := 0) (by omega) (by omega)
    have gx : y = 0 → x = Nat.gcd a b := fun e => by
      rw [e, Nat.gcd_zero_right] at hg
      exact hg
    have xn : y = 0 → ¬ lN x = 0 := fun e z => by
      have w := (pk_lEQ (a := x) (b := 0) (by omega) (by omega)).mp z
      have := gx e
      omega
    have yn : ¬ y = 0 → ¬ lN y = 0 := fun e z => e ((pk_lEQ (a := y) (b := 0) (by omega) (by omega)).mp z)
    refine s_bec (fun c => xn (zero.mp c)) (fun c => xn (zero.mp c)) (fun c => ?_) (fun c => yn (mt zero.mpr c)) (fun c => ?_)
    · have e := gx (zero.mp c)
      rw [e, pk_lDiv (by omega) g0 (by omega), pk_lDiv (by omega) g0 (by omega)]
      exact hq
    · have y0 := mt zero.mpr c
      have lt : x % y < y := Nat.mod_lt _ (by omega)
      rw [pk_lRem (by omega) (by omega) (by omega)]
      exact ih y (x % y) _ (by omega) hy (by omega) (by rw [fr_g]; exact hg)
theorem x_bec {v w : Int64} (e0 : v = lN a) (e1 : w = lN b) (ha : a < 2 ^ 62) (hb : b < 2 ^ 62) (hb0 : 0 < b) (hq : Q (some (.int 1)) (mSH, I, mUpL (mUpL L 34 7 (lN (fr_a a b))) 34 8 (lN (fr_b a b)))) : mWP mTb_ mFT ro (d, 141, 0, [some (.ref 34), some (.long v), none, some (.long w), none, none, none, none, none, none, none], [], 0, 0, (mSH, I, L)) Q := by
  subst e0
  subst e1
  exact mB 4 (s2 := (d, 141, 6, [some (.ref 34), some (.long (lN a)), none, some (.long (lN b)), none, some (.long (lN a)), none, some (.long (lN b)), none, none, none], [], 0, 0, (mSH, I, L))) rfl (l_becx ha hb hb0 hq _ a b none (Nat.lt_succ_self _) ha hb rfl)
end FM
/-- of a match e: where layer j begins; how old it is above; its years; how deep -/
def an_p (e : bt_E) (j : Nat) : Nat := e.2.headD 0 + ct_ys (bt_bl e.2.tail) 0 j
def an_A (T : ct_S) (e : bt_E) (j : Nat) : Nat := ct_ys T.2.1 0 (an_p e j)
def an_Y (T : ct_S) (e : bt_E) (j : Nat) : Nat := ct_ys T.2.1 (an_p e j) (bt_bl e.2.tail j)
def an_D (T : ct_S) (j : Nat) : Nat := ct_ys T.2.2 0 j
section AG
variable {T : ct_S} {e : bt_E} {j k n : Nat}
theorem ct_ys_add {y : Nat → Nat} {a : Nat} : ∀ b, ct_ys y 0 (a + b) = ct_ys y 0 a + ct_ys y a b
  | 0 => rfl
  | b + 1 => by
    show ct_ys y 0 (a + b) + y (0 + (a + b)) = ct_ys y 0 a + (ct_ys y a b + y (a + b))
    rw [ct_ys_add b, Nat.zero_add, Nat.add_assoc]
theorem an_p1 : an_p e (j + 1) = an_p e j + bt_bl e.2.tail j := by
  show _ + (ct_ys (bt_bl e.2.tail) 0 j + bt_bl e.2.tail (0 + j)) = _ + _ + _
  rw [Nat.zero_add, Nat.add_assoc]
theorem an_A1 : an_A T e (j + 1) = an_A T e j + an_Y T e j := by
  unfold an_A an_Y
  rw [an_p1, ct_ys_add]
theorem an_D1 : an_D T (j + 1) = an_D T j + T.2.2 j := by
  show ct_ys T.2.2 0 j + T.2.2 (0 + j) = _
  rw [Nat.zero_add]
  rfl
theorem an_pm (h : j ≤ k) : an_p e j ≤ an_p e k := by
  induction h with
  | refl => exact Nat.le_refl _
  | step _ ih =>
    rw [an_p1]
    omega
theorem an_Am (h : j ≤ k) : an_A T e j ≤ an_A T e k := by
  induction h with
  | refl => exact Nat.le_refl _
  | step _ ih =>
    rw [an_A1]
    omega
theorem an_Dm (h : j ≤ k) : an_D T j ≤ an_D T k := by
  induction h with
  | refl => exact Nat.le_refl _
  | step _ ih =>
    rw [an_D1]
    omega
/-- a match that fits: its blocks are there, with years -/
theorem an_Yb (hT : ct_So T) (hv : bt_vl T.1.1 T.1.2.1 e.2) (hj : j < T.1.2.1) : an_p e j + bt_bl e.2.tail j ≤ T.1.1 ∧ 1 ≤ an_Y T e j ∧ an_Y T e j ≤ 1584 := by
  obtain ⟨f, ps, e1, e2, e3⟩ := hv
  have z := an_pm (e := e) (show j + 1 ≤ T.1.2.1 by omega)
  rw [an_p1] at z
  have w : an_p e T.1.2.1 ≤ T.1.1 := by
    unfold an_p
    rw [e1]
    exact e3
  have y := ct_ysb hT.2.2.2.1 (i := an_p e j) (bt_bl e.2.tail j) (by omega)
  have b1 : 1 ≤ bt_bl e.2.tail j := by unfold bt_bl; omega
  have s16 := hT.1
  unfold an_Y
  refine ⟨by omega, by omega, ?_⟩
  have : 99 * bt_bl e.2.tail j ≤ 99 * 16 := Nat.mul_le_mul_left _ (by omega)
  omega
theorem an_Ab (hT : ct_So T) (hv : bt_vl T.1.1 T.1.2.1 e.2) (hj : j ≤ T.1.2.1) : an_p e j ≤ T.1.1 ∧ an_A T e j ≤ 1584 := by
  obtain ⟨f, ps, e1, e2, e3⟩ := hv
  have z := an_pm (e := e) hj
  have w : an_p e T.1.2.1 ≤ T.1.1 := by
    unfold an_p
    rw [e1]
    exact e3
  have y := ct_ysb hT.2.2.2.1 (i := 0) (an_p e j) (by omega)
  have s16 := hT.1
  unfold an_A
  refine ⟨by omega, ?_⟩
  have : 99 * an_p e j ≤ 99 * 16 := Nat.mul_le_mul_left _ (by omega)
  omega
theorem an_Db (hT : ct_So T) : ∀ j, j ≤ T.1.2.1 → an_D T j ≤ 999 * j
  | 0, _ => Nat.le_refl 0
  | j + 1, h => by
    have z := an_Db hT j (by omega)
    have w := (hT.2.2.2.2 j (by omega)).2
    rw [an_D1]
    omega
/-- the first place from j on, so many at most, at which p no longer holds -/
def an_js (p : Nat → Bool) : Nat → Nat → Nat
  | 0, j => j
  | f + 1, j => if p j = true then an_js p f (j + 1) else j
end AG
