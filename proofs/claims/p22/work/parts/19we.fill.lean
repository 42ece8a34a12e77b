/-! The search is filled, exactly. Written by a program (wip/mk_c.py). -/
/-- a cell is as it must be -/
def bs_G (T : ct_S) (B : ct_B) (kd g pe : Nat) (I : Nat → Nat → Int32) (j i : Nat) : Prop := bs_N I (j * 17 + i) (bt_top (bt_al (ct_cc T B kd g pe) (T.1.2.1 - j) j i)) ∧ (j < T.1.2.1 → bs_C (bs_L (bs_nx (ct_cc T B kd g pe) (T.1.2.1 - j - 1) j i) bs_st) I (j * 17 + i) (bt_top (bt_al (ct_cc T B kd g pe) (T.1.2.1 - j) j i)))
/-- behind (j, i) all is filled, the rest is empty -/
def bs_I (T : ct_S) (B : ct_B) (kd g pe : Nat) (I : Nat → Nat → Int32) (j i : Nat) : Prop := (∀ a b, ((a = j ∧ b < i) ∨ j < a) → a ≤ T.1.2.1 → b ≤ T.1.1 → bs_G T B kd g pe I a b) ∧ (∀ x, x < 154 → (x = 153 ∨ x / 17 < j ∨ (x / 17 = j ∧ i ≤ x % 17)) → bs_N I x bt_0)
def bs_O (T : ct_S) (B : ct_B) (kd g pe : Nat) (I : Nat → Nat → Int32) (m : Nat) : Prop := (∀ a b, m ≤ a → a ≤ T.1.2.1 → b ≤ T.1.1 → bs_G T B kd g pe I a b) ∧ (∀ x, x < 154 → (x = 153 ∨ x / 17 < m) → bs_N I x bt_0)
def bs_R (T : ct_S) (B : ct_B) (kd g pe : Nat) (I : Nat → Nat → Int32) (k : Nat) : Prop := bs_C (bs_L (bt_top ∘ bt_al (ct_cc T B kd g pe) T.1.2.1 0) bs_id) I 153 (bt_top (bt_rt (ct_cc T B kd g pe) T.1.2.1 k))
/-- what the search holds when it is filled -/
def bs_W (T : ct_S) (B : ct_B) (kd g pe : Nat) (I : Nat → Nat → Int32) : Prop := (T.1.2.1 = 0 → ∀ x, x < 154 → bs_N I x bt_0) ∧ (0 < T.1.2.1 → (∀ a b, a ≤ T.1.2.1 → b ≤ T.1.1 → bs_G T B kd g pe I a b) ∧ bs_R T B kd g pe I T.1.1)
section FI
variable {T : ct_S} {B : ct_B} {kd g pe j i r k x m a b : Nat} {I J : Nat → Nat → Int32}
theorem bs_G.fr (F : bs_F k I J) (hx : a * 17 + b ≠ k) (h : bs_G T B kd g pe I a b) : bs_G T B kd g pe J a b := ⟨h.1.fr F hx, fun z => (h.2 z).fr F hx⟩
theorem bs_I.s (hT : ct_So T) (hj : j < T.1.2.1) (hi : i < T.1.1) (hr : T.1.2.1 - j = r + 1) (h : bs_I T B kd g pe I j i) (F : bs_F (j * 17 + i) I J) (C : bs_C (bs_L (bs_nx (ct_cc T B kd g pe) r j i) bs_st) J (j * 17 + i) (bt_top (bt_al (ct_cc T B kd g pe) (r + 1) j i))) : bs_I T B kd g pe J j (i + 1) := by
  have s16 := hT.1
  have n8 := hT.2.1
  refine ⟨fun a b hab ha hb => ?_, fun x hx hy => ?_⟩
  · by_cases e : a = j ∧ b = i
    · obtain ⟨e1, e2⟩ := e
      subst e1
      subst e2
      have C2 : bs_C (bs_L (bs_nx (ct_cc T B kd g pe) (T.1.2.1 - a - 1) a b) bs_st) J (a * 17 + b) (bt_top (bt_al (ct_cc T B kd g pe) (T.1.2.1 - a) a b)) := by
        rw [hr, Nat.add_sub_cancel]
        exact C
      exact ⟨C2.n, fun _ => C2⟩
    · exact (h.1 a b (by omega) ha hb).fr F (by omega)
  · exact (h.2 x hx (by omega)).fr F (by omega)
/-- no block fits behind the last span -/
theorem bt_al_e (hT : ct_So T) (hg : ct_Jo g pe) (hi : T.1.1 ≤ i) : bt_al (ct_cc T B kd g pe) (r + 1) j i = [] := by
  have no : ∀ p, ct_cc T B kd g pe j i p = none := fun p => by
    cases e : ct_cc T B kd g pe j i p with
    | none => rfl
    | some v =>
      have := (ct_ccs hT hg e).1
      omega
  show bt_one _ _ j i 0 ++ (bt_one _ _ j i 1 ++ (bt_one _ _ j i 2 ++ [])) = []
  rw [bt_one_n (no 0), bt_one_n (no 1), bt_one_n (no 2)]
  rfl
theorem bs_I.o (hT : ct_So T) (hg : ct_Jo g pe) (hj : j < T.1.2.1) (h : bs_I T B kd g pe I j T.1.1) : bs_O T B kd g pe I j := by
  have s16 := hT.1
  have n8 := hT.2.1
  refine ⟨fun a b ha ha2 hb => ?_, fun x hx hy => h.2 x hx (by omega)⟩
  by_cases e : a = j ∧ b = T.1.1
  · obtain ⟨e1, e2⟩ := e
    subst e1
    subst e2
    have z : T.1.2.1 - a = (T.1.2.1 - a - 1) + 1 := by omega
    have w := h.2 (a * 17 + T.1.1) (by omega) (by omega)
    have y : bt_top (bt_al (ct_cc T B kd g pe) (T.1.2.1 - a) a T.1.1) = bt_0 := by
      rw [z, bt_al_e hT hg (Nat.le_refl _)]
      rfl
    refine ⟨?_, fun _ => ?_⟩
    · rw [y]
      exact w
    · rw [y]
      exact bs_C0 w
  · exact h.1 a b (by omega) ha2 hb
theorem bs_O.toI (h : bs_O T B kd g pe I (m + 1)) : bs_I T B kd g pe I m 0 := ⟨fun a b hab ha hb => h.1 a b (by omega) ha hb, fun x hx hy => h.2 x hx (by omega)⟩
theorem bt_nV {n : Nat} (h : n ≤ 8) : n * bt_V < bt_U := by
  exact Nat.lt_of_le_of_lt (Nat.mul_le_mul_right _ h) (by decide)
end FI
theorem s_xeb {ro : Nat → Nat × (Nat → Int32)} {Q : mPo} {d : Nat} {I : Nat → Nat → Int32} {L : Nat → Nat → Int64} {la kk : Int32} {o3 : Option Value}  (h1 : ((I 2 1) < kk) → Q none (mSH, I, L)) (h2 : ¬ ((I 2 1) < kk) → mWP mTb_ mFT ro (d + 2, 54, 20, [some (.ref 10), some (.int la), some (.int kk), o3], [.int kk, .int (la + 1)], 0, 0, (mSH, I, L)) Q) : mWP mTb_ mFT ro (d + 2, 54, 2, [some (.ref 10), some (.int la), some (.int kk), o3], [], 0, 0, (mSH, I, L)) Q := by
  refine mB 4 (s2 := (d + 2, 54, 10, [some (.ref 10), some (.int la), some (.int kk), o3], [.ref 2, .int kk], 0, 0, (mSH, I, L))) rfl ?_
  refine mCall (s2 := (d + 1, 39, 0, [some (.ref 2)], [], 0, 0, (mSH, I, L))) rfl ?_
  refine mB 2 (s2 := (d + 1, 39, 4, [some (.ref 2)], [.int (I 2 1)], 0, 0, (mSH, I, L))) rfl ?_
  refine mRt (r := (some (.int (I 2 1)))) (h := (mSH, I, L)) rfl (mRet_int rfl) ?_
  show mWP mTb_ mFT ro (d + 2, 54, 13, [some (.ref 10), some (.int la), some (.int kk), o3], [.int (I 2 1), .int kk], 0, 0, (mSH, I, L)) _
  refine mBr (s2 := (d + 2, 54, 53, [some (.ref 10), some (.int la), some (.int kk), o3], [], 0, 0, (mSH, I, L))) (s3 := (d + 2, 54, 16, [some (.ref 10), some (.int la), some (.int kk), o3], [], 0, 0, (mSH, I, L))) rfl (fun c0 => ?_) (fun c0 => ?_)
  · refine mRt (r := none) (h := (mSH, I, L)) rfl rfl ?_
    exact h1 (of_decide_eq_true c0)
  · refine mB 4 (s2 := (d + 2, 54, 20, [some (.ref 10), some (.int la), some (.int kk), o3], [.int kk, .int (la + 1)], 0, 0, (mSH, I, L))) rfl ?_
    exact h2 (of_decide_eq_false c0)
theorem s_xeb2 {ro : Nat → Nat × (Nat → Int32)} {Q : mPo} {d : Nat} {I : Nat → Nat → Int32} {L : Nat → Nat → Int64} {la kk x : Int32} {o3 : Option Value}  (h1 : vp_in x 154) (h2 : vp_in x 154) (h3 : vp_in x 154) (h4 : mWP mTb_ mFT ro (d + 2, 54, 2, [some (.ref 10), some (.int la), some (.int (kk + 1)), some (.int x)], [], 0, 0, (mSH, (mUp (mUp (mUp I 12 x.toNatClampNeg 0) 20 x.toNatClampNeg 1) 21 x.toNatClampNeg 1), L)) Q) : mWP mTb_ mFT ro (d + 2, 54, 23, [some (.ref 10), some (.int la), some (.int kk), o3], [.int x], 0, 0, (mSH, I, L)) Q := by
  refine mB 4 (s2 := (d + 2, 54, 29, [some (.ref 10), some (.int la), some (.int kk), some (.int x)], [.int 0, .ref 11], 0, 0, (mSH, I, L))) rfl ?_
  refine mRq (s2 := (d + 2, 54, 30, [some (.ref 10), some (.int la), some (.int kk), some (.int x)], [.ref 12], 0, 0, (mSH, I, L))) rfl (by decide) ?_
  refine mB 2 (s2 := (d + 2, 54, 32, [some (.ref 10), some (.int la), some (.int kk), some (.int x)], [.int 0, .int x, .ref 12], 0, 0, (mSH, I, L))) rfl ?_
  refine mRq (s2 := (d + 2, 54, 33, [some (.ref 10), some (.int la), some (.int kk), some (.int x)], [], 0, 0, (mSH, (mUp I 12 x.toNatClampNeg 0), L))) rfl (mVp_of h1) ?_
  refine mB 4 (s2 := (d + 2, 54, 39, [some (.ref 10), some (.int la), some (.int kk), some (.int x)], [.int 1, .int x, .ref 20], 0, 0, (mSH, (mUp I 12 x.toNatClampNeg 0), L))) rfl ?_
  refine mRq (s2 := (d + 2, 54, 40, [some (.ref 10), some (.int la), some (.int kk), some (.int x)], [], 0, 0, (mSH, (mUp (mUp I 12 x.toNatClampNeg 0) 20 x.toNatClampNeg 1), L))) rfl (mVp_of h2) ?_
  refine mB 4 (s2 := (d + 2, 54, 46, [some (.ref 10), some (.int la), some (.int kk), some (.int x)], [.int 1, .int x, .ref 21], 0, 0, (mSH, (mUp (mUp I 12 x.toNatClampNeg 0) 20 x.toNatClampNeg 1), L))) rfl ?_
  refine mRq (s2 := (d + 2, 54, 47, [some (.ref 10), some (.int la), some (.int kk), some (.int x)], [], 0, 0, (mSH, (mUp (mUp (mUp I 12 x.toNatClampNeg 0) 20 x.toNatClampNeg 1) 21 x.toNatClampNeg 1), L))) rfl (mVp_of h3) ?_
  refine mB 2 (s2 := (d + 2, 54, 2, [some (.ref 10), some (.int la), some (.int (kk + 1)), some (.int x)], [], 0, 0, (mSH, (mUp (mUp (mUp I 12 x.toNatClampNeg 0) 20 x.toNatClampNeg 1) 21 x.toNatClampNeg 1), L))) rfl ?_
  exact h4
def bs_1 : bt_T := ((0, []), (bt_U, []), 1, 1)
theorem bs_1e : bt_top [(0, [])] = bs_1 := by
  show bt_ins bt_0 (0, []) = bs_1
  unfold bt_ins
  rw [bt_of1 (show (0 : Nat) < bt_U by decide)]
  show (_, _, _, bt_lw bt_U 0 0 1) = bs_1
  rw [bt_lw0 (show (0 : Nat) < bt_U by decide)]
  rfl
def bs_EI (T : ct_S) (I : Nat → Nat → Int32) (k : Nat) : Prop := (∀ b, b < k → bs_N I (T.1.2.1 * 17 + b) bs_1) ∧ (∀ x, x < 154 → (x = 153 ∨ x / 17 < T.1.2.1 ∨ (x / 17 = T.1.2.1 ∧ k ≤ x % 17)) → bs_N I x bt_0)
theorem l_xeb {ro : Nat → Nat × (Nat → Int32)} {Q : mPo} {d : Nat} {L : Nat → Nat → Int64} {T : ct_S} {I0 : Nat → Nat → Int32} {m : Nat} (hT : ct_So T) (hn : T.1.2.1 = m + 1) (h2 : I0 2 1 = nI T.1.1) (hq : ∀ J, mFr mSS I0 J → mRk J → bs_EI T J (T.1.1 + 1) → Q none (mSH, J, L)) : ∀ (e k : Nat), k + e = T.1.1 + 1 → ∀ (I : Nat → Nat → Int32) (o3 : Option Value), mFr mSS I0 I → mRk I → bs_EI T I k → mWP mTb_ mFT ro (d + 2, 54, 2, [some (.ref 10), some (.int (nI m)), some (.int (nI k)), o3], [], 0, 0, (mSH, I, L)) Q := by
  have s16 := hT.1
  have n8 := hT.2.1
  intro e
  induction e with
  | zero =>
    intro k he I o3 F R E
    have z : I 2 1 < nI k := by
      rw [F 2 rfl, h2]
      exact nI_lt (by omega) (by omega)
    refine s_xeb (fun _ => hq I F R ?_) (fun c => absurd z c)
    have : k = T.1.1 + 1 := by omega
    subst this
    exact E
  | succ e ih =>
    intro k he I o3 F R E
    have z : ¬ I 2 1 < nI k := by
      rw [F 2 rfl, h2]
      exact nI_nlt (by omega) (by omega)
    refine s_xeb (fun c => absurd c z) (fun _ => ?_)
    refine mCall (s2 := (d + 1, 59, 0, [some (.int (nI m + 1)), some (.int (nI k)), none], [], 0, 0, (mSH, I, L))) rfl ?_
    refine x_cell (a := m + 1) (b := k) (nI_add m 1) rfl (by omega) (by omega) ?_
    show mWP mTb_ mFT ro (d + 2, 54, 23, [some (.ref 10), some (.int (nI m)), some (.int (nI k)), o3], [.int (nI ((m + 1) * 17 + k))], 0, 0, (mSH, I, L)) _
    have v : vp_in (nI ((m + 1) * 17 + k)) 154 := vp_in_nI (by omega) (by omega)
    refine s_xeb2 v v v ?_
    rw [nI_clamp (by omega), nI_1]
    have G : bs_F ((m + 1) * 17 + k) I (mUp (mUp (mUp I 12 ((m + 1) * 17 + k) 0) 20 ((m + 1) * 17 + k) 1) 21 ((m + 1) * 17 + k) 1) := bs_F.up (by rfl) (bs_F.up (by rfl) (bs_F.up (by rfl) bs_F.rf))
    refine ih (k + 1) (by omega) _ _ (fun c hc => (G.1 c hc).trans (F c hc)) (mRk.up (mRk.up (mRk.up R (by rfl) (by rfl)) (by rfl) (by rfl)) (by rfl) (by rfl)) ⟨fun b hb => ?_, fun x hx hy => (E.2 x hx (by omega)).fr G (by omega)⟩
    by_cases ek : b = k
    · subst ek
      rw [hn]
      have w := E.2 ((m + 1) * 17 + b) (by omega) (by omega)
      refine ⟨⟨?_, ?_⟩, ?_, ?_⟩
      · rw [mUp_row (by omega), mUp_row (by omega), mUp_h]
        rfl
      · rw [mUp_row (by omega), mUp_row (by omega), mUp_row (by omega)]
        exact w.1.2
      · rw [mUp_row (by omega), mUp_h]
        rfl
      · rw [mUp_h]
        rfl
    · exact (E.1 b (by omega)).fr G (by omega)
theorem bs_EI.o {T : ct_S} {B : ct_B} {kd g pe : Nat} {I : Nat → Nat → Int32} (h : bs_EI T I (T.1.1 + 1)) : bs_O T B kd g pe I T.1.2.1 := by
  refine ⟨fun a b ha ha2 hb => ?_, fun x hx hy => h.2 x hx (by omega)⟩
  have e : a = T.1.2.1 := by omega
  subst e
  refine ⟨?_, fun z => absurd z (Nat.lt_irrefl _)⟩
  rw [Nat.sub_self]
  show bs_N I _ (bt_top [(0, [])])
  rw [bs_1e]
  exact h.1 b (by omega)
theorem mFl_in {I : Nat → Nat → Int32} {c n j : Nat} {v : Int32} (h : j < n) : mFl I c n v c j = v := by
  unfold mFl
  rw [if_pos rfl, if_pos h]
theorem mFl_row {I : Nat → Nat → Int32} {c n q : Nat} {v : Int32} (h : q ≠ c) : mFl I c n v q = I q := by
  funext j
  unfold mFl
  rw [if_neg h]
theorem bs_fl {I : Nat → Nat → Int32} {x : Nat} (h : x < 154) : bs_N (mFl (mFl (mFl (mFl I 12 154 1000000000) 13 154 1000000000) 20 154 0) 21 154 0) x bt_0 := by
  refine ⟨⟨?_, ?_⟩, ?_, ?_⟩
  · rw [mFl_row (by omega), mFl_row (by omega), mFl_row (by omega), mFl_in h]
    rfl
  · rw [mFl_row (by omega), mFl_row (by omega), mFl_in h]
    rfl
  · rw [mFl_row (by omega), mFl_in h]
    rfl
  · rw [mFl_in h]
    rfl
theorem s_xfi_6 {ro : Nat → Nat × (Nat → Int32)} {Q : mPo} {d : Nat} {I : Nat → Nat → Int32} {L : Nat → Nat → Int64} {kd la jj ii : Int32}  (h1 : ((I 2 1) ≤ ii) → mWP mTb_ mFT ro (d + 4, 52, 30, [some (.ref 10), some (.ref 6), some (.int kd), some (.int la), some (.int (jj + (-1))), some (.int ii)], [], 0, 0, (mSH, I, L)) Q) (h2 : ¬ ((I 2 1) ≤ ii) → mWP mTb_ mFT ro (d + 4, 52, 60, [some (.ref 10), some (.ref 6), some (.int kd), some (.int la), some (.int jj), some (.int ii)], [.int ii, .int jj, .int kd, .ref 6, .ref 10], 0, 0, (mSH, I, L)) Q) : mWP mTb_ mFT ro (d + 4, 52, 38, [some (.ref 10), some (.ref 6), some (.int kd), some (.int la), some (.int jj), some (.int ii)], [], 0, 0, (mSH, I, L)) Q := by
  refine mB 4 (s2 := (d + 4, 52, 47, [some (.ref 10), some (.ref 6), some (.int kd), some (.int la), some (.int jj), some (.int ii)], [.ref 2, .int ii], 0, 0, (mSH, I, L))) rfl ?_
  refine mCall (s2 := (d + 3, 39, 0, [some (.ref 2)], [], 0, 0, (mSH, I, L))) rfl ?_
  refine mB 2 (s2 := (d + 3, 39, 4, [some (.ref 2)], [.int (I 2 1)], 0, 0, (mSH, I, L))) rfl ?_
  refine mRt (r := (some (.int (I 2 1)))) (h := (mSH, I, L)) rfl (mRet_int rfl) ?_
  show mWP mTb_ mFT ro (d + 4, 52, 50, [some (.ref 10), some (.ref 6), some (.int kd), some (.int la), some (.int jj), some (.int ii)], [.int (I 2 1), .int ii], 0, 0, (mSH, I, L)) _
  refine mBr (s2 := (d + 4, 52, 69, [some (.ref 10), some (.ref 6), some (.int kd), some (.int la), some (.int jj), some (.int ii)], [], 0, 0, (mSH, I, L))) (s3 := (d + 4, 52, 53, [some (.ref 10), some (.ref 6), some (.int kd), some (.int la), some (.int jj), some (.int ii)], [], 0, 0, (mSH, I, L))) rfl (fun c0 => ?_) (fun c0 => ?_)
  · refine mB 2 (s2 := (d + 4, 52, 30, [some (.ref 10), some (.ref 6), some (.int kd), some (.int la), some (.int (jj + (-1))), some (.int ii)], [], 0, 0, (mSH, I, L))) rfl ?_
    exact h1 (of_decide_eq_true c0)
  · refine mB 5 (s2 := (d + 4, 52, 60, [some (.ref 10), some (.ref 6), some (.int kd), some (.int la), some (.int jj), some (.int ii)], [.int ii, .int jj, .int kd, .ref 6, .ref 10], 0, 0, (mSH, I, L))) rfl ?_
    exact h2 (of_decide_eq_false c0)
theorem s_xfo_6 {ro : Nat → Nat × (Nat → Int32)} {Q : mPo} {d : Nat} {I : Nat → Nat → Int32} {L : Nat → Nat → Int64} {kd la jj : Int32} {o5 : Option Value}  (h1 : (jj < 0) → mWP mTb_ mFT ro (d + 4, 52, 78, [some (.ref 10), some (.ref 6), some (.int kd), some (.int la), some (.int 0), o5], [], 0, 0, (mSH, I, L)) Q) (h2 : ¬ (jj < 0) → mWP mTb_ mFT ro (d + 4, 52, 38, [some (.ref 10), some (.ref 6), some (.int kd), some (.int la), some (.int jj), some (.int 0)], [], 0, 0, (mSH, I, L)) Q) : mWP mTb_ mFT ro (d + 4, 52, 30, [some (.ref 10), some (.ref 6), some (.int kd), some (.int la), some (.int jj), o5], [], 0, 0, (mSH, I, L)) Q := by
  refine mB 1 (s2 := (d + 4, 52, 32, [some (.ref 10), some (.ref 6), some (.int kd), some (.int la), some (.int jj), o5], [.int jj], 0, 0, (mSH, I, L))) rfl ?_
  refine mBr (s2 := (d + 4, 52, 75, [some (.ref 10), some (.ref 6), some (.int kd), some (.int la), some (.int jj), o5], [], 0, 0, (mSH, I, L))) (s3 := (d + 4, 52, 35, [some (.ref 10), some (.ref 6), some (.int kd), some (.int la), some (.int jj), o5], [], 0, 0, (mSH, I, L))) rfl (fun c0 => ?_) (fun c0 => ?_)
  · refine mB 2 (s2 := (d + 4, 52, 78, [some (.ref 10), some (.ref 6), some (.int kd), some (.int la), some (.int 0), o5], [], 0, 0, (mSH, I, L))) rfl ?_
    exact h1 (of_decide_eq_true c0)
  · refine mB 2 (s2 := (d + 4, 52, 38, [some (.ref 10), some (.ref 6), some (.int kd), some (.int la), some (.int jj), some (.int 0)], [], 0, 0, (mSH, I, L))) rfl ?_
    exact h2 (of_decide_eq_false c0)
theorem s_xfr_6 {ro : Nat → Nat × (Nat → Int32)} {Q : mPo} {d : Nat} {I : Nat → Nat → Int32} {L : Nat → Nat → Int64} {kd la ii : Int32} {o5 : Option Value}  (h1 : ((I 2 1) ≤ ii) → Q none (mSH, I, L)) (h2 : ¬ ((I 2 1) ≤ ii) → mWP mTb_ mFT ro (d + 4, 52, 100, [some (.ref 10), some (.ref 6), some (.int kd), some (.int la), some (.int ii), o5], [.int ii, .int 0, .int 153, .ref 10], 0, 0, (mSH, I, L)) Q) : mWP mTb_ mFT ro (d + 4, 52, 78, [some (.ref 10), some (.ref 6), some (.int kd), some (.int la), some (.int ii), o5], [], 0, 0, (mSH, I, L)) Q := by
  refine mB 4 (s2 := (d + 4, 52, 87, [some (.ref 10), some (.ref 6), some (.int kd), some (.int la), some (.int ii), o5], [.ref 2, .int ii], 0, 0, (mSH, I, L))) rfl ?_
  refine mCall (s2 := (d + 3, 39, 0, [some (.ref 2)], [], 0, 0, (mSH, I, L))) rfl ?_
  refine mB 2 (s2 := (d + 3, 39, 4, [some (.ref 2)], [.int (I 2 1)], 0, 0, (mSH, I, L))) rfl ?_
  refine mRt (r := (some (.int (I 2 1)))) (h := (mSH, I, L)) rfl (mRet_int rfl) ?_
  show mWP mTb_ mFT ro (d + 4, 52, 90, [some (.ref 10), some (.ref 6), some (.int kd), some (.int la), some (.int ii), o5], [.int (I 2 1), .int ii], 0, 0, (mSH, I, L)) _
  refine mBr (s2 := (d + 4, 52, 115, [some (.ref 10), some (.ref 6), some (.int kd), some (.int la), some (.int ii), o5], [], 0, 0, (mSH, I, L))) (s3 := (d + 4, 52, 93, [some (.ref 10), some (.ref 6), some (.int kd), some (.int la), some (.int ii), o5], [], 0, 0, (mSH, I, L))) rfl (fun c0 => ?_) (fun c0 => ?_)
  · refine mRt (r := none) (h := (mSH, I, L)) rfl rfl ?_
    exact h1 (of_decide_eq_true c0)
  · refine mB 4 (s2 := (d + 4, 52, 100, [some (.ref 10), some (.ref 6), some (.int kd), some (.int la), some (.int ii), o5], [.int ii, .int 0, .int 153, .ref 10], 0, 0, (mSH, I, L))) rfl ?_
    exact h2 (of_decide_eq_false c0)
theorem s_xfq_6 {ro : Nat → Nat × (Nat → Int32)} {Q : mPo} {d : Nat} {I : Nat → Nat → Int32} {L : Nat → Nat → Int64} {kd la ii x : Int32} {o5 : Option Value}  (h1 : mWP mTb_ mFT ro (d + 4, 52, 106, [some (.ref 10), some (.ref 6), some (.int kd), some (.int la), some (.int ii), o5], [.int 0, .int ii, .int x, .int 153, .ref 10], 0, 0, (mSH, I, L)) Q) : mWP mTb_ mFT ro (d + 4, 52, 103, [some (.ref 10), some (.ref 6), some (.int kd), some (.int la), some (.int ii), o5], [.int x, .int 153, .ref 10], 0, 0, (mSH, I, L)) Q := by
  refine mB 2 (s2 := (d + 4, 52, 106, [some (.ref 10), some (.ref 6), some (.int kd), some (.int la), some (.int ii), o5], [.int 0, .int ii, .int x, .int 153, .ref 10], 0, 0, (mSH, I, L))) rfl ?_
  exact h1
theorem s_xf0_6 {ro : Nat → Nat × (Nat → Int32)} {Q : mPo} {d : Nat} {I : Nat → Nat → Int32} {L : Nat → Nat → Int64} {kd : Int32}  (h1 : ((0 : Int32) ≤ ((I 4 1) - 1)) → mWP mTb_ mFT ro (d + 4, 52, 24, [some (.ref 10), some (.ref 6), some (.int kd), some (.int ((I 4 1) - 1)), none, none], [.int ((I 4 1) - 1), .ref 10], 0, 0, (mSH, (mFl (mFl (mFl (mFl I 12 154 1000000000) 13 154 1000000000) 20 154 0) 21 154 0), L)) Q) (h2 : ¬ ((0 : Int32) ≤ ((I 4 1) - 1)) → Q none (mSH, (mFl (mFl (mFl (mFl I 12 154 1000000000) 13 154 1000000000) 20 154 0) 21 154 0), L)) : mWP mTb_ mFT ro (d + 4, 52, 0, [some (.ref 10), some (.ref 6), some (.int kd), none, none, none], [], 0, 0, (mSH, I, L)) Q := by
  refine mB 1 (s2 := (d + 4, 52, 1, [some (.ref 10), some (.ref 6), some (.int kd), none, none, none], [.ref 10], 0, 0, (mSH, I, L))) rfl ?_
  refine mCall (s2 := (d + 3, 53, 0, [some (.ref 10)], [], 0, 0, (mSH, I, L))) rfl ?_
  refine mB 3 (s2 := (d + 3, 53, 5, [some (.ref 10)], [.int 0, .ref 11], 0, 0, (mSH, I, L))) rfl ?_
  refine mRq (s2 := (d + 3, 53, 6, [some (.ref 10)], [.ref 12], 0, 0, (mSH, I, L))) rfl (by decide) ?_
  refine mB 1 (s2 := (d + 3, 53, 8, [some (.ref 10)], [.int 1000000000, .ref 12], 0, 0, (mSH, I, L))) rfl ?_
  refine mCall (s2 := (d + 2, 166, 0, [some (.ref 12), some (.int 1000000000), none, none], [], 0, 0, (mSH, I, L))) rfl ?_
  refine w_fill_12 ?_
  show mWP mTb_ mFT ro (d + 3, 53, 11, [some (.ref 10)], [], 0, 0, (mSH, (mFl I 12 154 1000000000), L)) _
  refine mB 3 (s2 := (d + 3, 53, 16, [some (.ref 10)], [.int 1, .ref 11], 0, 0, (mSH, (mFl I 12 154 1000000000), L))) rfl ?_
  refine mRq (s2 := (d + 3, 53, 17, [some (.ref 10)], [.ref 13], 0, 0, (mSH, (mFl I 12 154 1000000000), L))) rfl (by decide) ?_
  refine mB 1 (s2 := (d + 3, 53, 19, [some (.ref 10)], [.int 1000000000, .ref 13], 0, 0, (mSH, (mFl I 12 154 1000000000), L))) rfl ?_
  refine mCall (s2 := (d + 2, 166, 0, [some (.ref 13), some (.int 1000000000), none, none], [], 0, 0, (mSH, (mFl I 12 154 1000000000), L))) rfl ?_
  refine w_fill_13 ?_
  show mWP mTb_ mFT ro (d + 3, 53, 22, [some (.ref 10)], [], 0, 0, (mSH, (mFl (mFl I 12 154 1000000000) 13 154 1000000000), L)) _
  refine mB 3 (s2 := (d + 3, 53, 27, [some (.ref 10)], [.int 0, .ref 20], 0, 0, (mSH, (mFl (mFl I 12 154 1000000000) 13 154 1000000000), L))) rfl ?_
  refine mCall (s2 := (d + 2, 166, 0, [some (.ref 20), some (.int 0), none, none], [], 0, 0, (mSH, (mFl (mFl I 12 154 1000000000) 13 154 1000000000), L))) rfl ?_
  refine w_fill_20 ?_
  show mWP mTb_ mFT ro (d + 3, 53, 30, [some (.ref 10)], [], 0, 0, (mSH, (mFl (mFl (mFl I 12 154 1000000000) 13 154 1000000000) 20 154 0), L)) _
  refine mB 3 (s2 := (d + 3, 53, 35, [some (.ref 10)], [.int 0, .ref 21], 0, 0, (mSH, (mFl (mFl (mFl I 12 154 1000000000) 13 154 1000000000) 20 154 0), L))) rfl ?_
  refine mCall (s2 := (d + 2, 166, 0, [some (.ref 21), some (.int 0), none, none], [], 0, 0, (mSH, (mFl (mFl (mFl I 12 154 1000000000) 13 154 1000000000) 20 154 0), L))) rfl ?_
  refine w_fill_21 ?_
  show mWP mTb_ mFT ro (d + 3, 53, 38, [some (.ref 10)], [], 0, 0, (mSH, (mFl (mFl (mFl (mFl I 12 154 1000000000) 13 154 1000000000) 20 154 0) 21 154 0), L)) _
  refine mRt (r := none) (h := (mSH, (mFl (mFl (mFl (mFl I 12 154 1000000000) 13 154 1000000000) 20 154 0) 21 154 0), L)) rfl rfl ?_
  show mWP mTb_ mFT ro (d + 4, 52, 4, [some (.ref 10), some (.ref 6), some (.int kd), none, none, none], [], 0, 0, (mSH, (mFl (mFl (mFl (mFl I 12 154 1000000000) 13 154 1000000000) 20 154 0) 21 154 0), L)) _
  refine mB 3 (s2 := (d + 4, 52, 11, [some (.ref 10), some (.ref 6), some (.int kd), none, none, none], [.ref 4], 0, 0, (mSH, (mFl (mFl (mFl (mFl I 12 154 1000000000) 13 154 1000000000) 20 154 0) 21 154 0), L))) rfl ?_
  refine mCall (s2 := (d + 3, 39, 0, [some (.ref 4)], [], 0, 0, (mSH, (mFl (mFl (mFl (mFl I 12 154 1000000000) 13 154 1000000000) 20 154 0) 21 154 0), L))) rfl ?_
  refine mB 2 (s2 := (d + 3, 39, 4, [some (.ref 4)], [.int (I 4 1)], 0, 0, (mSH, (mFl (mFl (mFl (mFl I 12 154 1000000000) 13 154 1000000000) 20 154 0) 21 154 0), L))) rfl ?_
  refine mRt (r := (some (.int (I 4 1)))) (h := (mSH, (mFl (mFl (mFl (mFl I 12 154 1000000000) 13 154 1000000000) 20 154 0) 21 154 0), L)) rfl (mRet_int rfl) ?_
  show mWP mTb_ mFT ro (d + 4, 52, 14, [some (.ref 10), some (.ref 6), some (.int kd), none, none, none], [.int (I 4 1)], 0, 0, (mSH, (mFl (mFl (mFl (mFl I 12 154 1000000000) 13 154 1000000000) 20 154 0) 21 154 0), L)) _
  refine mB 4 (s2 := (d + 4, 52, 18, [some (.ref 10), some (.ref 6), some (.int kd), some (.int ((I 4 1) - 1)), none, none], [.int ((I 4 1) - 1)], 0, 0, (mSH, (mFl (mFl (mFl (mFl I 12 154 1000000000) 13 154 1000000000) 20 154 0) 21 154 0), L))) rfl ?_
  refine mBr (s2 := (d + 4, 52, 22, [some (.ref 10), some (.ref 6), some (.int kd), some (.int ((I 4 1) - 1)), none, none], [], 0, 0, (mSH, (mFl (mFl (mFl (mFl I 12 154 1000000000) 13 154 1000000000) 20 154 0) 21 154 0), L))) (s3 := (d + 4, 52, 21, [some (.ref 10), some (.ref 6), some (.int kd), some (.int ((I 4 1) - 1)), none, none], [], 0, 0, (mSH, (mFl (mFl (mFl (mFl I 12 154 1000000000) 13 154 1000000000) 20 154 0) 21 154 0), L))) rfl (fun c0 => ?_) (fun c0 => ?_)
  · refine mB 2 (s2 := (d + 4, 52, 24, [some (.ref 10), some (.ref 6), some (.int kd), some (.int ((I 4 1) - 1)), none, none], [.int ((I 4 1) - 1), .ref 10], 0, 0, (mSH, (mFl (mFl (mFl (mFl I 12 154 1000000000) 13 154 1000000000) 20 154 0) 21 154 0), L))) rfl ?_
    exact h1 (of_decide_eq_true c0)
  · refine mRt (r := none) (h := (mSH, (mFl (mFl (mFl (mFl I 12 154 1000000000) 13 154 1000000000) 20 154 0) 21 154 0), L)) rfl rfl ?_
    exact h2 (of_decide_eq_false c0)
theorem l_xfi_6 {ro : Nat → Nat × (Nat → Int32)} {Q : mPo} {d : Nat} {L : Nat → Nat → Int64} {T : ct_S} {B : ct_B} {kd g pe : Nat} {I0 : Nat → Nat → Int32} {la : Int32} {j : Nat} (hT : ct_So T) (hS : cl_S T I0) (hB0 : cl_B 6 B I0) (hBo : ct_Bo B) (hJ : cl_J 9 g pe I0) (hg : ct_Jo g pe) (hk : kd < 2 ^ 31) (hj : j < T.1.2.1) (hq : ∀ (J : Nat → Nat → Int32) (o5 : Option Value), mFr mSS I0 J → mRk J → bs_I T B kd g pe J j T.1.1 → mWP mTb_ mFT ro (d + 4, 52, 30, [some (.ref 10), some (.ref 6), some (.int (nI kd)), some (.int la), some (.int (nI j + (-1))), o5], [], 0, 0, (mSH, J, L)) Q) : ∀ (e i : Nat), i + e = T.1.1 → ∀ (I : Nat → Nat → Int32), mFr mSS I0 I → mRk I → bs_I T B kd g pe I j i → mWP mTb_ mFT ro (d + 4, 52, 38, [some (.ref 10), some (.ref 6), some (.int (nI kd)), some (.int la), some (.int (nI j)), some (.int (nI i))], [], 0, 0, (mSH, I, L)) Q := by
  have s16 := hT.1
  have n8 := hT.2.1
  intro e
  induction e with
  | zero =>
    intro i he I F R E
    have e : i = T.1.1 := by omega
    subst e
    have z : I 2 1 ≤ nI T.1.1 := by
      rw [F 2 rfl, hS.1]
      exact nI_le (Nat.le_refl _) (by omega)
    exact s_xfi_6 (fun _ => hq I _ F R E) (fun c => absurd z c)
  | succ e ih =>
    intro i he I F R E
    have z : ¬ I 2 1 ≤ nI i := by
      rw [F 2 rfl, hS.1]
      exact nI_ge (by omega) (by omega)
    refine s_xfi_6 (fun c => absurd c z) (fun _ => ?_)
    refine mCall (s2 := (d + 3, 55, 0, [some (.ref 10), some (.ref 6), some (.int (nI kd)), some (.int (nI j)), some (.int (nI i)), none, none], [], 0, 0, (mSH, I, L))) rfl ?_
    obtain ⟨r, hr⟩ : ∃ r, T.1.2.1 - j = r + 1 := ⟨T.1.2.1 - j - 1, by omega⟩
    have er : T.1.2.1 - (j + 1) = r := by omega
    refine x_fcell_6 (r := r) hT (hS.fr F rfl rfl rfl rfl rfl) (hB0.fr F rfl) hBo (hJ.fr F rfl) hg hk hj (by omega) (bt_nV (by omega)) R (E.2 _ (by omega) (by omega)) (fun p hp => ?_) (fun J G R2 C => ?_)
    · have w := (E.1 (j + 1) (i + (2 * p + 1)) (by omega) (by omega) hp).1
      rw [er] at w
      exact w
    · refine mB 2 (s2 := (d + 4, 52, 38, [some (.ref 10), some (.ref 6), some (.int (nI kd)), some (.int la), some (.int (nI j)), some (.int (nI i + 1))], [], 0, 0, (mSH, J, L))) rfl ?_
      rw [nI_1]
      exact ih (i + 1) (by omega) J (fun c hc => (G.1 c hc).trans (F c hc)) R2 (E.s hT hj (by omega) hr G C)
theorem l_xfo_6 {ro : Nat → Nat × (Nat → Int32)} {Q : mPo} {d : Nat} {L : Nat → Nat → Int64} {T : ct_S} {B : ct_B} {kd g pe : Nat} {I0 : Nat → Nat → Int32} {la : Int32} (hT : ct_So T) (hS : cl_S T I0) (hB0 : cl_B 6 B I0) (hBo : ct_Bo B) (hJ : cl_J 9 g pe I0) (hg : ct_Jo g pe) (hk : kd < 2 ^ 31) (hq : ∀ (J : Nat → Nat → Int32) (o5 : Option Value), mFr mSS I0 J → mRk J → bs_O T B kd g pe J 0 → mWP mTb_ mFT ro (d + 4, 52, 78, [some (.ref 10), some (.ref 6), some (.int (nI kd)), some (.int la), some (.int (0)), o5], [], 0, 0, (mSH, J, L)) Q) : ∀ (m : Nat), m ≤ T.1.2.1 → ∀ (I : Nat → Nat → Int32) (o5 : Option Value), mFr mSS I0 I → mRk I → bs_O T B kd g pe I m → mWP mTb_ mFT ro (d + 4, 52, 30, [some (.ref 10), some (.ref 6), some (.int (nI kd)), some (.int la), some (.int (nI m - 1)), o5], [], 0, 0, (mSH, I, L)) Q := by
  have n8 := hT.2.1
  intro m
  induction m with
  | zero =>
    intro hm I o5 F R E
    exact s_xfo_6 (fun _ => hq I _ F R E) (fun c => absurd (by decide) c)
  | succ m ih =>
    intro hm I o5 F R E
    rw [nI_sp]
    refine s_xfo_6 (fun c => absurd c (nI_pos (by omega))) (fun _ => ?_)
    refine l_xfi_6 hT (hS.fr F rfl rfl rfl rfl rfl) (hB0.fr F rfl) hBo (hJ.fr F rfl) hg hk (by omega) (fun J o5 G R2 E2 => ?_) T.1.1 0 (by omega) I mFr.rf R E.toI
    rw [nI_m1]
    exact ih (by omega) J o5 (fun c hc => (G c hc).trans (F c hc)) R2 (E2.o hT hg (by omega))
theorem l_xfr_6 {ro : Nat → Nat × (Nat → Int32)} {Q : mPo} {d : Nat} {L : Nat → Nat → Int64} {T : ct_S} {B : ct_B} {kd g pe : Nat} {I0 : Nat → Nat → Int32} {la : Int32} (hT : ct_So T) (hS : cl_S T I0) (hB0 : cl_B 6 B I0) (hBo : ct_Bo B) (hJ : cl_J 9 g pe I0) (hg : ct_Jo g pe) (hk : kd < 2 ^ 31) (hn : 0 < T.1.2.1) (hq : ∀ J, mFr mSS I0 J → mRk J → ((∀ a b, a ≤ T.1.2.1 → b ≤ T.1.1 → bs_G T B kd g pe J a b) ∧ bs_R T B kd g pe J T.1.1) → Q none (mSH, J, L)) : ∀ (e k : Nat), k + e = T.1.1 → ∀ (I : Nat → Nat → Int32) (o5 : Option Value), mFr mSS I0 I → mRk I → (∀ a b, a ≤ T.1.2.1 → b ≤ T.1.1 → bs_G T B kd g pe I a b) → bs_R T B kd g pe I k → mWP mTb_ mFT ro (d + 4, 52, 78, [some (.ref 10), some (.ref 6), some (.int (nI kd)), some (.int la), some (.int (nI k)), o5], [], 0, 0, (mSH, I, L)) Q := by
  have s16 := hT.1
  have n8 := hT.2.1
  have hV := ct_ccb (B := B) (kd := kd) hT hg
  have hnV := bt_nV n8
  intro e
  induction e with
  | zero =>
    intro k he I o5 F R E C
    have e : k = T.1.1 := by omega
    subst e
    have z : I 2 1 ≤ nI T.1.1 := by
      rw [F 2 rfl, hS.1]
      exact nI_le (Nat.le_refl _) (by omega)
    exact s_xfr_6 (fun _ => hq I F R ⟨E, C⟩) (fun c => absurd z c)
  | succ e ih =>
    intro k he I o5 F R E C
    have z : ¬ I 2 1 ≤ nI k := by
      rw [F 2 rfl, hS.1]
      exact nI_ge (by omega) (by omega)
    refine s_xfr_6 (fun c => absurd c z) (fun _ => ?_)
    refine mCall (s2 := (d + 3, 59, 0, [some (.int 0), some (.int (nI k)), none], [], 0, 0, (mSH, I, L))) rfl ?_
    refine x_cell (a := 0) (b := k) rfl rfl (by omega) (by omega) ?_
    show mWP mTb_ mFT ro (d + 4, 52, 103, [some (.ref 10), some (.ref 6), some (.int (nI kd)), some (.int la), some (.int (nI k)), o5], [.int (nI (0 * 17 + k)), .int 153, .ref 10], 0, 0, (mSH, I, L)) _
    refine s_xfq_6 ?_
    refine mCall (s2 := (d + 3, 56, 0, [some (.ref 10), some (.int (nI 153)), some (.int (nI (0 * 17 + k))), some (.int (nI k)), some (.int 0), none], [], 0, 0, (mSH, I, L))) rfl ?_
    have rtb : ∀ x, x ∈ bt_rt (ct_cc T B kd g pe) T.1.2.1 k → 0 + x.1 < bt_U := fun x hx => by
      have := (bt_rt_b hV k x hx).1
      omega
    have ok := bt_topok rtb
    have w := (E 0 k (by omega) (by omega)).1
    rw [Nat.sub_zero] at w
    refine x_joinN (v := 0) (f := bt_pre k 0) R (by omega) (by omega) (by omega) (fun y => rfl) rfl (bt_topok (fun x hx => ?_)) ok.le1 ok.le2 C w (fun h => ⟨k, _, rfl, rfl, Or.inl ⟨rfl, h, rfl⟩⟩) (fun h => ⟨k, _, rfl, rfl, Or.inr ⟨rfl, h, rfl⟩⟩) (fun J G R2 C2 => ?_)
    · have := (bt_al_b hV _ _ _ x hx).1
      omega
    · refine mB 2 (s2 := (d + 4, 52, 78, [some (.ref 10), some (.ref 6), some (.int (nI kd)), some (.int la), some (.int (nI k + 1)), o5], [], 0, 0, (mSH, J, L))) rfl ?_
      rw [nI_1]
      refine ih (k + 1) (by omega) J _ (fun c hc => (G.1 c hc).trans (F c hc)) R2 (fun a b ha hb => (E a b ha hb).fr G (by omega)) ?_
      unfold bs_R
      rw [bt_root hV hnV]
      exact C2
/-- the search is filled -/
theorem x_fill_6 {ro : Nat → Nat × (Nat → Int32)} {Q : mPo} {d : Nat} {I : Nat → Nat → Int32} {L : Nat → Nat → Int64} {T : ct_S} {B : ct_B} {kd g pe : Nat} (hT : ct_So T) (hS : cl_S T I) (hB0 : cl_B 6 B I) (hBo : ct_Bo B) (hJ : cl_J 9 g pe I) (hg : ct_Jo g pe) (hk : kd < 2 ^ 31) (hR : mRk I) (hq : ∀ J, mFr mSS I J → mRk J → bs_W T B kd g pe J → Q none (mSH, J, L)) : mWP mTb_ mFT ro (d + 4, 52, 0, [some (.ref 10), some (.ref 6), some (.int (nI kd)), none, none, none], [], 0, 0, (mSH, I, L)) Q := by
  have s16 := hT.1
  have n8 := hT.2.1
  have F : mFr mSS I (mFl (mFl (mFl (mFl I 12 154 1000000000) 13 154 1000000000) 20 154 0) 21 154 0) := mFr.fl (by rfl) (mFr.fl (by rfl) (mFr.fl (by rfl) (mFr.fl (by rfl) mFr.rf)))
  have R : mRk (mFl (mFl (mFl (mFl I 12 154 1000000000) 13 154 1000000000) 20 154 0) 21 154 0) := mRk.fl (mRk.fl (mRk.fl (mRk.fl hR (by rfl) (by rfl)) (by rfl) (by rfl)) (by rfl) (by rfl)) (by rfl) (by rfl)
  have E : ∀ x, x < 154 → bs_N (mFl (mFl (mFl (mFl I 12 154 1000000000) 13 154 1000000000) 20 154 0) 21 154 0) x bt_0 := fun x hx => bs_fl hx
  refine s_xf0_6 (fun c => ?_) (fun c => ?_)
  · generalize mFl (mFl (mFl (mFl I 12 154 1000000000) 13 154 1000000000) 20 154 0) 21 154 0 = H at F R E ⊢
    rw [hS.2.1] at c ⊢
    obtain ⟨m, hm⟩ : ∃ m, T.1.2.1 = m + 1 := ⟨T.1.2.1 - 1, by
      rcases Nat.eq_zero_or_pos T.1.2.1 with e | e
      · rw [e] at c
        exact absurd c (by decide)
      · omega⟩
    rw [hm, nI_sp]
    refine mCall (s2 := (d + 3, 54, 0, [some (.ref 10), some (.int (nI m)), none, none], [], 0, 0, (mSH, H, L))) rfl ?_
    refine mB 2 (s2 := (d + 3, 54, 2, [some (.ref 10), some (.int (nI m)), some (.int (nI 0)), none], [], 0, 0, (mSH, H, L))) rfl ?_
    refine l_xeb (d := d + 1) hT hm (hS.fr F rfl rfl rfl rfl rfl).1 (fun J F1 R1 E1 => ?_) (T.1.1 + 1) 0 (by omega) H none mFr.rf R ⟨fun b hb => absurd hb (Nat.not_lt_zero b), fun x hx _ => E x hx⟩
    have F2 : mFr mSS I J := fun c hc => (F1 c hc).trans (F c hc)
    refine mB 2 (s2 := (d + 4, 52, 30, [some (.ref 10), some (.ref 6), some (.int (nI kd)), some (.int (nI m)), some (.int (nI m)), none], [], 0, 0, (mSH, J, L))) rfl ?_
    have em : nI m = nI T.1.2.1 - 1 := by rw [hm, nI_sp]
    rw [em]
    refine l_xfo_6 hT hS hB0 hBo hJ hg hk (fun J2 o5 F3 R3 E3 => ?_) T.1.2.1 (Nat.le_refl _) J none F2 R1 E1.o
    exact l_xfr_6 hT hS hB0 hBo hJ hg hk (by omega) (fun J3 F4 R4 W => hq J3 F4 R4 ⟨fun z => by omega, fun _ => W⟩) T.1.1 0 (by omega) J2 o5 F3 R3 (fun a b ha hb => E3.1 a b (Nat.zero_le a) ha hb) (bs_C0 (E3.2 153 (by omega) (Or.inl rfl)))
  · refine hq _ F R ⟨fun _ => E, fun z => absurd ?_ c⟩
    obtain ⟨m, hm⟩ : ∃ m, T.1.2.1 = m + 1 := ⟨T.1.2.1 - 1, by omega⟩
    rw [hS.2.1, hm, nI_sp]
    exact nI_le (Nat.zero_le m) (by omega)
theorem s_xfi_7 {ro : Nat → Nat × (Nat → Int32)} {Q : mPo} {d : Nat} {I : Nat → Nat → Int32} {L : Nat → Nat → Int64} {kd la jj ii : Int32}  (h1 : ((I 2 1) ≤ ii) → mWP mTb_ mFT ro (d + 4, 52, 30, [some (.ref 10), some (.ref 7), some (.int kd), some (.int la), some (.int (jj + (-1))), some (.int ii)], [], 0, 0, (mSH, I, L)) Q) (h2 : ¬ ((I 2 1) ≤ ii) → mWP mTb_ mFT ro (d + 4, 52, 60, [some (.ref 10), some (.ref 7), some (.int kd), some (.int la), some (.int jj), some (.int ii)], [.int ii, .int jj, .int kd, .ref 7, .ref 10], 0, 0, (mSH, I, L)) Q) : mWP mTb_ mFT ro (d + 4, 52, 38, [some (.ref 10), some (.ref 7), some (.int kd), some (.int la), some (.int jj), some (.int ii)], [], 0, 0, (mSH, I, L)) Q := by
  refine mB 4 (s2 := (d + 4, 52, 47, [some (.ref 10), some (.ref 7), some (.int kd), some (.int la), some (.int jj), some (.int ii)], [.ref 2, .int ii], 0, 0, (mSH, I, L))) rfl ?_
  refine mCall (s2 := (d + 3, 39, 0, [some (.ref 2)], [], 0, 0, (mSH, I, L))) rfl ?_
  refine mB 2 (s2 := (d + 3, 39, 4, [some (.ref 2)], [.int (I 2 1)], 0, 0, (mSH, I, L))) rfl ?_
  refine mRt (r := (some (.int (I 2 1)))) (h := (mSH, I, L)) rfl (mRet_int rfl) ?_
  show mWP mTb_ mFT ro (d + 4, 52, 50, [some (.ref 10), some (.ref 7), some (.int kd), some (.int la), some (.int jj), some (.int ii)], [.int (I 2 1), .int ii], 0, 0, (mSH, I, L)) _
  refine mBr (s2 := (d + 4, 52, 69, [some (.ref 10), some (.ref 7), some (.int kd), some (.int la), some (.int jj), some (.int ii)], [], 0, 0, (mSH, I, L))) (s3 := (d + 4, 52, 53, [some (.ref 10), some (.ref 7), some (.int kd), some (.int la), some (.int jj), some (.int ii)], [], 0, 0, (mSH, I, L))) rfl (fun c0 => ?_) (fun c0 => ?_)
  · refine mB 2 (s2 := (d + 4, 52, 30, [some (.ref 10), some (.ref 7), some (.int kd), some (.int la), some (.int (jj + (-1))), some (.int ii)], [], 0, 0, (mSH, I, L))) rfl ?_
    exact h1 (of_decide_eq_true c0)
  · refine mB 5 (s2 := (d + 4, 52, 60, [some (.ref 10), some (.ref 7), some (.int kd), some (.int la), some (.int jj), some (.int ii)], [.int ii, .int jj, .int kd, .ref 7, .ref 10], 0, 0, (mSH, I, L))) rfl ?_
    exact h2 (of_decide_eq_false c0)
theorem s_xfo_7 {ro : Nat → Nat × (Nat → Int32)} {Q : mPo} {d : Nat} {I : Nat → Nat → Int32} {L : Nat → Nat → Int64} {kd la jj : Int32} {o5 : Option Value}  (h1 : (jj < 0) → mWP mTb_ mFT ro (d + 4, 52, 78, [some (.ref 10), some (.ref 7), some (.int kd), some (.int la), some (.int 0), o5], [], 0, 0, (mSH, I, L)) Q) (h2 : ¬ (jj < 0) → mWP mTb_ mFT ro (d + 4, 52, 38, [some (.ref 10), some (.ref 7), some (.int kd), some (.int la), some (.int jj), some (.int 0)], [], 0, 0, (mSH, I, L)) Q) : mWP mTb_ mFT ro (d + 4, 52, 30, [some (.ref 10), some (.ref 7), some (.int kd), some (.int la), some (.int jj), o5], [], 0, 0, (mSH, I, L)) Q := by
  refine mB 1 (s2 := (d + 4, 52, 32, [some (.ref 10), some (.ref 7), some (.int kd), some (.int la), some (.int jj), o5], [.int jj], 0, 0, (mSH, I, L))) rfl ?_
  refine mBr (s2 := (d + 4, 52, 75, [some (.ref 10), some (.ref 7), some (.int kd), some (.int la), some (.int jj), o5], [], 0, 0, (mSH, I, L))) (s3 := (d + 4, 52, 35, [some (.ref 10), some (.ref 7), some (.int kd), some (.int la), some (.int jj), o5], [], 0, 0, (mSH, I, L))) rfl (fun c0 => ?_) (fun c0 => ?_)
  · refine mB 2 (s2 := (d + 4, 52, 78, [some (.ref 10), some (.ref 7), some (.int kd), some (.int la), some (.int 0), o5], [], 0, 0, (mSH, I, L))) rfl ?_
    exact h1 (of_decide_eq_true c0)
  · refine mB 2 (s2 := (d + 4, 52, 38, [some (.ref 10), some (.ref 7), some (.int kd), some (.int la), some (.int jj), some (.int 0)], [], 0, 0, (mSH, I, L))) rfl ?_
    exact h2 (of_decide_eq_false c0)
theorem s_xfr_7 {ro : Nat → Nat × (Nat → Int32)} {Q : mPo} {d : Nat} {I : Nat → Nat → Int32} {L : Nat → Nat → Int64} {kd la ii : Int32} {o5 : Option Value}  (h1 : ((I 2 1) ≤ ii) → Q none (mSH, I, L)) (h2 : ¬ ((I 2 1) ≤ ii) → mWP mTb_ mFT ro (d + 4, 52, 100, [some (.ref 10), some (.ref 7), some (.int kd), some (.int la), some (.int ii), o5], [.int ii, .int 0, .int 153, .ref 10], 0, 0, (mSH, I, L)) Q) : mWP mTb_ mFT ro (d + 4, 52, 78, [some (.ref 10), some (.ref 7), some (.int kd), some (.int la), some (.int ii), o5], [], 0, 0, (mSH, I, L)) Q := by
  refine mB 4 (s2 := (d + 4, 52, 87, [some (.ref 10), some (.ref 7), some (.int kd), some (.int la), some (.int ii), o5], [.ref 2, .int ii], 0, 0, (mSH, I, L))) rfl ?_
  refine mCall (s2 := (d + 3, 39, 0, [some (.ref 2)], [], 0, 0, (mSH, I, L))) rfl ?_
  refine mB 2 (s2 := (d + 3, 39, 4, [some (.ref 2)], [.int (I 2 1)], 0, 0, (mSH, I, L))) rfl ?_
  refine mRt (r := (some (.int (I 2 1)))) (h := (mSH, I, L)) rfl (mRet_int rfl) ?_
  show mWP mTb_ mFT ro (d + 4, 52, 90, [some (.ref 10), some (.ref 7), some (.int kd), some (.int la), some (.int ii), o5], [.int (I 2 1), .int ii], 0, 0, (mSH, I, L)) _
  refine mBr (s2 := (d + 4, 52, 115, [some (.ref 10), some (.ref 7), some (.int kd), some (.int la), some (.int ii), o5], [], 0, 0, (mSH, I, L))) (s3 := (d + 4, 52, 93, [some (.ref 10), some (.ref 7), some (.int kd), some (.int la), some (.int ii), o5], [], 0, 0, (mSH, I, L))) rfl (fun c0 => ?_) (fun c0 => ?_)
  · refine mRt (r := none) (h := (mSH, I, L)) rfl rfl ?_
    exact h1 (of_decide_eq_true c0)
  · refine mB 4 (s2 := (d + 4, 52, 100, [some (.ref 10), some (.ref 7), some (.int kd), some (.int la), some (.int ii), o5], [.int ii, .int 0, .int 153, .ref 10], 0, 0, (mSH, I, L))) rfl ?_
    exact h2 (of_decide_eq_false c0)
theorem s_xfq_7 {ro : Nat → Nat × (Nat → Int32)} {Q : mPo} {d : Nat} {I : Nat → Nat → Int32} {L : Nat → Nat → Int64} {kd la ii x : Int32} {o5 : Option Value}  (h1 : mWP mTb_ mFT ro (d + 4, 52, 106, [some (.ref 10), some (.ref 7), some (.int kd), some (.int la), some (.int ii), o5], [.int 0, .int ii, .int x, .int 153, .ref 10], 0, 0, (mSH, I, L)) Q) : mWP mTb_ mFT ro (d + 4, 52, 103, [some (.ref 10), some (.ref 7), some (.int kd), some (.int la), some (.int ii), o5], [.int x, .int 153, .ref 10], 0, 0, (mSH, I, L)) Q := by
  refine mB 2 (s2 := (d + 4, 52, 106, [some (.ref 10), some (.ref 7), some (.int kd), some (.int la), some (.int ii), o5], [.int 0, .int ii, .int x, .int 153, .ref 10], 0, 0, (mSH, I, L))) rfl ?_
  exact h1
theorem s_xf0_7 {ro : Nat → Nat × (Nat → Int32)} {Q : mPo} {d : Nat} {I : Nat → Nat → Int32} {L : Nat → Nat → Int64} {kd : Int32}  (h1 : ((0 : Int32) ≤ ((I 4 1) - 1)) → mWP mTb_ mFT ro (d + 4, 52, 24, [some (.ref 10), some (.ref 7), some (.int kd), some (.int ((I 4 1) - 1)), none, none], [.int ((I 4 1) - 1), .ref 10], 0, 0, (mSH, (mFl (mFl (mFl (mFl I 12 154 1000000000) 13 154 1000000000) 20 154 0) 21 154 0), L)) Q) (h2 : ¬ ((0 : Int32) ≤ ((I 4 1) - 1)) → Q none (mSH, (mFl (mFl (mFl (mFl I 12 154 1000000000) 13 154 1000000000) 20 154 0) 21 154 0), L)) : mWP mTb_ mFT ro (d + 4, 52, 0, [some (.ref 10), some (.ref 7), some (.int kd), none, none, none], [], 0, 0, (mSH, I, L)) Q := by
  refine mB 1 (s2 := (d + 4, 52, 1, [some (.ref 10), some (.ref 7), some (.int kd), none, none, none], [.ref 10], 0, 0, (mSH, I, L))) rfl ?_
  refine mCall (s2 := (d + 3, 53, 0, [some (.ref 10)], [], 0, 0, (mSH, I, L))) rfl ?_
  refine mB 3 (s2 := (d + 3, 53, 5, [some (.ref 10)], [.int 0, .ref 11], 0, 0, (mSH, I, L))) rfl ?_
  refine mRq (s2 := (d + 3, 53, 6, [some (.ref 10)], [.ref 12], 0, 0, (mSH, I, L))) rfl (by decide) ?_
  refine mB 1 (s2 := (d + 3, 53, 8, [some (.ref 10)], [.int 1000000000, .ref 12], 0, 0, (mSH, I, L))) rfl ?_
  refine mCall (s2 := (d + 2, 166, 0, [some (.ref 12), some (.int 1000000000), none, none], [], 0, 0, (mSH, I, L))) rfl ?_
  refine w_fill_12 ?_
  show mWP mTb_ mFT ro (d + 3, 53, 11, [some (.ref 10)], [], 0, 0, (mSH, (mFl I 12 154 1000000000), L)) _
  refine mB 3 (s2 := (d + 3, 53, 16, [some (.ref 10)], [.int 1, .ref 11], 0, 0, (mSH, (mFl I 12 154 1000000000), L))) rfl ?_
  refine mRq (s2 := (d + 3, 53, 17, [some (.ref 10)], [.ref 13], 0, 0, (mSH, (mFl I 12 154 1000000000), L))) rfl (by decide) ?_
  refine mB 1 (s2 := (d + 3, 53, 19, [some (.ref 10)], [.int 1000000000, .ref 13], 0, 0, (mSH, (mFl I 12 154 1000000000), L))) rfl ?_
  refine mCall (s2 := (d + 2, 166, 0, [some (.ref 13), some (.int 1000000000), none, none], [], 0, 0, (mSH, (mFl I 12 154 1000000000), L))) rfl ?_
  refine w_fill_13 ?_
  show mWP mTb_ mFT ro (d + 3, 53, 22, [some (.ref 10)], [], 0, 0, (mSH, (mFl (mFl I 12 154 1000000000) 13 154 1000000000), L)) _
  refine mB 3 (s2 := (d + 3, 53, 27, [some (.ref 10)], [.int 0, .ref 20], 0, 0, (mSH, (mFl (mFl I 12 154 1000000000) 13 154 1000000000), L))) rfl ?_
  refine mCall (s2 := (d + 2, 166, 0, [some (.ref 20), some (.int 0), none, none], [], 0, 0, (mSH, (mFl (mFl I 12 154 1000000000) 13 154 1000000000), L))) rfl ?_
  refine w_fill_20 ?_
  show mWP mTb_ mFT ro (d + 3, 53, 30, [some (.ref 10)], [], 0, 0, (mSH, (mFl (mFl (mFl I 12 154 1000000000) 13 154 1000000000) 20 154 0), L)) _
  refine mB 3 (s2 := (d + 3, 53, 35, [some (.ref 10)], [.int 0, .ref 21], 0, 0, (mSH, (mFl (mFl (mFl I 12 154 1000000000) 13 154 1000000000) 20 154 0), L))) rfl ?_
  refine mCall (s2 := (d + 2, 166, 0, [some (.ref 21), some (.int 0), none, none], [], 0, 0, (mSH, (mFl (mFl (mFl I 12 154 1000000000) 13 154 1000000000) 20 154 0), L))) rfl ?_
  refine w_fill_21 ?_
  show mWP mTb_ mFT ro (d + 3, 53, 38, [some (.ref 10)], [], 0, 0, (mSH, (mFl (mFl (mFl (mFl I 12 154 1000000000) 13 154 1000000000) 20 154 0) 21 154 0), L)) _
  refine mRt (r := none) (h := (mSH, (mFl (mFl (mFl (mFl I 12 154 1000000000) 13 154 1000000000) 20 154 0) 21 154 0), L)) rfl rfl ?_
  show mWP mTb_ mFT ro (d + 4, 52, 4, [some (.ref 10), some (.ref 7), some (.int kd), none, none, none], [], 0, 0, (mSH, (mFl (mFl (mFl (mFl I 12 154 1000000000) 13 154 1000000000) 20 154 0) 21 154 0), L)) _
  refine mB 3 (s2 := (d + 4, 52, 11, [some (.ref 10), some (.ref 7), some (.int kd), none, none, none], [.ref 4], 0, 0, (mSH, (mFl (mFl (mFl (mFl I 12 154 1000000000) 13 154 1000000000) 20 154 0) 21 154 0), L))) rfl ?_
  refine mCall (s2 := (d + 3, 39, 0, [some (.ref 4)], [], 0, 0, (mSH, (mFl (mFl (mFl (mFl I 12 154 1000000000) 13 154 1000000000) 20 154 0) 21 154 0), L))) rfl ?_
  refine mB 2 (s2 := (d + 3, 39, 4, [some (.ref 4)], [.int (I 4 1)], 0, 0, (mSH, (mFl (mFl (mFl (mFl I 12 154 1000000000) 13 154 1000000000) 20 154 0) 21 154 0), L))) rfl ?_
  refine mRt (r := (some (.int (I 4 1)))) (h := (mSH, (mFl (mFl (mFl (mFl I 12 154 1000000000) 13 154 1000000000) 20 154 0) 21 154 0), L)) rfl (mRet_int rfl) ?_
  show mWP mTb_ mFT ro (d + 4, 52, 14, [some (.ref 10), some (.ref 7), some (.int kd), none, none, none], [.int (I 4 1)], 0, 0, (mSH, (mFl (mFl (mFl (mFl I 12 154 1000000000) 13 154 1000000000) 20 154 0) 21 154 0), L)) _
  refine mB 4 (s2 := (d + 4, 52, 18, [some (.ref 10), some (.ref 7), some (.int kd), some (.int ((I 4 1) - 1)), none, none], [.int ((I 4 1) - 1)], 0, 0, (mSH, (mFl (mFl (mFl (mFl I 12 154 1000000000) 13 154 1000000000) 20 154 0) 21 154 0), L))) rfl ?_
  refine mBr (s2 := (d + 4, 52, 22, [some (.ref 10), some (.ref 7), some (.int kd), some (.int ((I 4 1) - 1)), none, none], [], 0, 0, (mSH, (mFl (mFl (mFl (mFl I 12 154 1000000000) 13 154 1000000000) 20 154 0) 21 154 0), L))) (s3 := (d + 4, 52, 21, [some (.ref 10), some (.ref 7), some (.int kd), some (.int ((I 4 1) - 1)), none, none], [], 0, 0, (mSH, (mFl (mFl (mFl (mFl I 12 154 1000000000) 13 154 1000000000) 20 154 0) 21 154 0), L))) rfl (fun c0 => ?_) (fun c0 => ?_)
  · refine mB 2 (s2 := (d + 4, 52, 24, [some (.ref 10), some (.ref 7), some (.int kd), some (.int ((I 4 1) - 1)), none, none], [.int ((I 4 1) - 1), .ref 10], 0, 0, (mSH, (mFl (mFl (mFl (mFl I 12 154 1000000000) 13 154 1000000000) 20 154 0) 21 154 0), L))) rfl ?_
    exact h1 (of_decide_eq_true c0)
  · refine mRt (r := none) (h := (mSH, (mFl (mFl (mFl (mFl I 12 154 1000000000) 13 154 1000000000) 20 154 0) 21 154 0), L)) rfl rfl ?_
    exact h2 (of_decide_eq_false c0)
theorem l_xfi_7 {ro : Nat → Nat × (Nat → Int32)} {Q : mPo} {d : Nat} {L : Nat → Nat → Int64} {T : ct_S} {B : ct_B} {kd g pe : Nat} {I0 : Nat → Nat → Int32} {la : Int32} {j : Nat} (hT : ct_So T) (hS : cl_S T I0) (hB0 : cl_B 7 B I0) (hBo : ct_Bo B) (hJ : cl_J 9 g pe I0) (hg : ct_Jo g pe) (hk : kd < 2 ^ 31) (hj : j < T.1.2.1) (hq : ∀ (J : Nat → Nat → Int32) (o5 : Option Value), mFr mSS I0 J → mRk J → bs_I T B kd g pe J j T.1.1 → mWP mTb_ mFT ro (d + 4, 52, 30, [some (.ref 10), some (.ref 7), some (.int (nI kd)), some (.int la), some (.int (nI j + (-1))), o5], [], 0, 0, (mSH, J, L)) Q) : ∀ (e i : Nat), i + e = T.1.1 → ∀ (I : Nat → Nat → Int32), mFr mSS I0 I → mRk I → bs_I T B kd g pe I j i → mWP mTb_ mFT ro (d + 4, 52, 38, [some (.ref 10), some (.ref 7), some (.int (nI kd)), some (.int la), some (.int (nI j)), some (.int (nI i))], [], 0, 0, (mSH, I, L)) Q := by
  have s16 := hT.1
  have n8 := hT.2.1
  intro e
  induction e with
  | zero =>
    intro i he I F R E
    have e : i = T.1.1 := by omega
    subst e
    have z : I 2 1 ≤ nI T.1.1 := by
      rw [F 2 rfl, hS.1]
      exact nI_le (Nat.le_refl _) (by omega)
    exact s_xfi_7 (fun _ => hq I _ F R E) (fun c => absurd z c)
  | succ e ih =>
    intro i he I F R E
    have z : ¬ I 2 1 ≤ nI i := by
      rw [F 2 rfl, hS.1]
      exact nI_ge (by omega) (by omega)
    refine s_xfi_7 (fun c => absurd c z) (fun _ => ?_)
    refine mCall (s2 := (d + 3, 55, 0, [some (.ref 10), some (.ref 7), some (.int (nI kd)), some (.int (nI j)), some (.int (nI i)), none, none], [], 0, 0, (mSH, I, L))) rfl ?_
    obtain ⟨r, hr⟩ : ∃ r, T.1.2.1 - j = r + 1 := ⟨T.1.2.1 - j - 1, by omega⟩
    have er : T.1.2.1 - (j + 1) = r := by omega
    refine x_fcell_7 (r := r) hT (hS.fr F rfl rfl rfl rfl rfl) (hB0.fr F rfl) hBo (hJ.fr F rfl) hg hk hj (by omega) (bt_nV (by omega)) R (E.2 _ (by omega) (by omega)) (fun p hp => ?_) (fun J G R2 C => ?_)
    · have w := (E.1 (j + 1) (i + (2 * p + 1)) (by omega) (by omega) hp).1
      rw [er] at w
      exact w
    · refine mB 2 (s2 := (d + 4, 52, 38, [some (.ref 10), some (.ref 7), some (.int (nI kd)), some (.int la), some (.int (nI j)), some (.int (nI i + 1))], [], 0, 0, (mSH, J, L))) rfl ?_
      rw [nI_1]
      exact ih (i + 1) (by omega) J (fun c hc => (G.1 c hc).trans (F c hc)) R2 (E.s hT hj (by omega) hr G C)
theorem l_xfo_7 {ro : Nat → Nat × (Nat → Int32)} {Q : mPo} {d : Nat} {L : Nat → Nat → Int64} {T : ct_S} {B : ct_B} {kd g pe : Nat} {I0 : Nat → Nat → Int32} {la : Int32} (hT : ct_So T) (hS : cl_S T I0) (hB0 : cl_B 7 B I0) (hBo : ct_Bo B) (hJ : cl_J 9 g pe I0) (hg : ct_Jo g pe) (hk : kd < 2 ^ 31) (hq : ∀ (J : Nat → Nat → Int32) (o5 : Option Value), mFr mSS I0 J → mRk J → bs_O T B kd g pe J 0 → mWP mTb_ mFT ro (d + 4, 52, 78, [some (.ref 10), some (.ref 7), some (.int (nI kd)), some (.int la), some (.int (0)), o5], [], 0, 0, (mSH, J, L)) Q) : ∀ (m : Nat), m ≤ T.1.2.1 → ∀ (I : Nat → Nat → Int32) (o5 : Option Value), mFr mSS I0 I → mRk I → bs_O T B kd g pe I m → mWP mTb_ mFT ro (d + 4, 52, 30, [some (.ref 10), some (.ref 7), some (.int (nI kd)), some (.int la), some (.int (nI m - 1)), o5], [], 0, 0, (mSH, I, L)) Q := by
  have n8 := hT.2.1
  intro m
  induction m with
  | zero =>
    intro hm I o5 F R E
    exact s_xfo_7 (fun _ => hq I _ F R E) (fun c => absurd (by decide) c)
  | succ m ih =>
    intro hm I o5 F R E
    rw [nI_sp]
    refine s_xfo_7 (fun c => absurd c (nI_pos (by omega))) (fun _ => ?_)
    refine l_xfi_7 hT (hS.fr F rfl rfl rfl rfl rfl) (hB0.fr F rfl) hBo (hJ.fr F rfl) hg hk (by omega) (fun J o5 G R2 E2 => ?_) T.1.1 0 (by omega) I mFr.rf R E.toI
    rw [nI_m1]
    exact ih (by omega) J o5 (fun c hc => (G c hc).trans (F c hc)) R2 (E2.o hT hg (by omega))
theorem l_xfr_7 {ro : Nat → Nat × (Nat → Int32)} {Q : mPo} {d : Nat} {L : Nat → Nat → Int64} {T : ct_S} {B : ct_B} {kd g pe : Nat} {I0 : Nat → Nat → Int32} {la : Int32} (hT : ct_So T) (hS : cl_S T I0) (hB0 : cl_B 7 B I0) (hBo : ct_Bo B) (hJ : cl_J 9 g pe I0) (hg : ct_Jo g pe) (hk : kd < 2 ^ 31) (hn : 0 < T.1.2.1) (hq : ∀ J, mFr mSS I0 J → mRk J → ((∀ a b, a ≤ T.1.2.1 → b ≤ T.1.1 → bs_G T B kd g pe J a b) ∧ bs_R T B kd g pe J T.1.1) → Q none (mSH, J, L)) : ∀ (e k : Nat), k + e = T.1.1 → ∀ (I : Nat → Nat → Int32) (o5 : Option Value), mFr mSS I0 I → mRk I → (∀ a b, a ≤ T.1.2.1 → b ≤ T.1.1 → bs_G T B kd g pe I a b) → bs_R T B kd g pe I k → mWP mTb_ mFT ro (d + 4, 52, 78, [some (.ref 10), some (.ref 7), some (.int (nI kd)), some (.int la), some (.int (nI k)), o5], [], 0, 0, (mSH, I, L)) Q := by
  have s16 := hT.1
  have n8 := hT.2.1
  have hV := ct_ccb (B := B) (kd := kd) hT hg
  have hnV := bt_nV n8
  intro e
  induction e with
  | zero =>
    intro k he I o5 F R E C
    have e : k = T.1.1 := by omega
    subst e
    have z : I 2 1 ≤ nI T.1.1 := by
      rw [F 2 rfl, hS.1]
      exact nI_le (Nat.le_refl _) (by omega)
    exact s_xfr_7 (fun _ => hq I F R ⟨E, C⟩) (fun c => absurd z c)
  | succ e ih =>
    intro k he I o5 F R E C
    have z : ¬ I 2 1 ≤ nI k := by
      rw [F 2 rfl, hS.1]
      exact nI_ge (by omega) (by omega)
    refine s_xfr_7 (fun c => absurd c z) (fun _ => ?_)
    refine mCall (s2 := (d + 3, 59, 0, [some (.int 0), some (.int (nI k)), none], [], 0, 0, (mSH, I, L))) rfl ?_
    refine x_cell (a := 0) (b := k) rfl rfl (by omega) (by omega) ?_
    show mWP mTb_ mFT ro (d + 4, 52, 103, [some (.ref 10), some (.ref 7), some (.int (nI kd)), some (.int la), some (.int (nI k)), o5], [.int (nI (0 * 17 + k)), .int 153, .ref 10], 0, 0, (mSH, I, L)) _
    refine s_xfq_7 ?_
    refine mCall (s2 := (d + 3, 56, 0, [some (.ref 10), some (.int (nI 153)), some (.int (nI (0 * 17 + k))), some (.int (nI k)), some (.int 0), none], [], 0, 0, (mSH, I, L))) rfl ?_
    have rtb : ∀ x, x ∈ bt_rt (ct_cc T B kd g pe) T.1.2.1 k → 0 + x.1 < bt_U := fun x hx => by
      have := (bt_rt_b hV k x hx).1
      omega
    have ok := bt_topok rtb
    have w := (E 0 k (by omega) (by omega)).1
    rw [Nat.sub_zero] at w
    refine x_joinN (v := 0) (f := bt_pre k 0) R (by omega) (by omega) (by omega) (fun y => rfl) rfl (bt_topok (fun x hx => ?_)) ok.le1 ok.le2 C w (fun h => ⟨k, _, rfl, rfl, Or.inl ⟨rfl, h, rfl⟩⟩) (fun h => ⟨k, _, rfl, rfl, Or.inr ⟨rfl, h, rfl⟩⟩) (fun J G R2 C2 => ?_)
    · have := (bt_al_b hV _ _ _ x hx).1
      omega
    · refine mB 2 (s2 := (d + 4, 52, 78, [some (.ref 10), some (.ref 7), some (.int (nI kd)), some (.int la), some (.int (nI k + 1)), o5], [], 0, 0, (mSH, J, L))) rfl ?_
      rw [nI_1]
      refine ih (k + 1) (by omega) J _ (fun c hc => (G.1 c hc).trans (F c hc)) R2 (fun a b ha hb => (E a b ha hb).fr G (by omega)) ?_
      unfold bs_R
      rw [bt_root hV hnV]
      exact C2
/-- the search is filled -/
theorem x_fill_7 {ro : Nat → Nat × (Nat → Int32)} {Q : mPo} {d : Nat} {I : Nat → Nat → Int32} {L : Nat → Nat → Int64} {T : ct_S} {B : ct_B} {kd g pe : Nat} (hT : ct_So T) (hS : cl_S T I) (hB0 : cl_B 7 B I) (hBo : ct_Bo B) (hJ : cl_J 9 g pe I) (hg : ct_Jo g pe) (hk : kd < 2 ^ 31) (hR : mRk I) (hq : ∀ J, mFr mSS I J → mRk J → bs_W T B kd g pe J → Q none (mSH, J, L)) : mWP mTb_ mFT ro (d + 4, 52, 0, [some (.ref 10), some (.ref 7), some (.int (nI kd)), none, none, none], [], 0, 0, (mSH, I, L)) Q := by
  have s16 := hT.1
  have n8 := hT.2.1
  have F : mFr mSS I (mFl (mFl (mFl (mFl I 12 154 1000000000) 13 154 1000000000) 20 154 0) 21 154 0) := mFr.fl (by rfl) (mFr.fl (by rfl) (mFr.fl (by rfl) (mFr.fl (by rfl) mFr.rf)))
  have R : mRk (mFl (mFl (mFl (mFl I 12 154 1000000000) 13 154 1000000000) 20 154 0) 21 154 0) := mRk.fl (mRk.fl (mRk.fl (mRk.fl hR (by rfl) (by rfl)) (by rfl) (by rfl)) (by rfl) (by rfl)) (by rfl) (by rfl)
  have E : ∀ x, x < 154 → bs_N (mFl (mFl (mFl (mFl I 12 154 1000000000) 13 154 1000000000) 20 154 0) 21 154 0) x bt_0 := fun x hx => bs_fl hx
  refine s_xf0_7 (fun c => ?_) (fun c => ?_)
  · generalize mFl (mFl (mFl (mFl I 12 154 1000000000) 13 154 1000000000) 20 154 0) 21 154 0 = H at F R E ⊢
    rw [hS.2.1] at c ⊢
    obtain ⟨m, hm⟩ : ∃ m, T.1.2.1 = m + 1 := ⟨T.1.2.1 - 1, by
      rcases Nat.eq_zero_or_pos T.1.2.1 with e | e
      · rw [e] at c
        exact absurd c (by decide)
      · omega⟩
    rw [hm, nI_sp]
    refine mCall (s2 := (d + 3, 54, 0, [some (.ref 10), some (.int (nI m)), none, none], [], 0, 0, (mSH, H, L))) rfl ?_
    refine mB 2 (s2 := (d + 3, 54, 2, [some (.ref 10), some (.int (nI m)), some (.int (nI 0)), none], [], 0, 0, (mSH, H, L))) rfl ?_
    refine l_xeb (d := d + 1) hT hm (hS.fr F rfl rfl rfl rfl rfl).1 (fun J F1 R1 E1 => ?_) (T.1.1 + 1) 0 (by omega) H none mFr.rf R ⟨fun b hb => absurd hb (Nat.not_lt_zero b), fun x hx _ => E x hx⟩
    have F2 : mFr mSS I J := fun c hc => (F1 c hc).trans (F c hc)
    refine mB 2 (s2 := (d + 4, 52, 30, [some (.ref 10), some (.ref 7), some (.int (nI kd)), some (.int (nI m)), some (.int (nI m)), none], [], 0, 0, (mSH, J, L))) rfl ?_
    have em : nI m = nI T.1.2.1 - 1 := by rw [hm, nI_sp]
    rw [em]
    refine l_xfo_7 hT hS hB0 hBo hJ hg hk (fun J2 o5 F3 R3 E3 => ?_) T.1.2.1 (Nat.le_refl _) J none F2 R1 E1.o
    exact l_xfr_7 hT hS hB0 hBo hJ hg hk (by omega) (fun J3 F4 R4 W => hq J3 F4 R4 ⟨fun z => by omega, fun _ => W⟩) T.1.1 0 (by omega) J2 o5 F3 R3 (fun a b ha hb => E3.1 a b (Nat.zero_le a) ha hb) (bs_C0 (E3.2 153 (by omega) (Or.inl rfl)))
  · refine hq _ F R ⟨fun _ => E, fun z => absurd ?_ c⟩
    obtain ⟨m, hm⟩ : ∃ m, T.1.2.1 = m + 1 := ⟨T.1.2.1 - 1, by omega⟩
    rw [hS.2.1, hm, nI_sp]
    exact nI_le (Nat.zero_le m) (by omega)
