/-! A cell of the search takes another in. Written by a program (wip/mk_c.py). -/
/-- a cell's two best: sums, and what is kept of them -/
def bs_P (P : Int32 → Int32 → List Nat → Prop) (I : Nat → Nat → Int32) (k : Nat) (b : bt_E × bt_E) : Prop := I 12 k = nI b.1.1 ∧ I 13 k = nI b.2.1 ∧ (b.1.1 < bt_U → P (I 15 k) (I 18 k) b.1.2) ∧ (b.2.1 < bt_U → P (I 16 k) (I 19 k) b.2.2)
/-- a cell's numbers -/
def bs_N (I : Nat → Nat → Int32) (k : Nat) (t : bt_T) : Prop := (I 12 k = nI t.1.1 ∧ I 13 k = nI t.2.1.1) ∧ I 20 k = nI t.2.2.1 ∧ I 21 k = nI t.2.2.2
/-- of the search only the cell k has changed -/
def bs_F (k : Nat) (I J : Nat → Nat → Int32) : Prop := (∀ q, mMem mSS q = false → J q = I q) ∧ ∀ q x, x ≠ k → J q x = I q x
section BS
variable {P : Int32 → Int32 → List Nat → Prop} {I J K : Nat → Nat → Int32} {k q : Nat} {b : bt_E × bt_E} {x : bt_E} {t u : bt_T} {v st rk : Int32}
theorem bs_F.rf : bs_F k I I := ⟨fun _ _ => rfl, fun _ _ _ => rfl⟩
theorem bs_F.tr (h : bs_F k I J) (g : bs_F k J K) : bs_F k I K := ⟨fun q hq => (g.1 q hq).trans (h.1 q hq), fun q x hx => (g.2 q x hx).trans (h.2 q x hx)⟩
theorem bs_F.up (hq : mMem mSS q = true) (h : bs_F k I J) : bs_F k I (mUp J q k v) := by
  refine ⟨fun c hc => ?_, fun c x hx => ?_⟩
  · rw [mUp_row (mMem_ne hc hq)]
    exact h.1 c hc
  · unfold mUp
    by_cases e : c = q
    · rw [if_pos e, if_neg hx]
      exact h.2 c x hx
    · rw [if_neg e]
      exact h.2 c x hx
theorem bs_F.m (h : bs_F k I J) : mFr mSS I J := h.1
theorem mUp_h : mUp I q k v q k = v := by
  unfold mUp
  rw [if_pos rfl, if_pos rfl]
theorem bs_of1 (h : bs_P P I k b) (hx : P st rk x.2) (hv : v = nI x.1) (hs : x.1 < b.1.1) : bs_P P (mUp (mUp (mUp (mUp (mUp (mUp I 13 k (I 12 k)) 16 k (I 15 k)) 19 k (I 18 k)) 12 k v) 15 k st) 18 k rk) k (bt_of b x) := by
  rw [bt_of1 hs]
  refine ⟨?_, ?_, fun _ => ?_, fun z => ?_⟩
  · rw [mUp_row (by omega), mUp_row (by omega), mUp_h]
    exact hv
  · rw [mUp_row (by omega), mUp_row (by omega), mUp_row (by omega), mUp_row (by omega), mUp_row (by omega), mUp_h]
    exact h.1
  · rw [mUp_row (show 15 ≠ 18 by omega), mUp_h, mUp_h]
    exact hx
  · rw [mUp_row (show 16 ≠ 18 by omega), mUp_row (show 16 ≠ 15 by omega), mUp_row (show 16 ≠ 12 by omega), mUp_row (show 16 ≠ 19 by omega), mUp_h, mUp_row (show 19 ≠ 18 by omega), mUp_row (show 19 ≠ 15 by omega), mUp_row (show 19 ≠ 12 by omega), mUp_h]
    exact h.2.2.1 z
theorem bs_of2 (h : bs_P P I k b) (hx : P st rk x.2) (hv : v = nI x.1) (hs : ¬ x.1 < b.1.1) (hs2 : x.1 < b.2.1) : bs_P P (mUp (mUp (mUp I 13 k v) 16 k st) 19 k rk) k (bt_of b x) := by
  rw [bt_of2 hs hs2]
  refine ⟨?_, ?_, fun z => ?_, fun _ => ?_⟩
  · rw [mUp_row (by omega), mUp_row (by omega), mUp_row (by omega)]
    exact h.1
  · rw [mUp_row (by omega), mUp_row (by omega), mUp_h]
    exact hv
  · rw [mUp_row (show 15 ≠ 19 by omega), mUp_row (show 15 ≠ 16 by omega), mUp_row (show 15 ≠ 13 by omega), mUp_row (show 18 ≠ 19 by omega), mUp_row (show 18 ≠ 16 by omega), mUp_row (show 18 ≠ 13 by omega)]
    exact h.2.2.1 z
  · rw [mUp_row (show 16 ≠ 19 by omega), mUp_h, mUp_h]
    exact hx
theorem bt_Ue : nI bt_U = 1000000000 := rfl
theorem bt_Ul : bt_U < 2 ^ 31 := by decide
end BS
theorem x_offer_0 {ro : Nat → Nat × (Nat → Int32)} {Q : mPo} {d : Nat} {I : Nat → Nat → Int32} {L : Nat → Nat → Int64} {P : Int32 → Int32 → List Nat → Prop} {c v1 v2 : Int32} {k : Nat} {b : bt_E × bt_E} {x : bt_E} (hR : mRk I) (hc : vp_in c 154) (hk : c.toNatClampNeg = k) (hP : bs_P P I k b) (hs : v1 = nI x.1) (b0 : x.1 < 2 ^ 31) (b1 : b.1.1 < 2 ^ 31) (b2 : b.2.1 < 2 ^ 31) (hx : P v2 0 x.2) (hq : ∀ J, bs_F k I J → mRk J → bs_P P J k (bt_of b x) → J 20 = I 20 → J 21 = I 21 → Q none (mSH, J, L))   : mWP mTb_ mFT ro (d + 1, 57, 0, [some (.ref 10), some (.int c), some (.int v1), some (.int v2), some (.int 0)], [], 0, 0, (mSH, I, L)) Q := by
  subst hk
  have l1 : I 12 c.toNatClampNeg ≤ v1 ↔ b.1.1 ≤ x.1 := by
    rw [hs, hP.1]
    exact nI_leI b1 b0
  have l2 : I 13 c.toNatClampNeg ≤ v1 ↔ b.2.1 ≤ x.1 := by
    rw [hs, hP.2.1]
    exact nI_leI b2 b0
  refine mB 4 (s2 := (d + 1, 57, 6, [some (.ref 10), some (.int c), some (.int v1), some (.int v2), some (.int 0)], [.int 0, .ref 11, .int v1], 0, 0, (mSH, I, L))) rfl ?_
  refine mRq (s2 := (d + 1, 57, 7, [some (.ref 10), some (.int c), some (.int v1), some (.int v2), some (.int 0)], [.ref 12, .int v1], 0, 0, (mSH, I, L))) rfl (by decide) ?_
  refine mB 1 (s2 := (d + 1, 57, 8, [some (.ref 10), some (.int c), some (.int v1), some (.int v2), some (.int 0)], [.int c, .ref 12, .int v1], 0, 0, (mSH, I, L))) rfl ?_
  refine mRq (s2 := (d + 1, 57, 9, [some (.ref 10), some (.int c), some (.int v1), some (.int v2), some (.int 0)], [.int (I 12 c.toNatClampNeg), .int v1], 0, 0, (mSH, I, L))) rfl (mVp_of hc) ?_
  refine mBr (s2 := (d + 1, 57, 55, [some (.ref 10), some (.int c), some (.int v1), some (.int v2), some (.int 0)], [], 0, 0, (mSH, I, L))) (s3 := (d + 1, 57, 12, [some (.ref 10), some (.int c), some (.int v1), some (.int v2), some (.int 0)], [], 0, 0, (mSH, I, L))) rfl (fun c0 => ?_) (fun c0 => ?_)
  · refine mB 4 (s2 := (d + 1, 57, 61, [some (.ref 10), some (.int c), some (.int v1), some (.int v2), some (.int 0)], [.int 1, .ref 11, .int v1], 0, 0, (mSH, I, L))) rfl ?_
    refine mRq (s2 := (d + 1, 57, 62, [some (.ref 10), some (.int c), some (.int v1), some (.int v2), some (.int 0)], [.ref 13, .int v1], 0, 0, (mSH, I, L))) rfl (by decide) ?_
    refine mB 1 (s2 := (d + 1, 57, 63, [some (.ref 10), some (.int c), some (.int v1), some (.int v2), some (.int 0)], [.int c, .ref 13, .int v1], 0, 0, (mSH, I, L))) rfl ?_
    refine mRq (s2 := (d + 1, 57, 64, [some (.ref 10), some (.int c), some (.int v1), some (.int v2), some (.int 0)], [.int (I 13 c.toNatClampNeg), .int v1], 0, 0, (mSH, I, L))) rfl (mVp_of hc) ?_
    refine mBr (s2 := (d + 1, 57, 77, [some (.ref 10), some (.int c), some (.int v1), some (.int v2), some (.int 0)], [], 0, 0, (mSH, I, L))) (s3 := (d + 1, 57, 67, [some (.ref 10), some (.int c), some (.int v1), some (.int v2), some (.int 0)], [], 0, 0, (mSH, I, L))) rfl (fun c1 => ?_) (fun c1 => ?_)
    · refine mRt (r := none) (h := (mSH, I, L)) rfl rfl ?_
      exact hq _ bs_F.rf hR (by rw [bt_of3 (Nat.not_lt.mpr (l1.mp (of_decide_eq_true c0))) (Nat.not_lt.mpr (l2.mp (of_decide_eq_true c1)))]; exact hP) rfl rfl
    · refine mB 6 (s2 := (d + 1, 57, 74, [some (.ref 10), some (.int c), some (.int v1), some (.int v2), some (.int 0)], [.int 0, .int v2, .int v1, .int c, .int 1, .ref 10], 0, 0, (mSH, I, L))) rfl ?_
      refine mCall (s2 := (d, 58, 0, [some (.ref 10), some (.int 1), some (.int c), some (.int v1), some (.int v2), some (.int 0)], [], 0, 0, (mSH, I, L))) rfl ?_
      refine mB 3 (s2 := (d, 58, 5, [some (.ref 10), some (.int 1), some (.int c), some (.int v1), some (.int v2), some (.int 0)], [.int 1, .ref 11], 0, 0, (mSH, I, L))) rfl ?_
      refine mRq (s2 := (d, 58, 6, [some (.ref 10), some (.int 1), some (.int c), some (.int v1), some (.int v2), some (.int 0)], [.ref 13], 0, 0, (mSH, I, L))) rfl (by decide) ?_
      refine mB 2 (s2 := (d, 58, 8, [some (.ref 10), some (.int 1), some (.int c), some (.int v1), some (.int v2), some (.int 0)], [.int v1, .int c, .ref 13], 0, 0, (mSH, I, L))) rfl ?_
      refine mRq (s2 := (d, 58, 9, [some (.ref 10), some (.int 1), some (.int c), some (.int v1), some (.int v2), some (.int 0)], [], 0, 0, (mSH, (mUp I 13 c.toNatClampNeg v1), L))) rfl (mVp_of hc) ?_
      refine mB 3 (s2 := (d, 58, 14, [some (.ref 10), some (.int 1), some (.int c), some (.int v1), some (.int v2), some (.int 0)], [.int 1, .ref 14], 0, 0, (mSH, (mUp I 13 c.toNatClampNeg v1), L))) rfl ?_
      refine mRq (s2 := (d, 58, 15, [some (.ref 10), some (.int 1), some (.int c), some (.int v1), some (.int v2), some (.int 0)], [.ref 16], 0, 0, (mSH, (mUp I 13 c.toNatClampNeg v1), L))) rfl (by decide) ?_
      refine mB 2 (s2 := (d, 58, 18, [some (.ref 10), some (.int 1), some (.int c), some (.int v1), some (.int v2), some (.int 0)], [.int v2, .int c, .ref 16], 0, 0, (mSH, (mUp I 13 c.toNatClampNeg v1), L))) rfl ?_
      refine mRq (s2 := (d, 58, 19, [some (.ref 10), some (.int 1), some (.int c), some (.int v1), some (.int v2), some (.int 0)], [], 0, 0, (mSH, (mUp (mUp I 13 c.toNatClampNeg v1) 16 c.toNatClampNeg v2), L))) rfl (mVp_of hc) ?_
      refine mB 3 (s2 := (d, 58, 24, [some (.ref 10), some (.int 1), some (.int c), some (.int v1), some (.int v2), some (.int 0)], [.int 1, .ref 17], 0, 0, (mSH, (mUp (mUp I 13 c.toNatClampNeg v1) 16 c.toNatClampNeg v2), L))) rfl ?_
      refine mRq (s2 := (d, 58, 25, [some (.ref 10), some (.int 1), some (.int c), some (.int v1), some (.int v2), some (.int 0)], [.ref 19], 0, 0, (mSH, (mUp (mUp I 13 c.toNatClampNeg v1) 16 c.toNatClampNeg v2), L))) rfl (by decide) ?_
      refine mB 2 (s2 := (d, 58, 28, [some (.ref 10), some (.int 1), some (.int c), some (.int v1), some (.int v2), some (.int 0)], [.int 0, .int c, .ref 19], 0, 0, (mSH, (mUp (mUp I 13 c.toNatClampNeg v1) 16 c.toNatClampNeg v2), L))) rfl ?_
      refine mRq (s2 := (d, 58, 29, [some (.ref 10), some (.int 1), some (.int c), some (.int v1), some (.int v2), some (.int 0)], [], 0, 0, (mSH, (mUp (mUp (mUp I 13 c.toNatClampNeg v1) 16 c.toNatClampNeg v2) 19 c.toNatClampNeg 0), L))) rfl (mVp_of hc) ?_
      refine mRt (r := none) (h := (mSH, (mUp (mUp (mUp I 13 c.toNatClampNeg v1) 16 c.toNatClampNeg v2) 19 c.toNatClampNeg 0), L)) rfl rfl ?_
      show mWP mTb_ mFT ro (d + 1, 57, 77, [some (.ref 10), some (.int c), some (.int v1), some (.int v2), some (.int 0)], [], 0, 0, (mSH, (mUp (mUp (mUp I 13 c.toNatClampNeg v1) 16 c.toNatClampNeg v2) 19 c.toNatClampNeg 0), L)) _
      refine mRt (r := none) (h := (mSH, (mUp (mUp (mUp I 13 c.toNatClampNeg v1) 16 c.toNatClampNeg v2) 19 c.toNatClampNeg 0), L)) rfl rfl ?_
      exact hq _ (bs_F.up (by rfl) (bs_F.up (by rfl) (bs_F.up (by rfl) bs_F.rf))) (mRk.b (mRk.up (mRk.up hR (by rfl) (by rfl)) (by rfl) (by rfl)) (Or.inl rfl)) (bs_of2 hP hx hs (Nat.not_lt.mpr (l1.mp (of_decide_eq_true c0))) (Nat.lt_of_not_le (mt l2.mpr (of_decide_eq_false c1)))) rfl rfl
  · refine mB 6 (s2 := (d + 1, 57, 20, [some (.ref 10), some (.int c), some (.int v1), some (.int v2), some (.int 0)], [.int 0, .ref 11, .int c, .int 1, .ref 10], 0, 0, (mSH, I, L))) rfl ?_
    refine mRq (s2 := (d + 1, 57, 21, [some (.ref 10), some (.int c), some (.int v1), some (.int v2), some (.int 0)], [.ref 12, .int c, .int 1, .ref 10], 0, 0, (mSH, I, L))) rfl (by decide) ?_
    refine mB 1 (s2 := (d + 1, 57, 22, [some (.ref 10), some (.int c), some (.int v1), some (.int v2), some (.int 0)], [.int c, .ref 12, .int c, .int 1, .ref 10], 0, 0, (mSH, I, L))) rfl ?_
    refine mRq (s2 := (d + 1, 57, 23, [some (.ref 10), some (.int c), some (.int v1), some (.int v2), some (.int 0)], [.int (I 12 c.toNatClampNeg), .int c, .int 1, .ref 10], 0, 0, (mSH, I, L))) rfl (mVp_of hc) ?_
    refine mB 3 (s2 := (d + 1, 57, 28, [some (.ref 10), some (.int c), some (.int v1), some (.int v2), some (.int 0)], [.int 0, .ref 14, .int (I 12 c.toNatClampNeg), .int c, .int 1, .ref 10], 0, 0, (mSH, I, L))) rfl ?_
    refine mRq (s2 := (d + 1, 57, 29, [some (.ref 10), some (.int c), some (.int v1), some (.int v2), some (.int 0)], [.ref 15, .int (I 12 c.toNatClampNeg), .int c, .int 1, .ref 10], 0, 0, (mSH, I, L))) rfl (by decide) ?_
    refine mB 1 (s2 := (d + 1, 57, 30, [some (.ref 10), some (.int c), some (.int v1), some (.int v2), some (.int 0)], [.int c, .ref 15, .int (I 12 c.toNatClampNeg), .int c, .int 1, .ref 10], 0, 0, (mSH, I, L))) rfl ?_
    refine mRq (s2 := (d + 1, 57, 31, [some (.ref 10), some (.int c), some (.int v1), some (.int v2), some (.int 0)], [.int (I 15 c.toNatClampNeg), .int (I 12 c.toNatClampNeg), .int c, .int 1, .ref 10], 0, 0, (mSH, I, L))) rfl (mVp_of hc) ?_
    refine mB 3 (s2 := (d + 1, 57, 36, [some (.ref 10), some (.int c), some (.int v1), some (.int v2), some (.int 0)], [.int 0, .ref 17, .int (I 15 c.toNatClampNeg), .int (I 12 c.toNatClampNeg), .int c, .int 1, .ref 10], 0, 0, (mSH, I, L))) rfl ?_
    refine mRq (s2 := (d + 1, 57, 37, [some (.ref 10), some (.int c), some (.int v1), some (.int v2), some (.int 0)], [.ref 18, .int (I 15 c.toNatClampNeg), .int (I 12 c.toNatClampNeg), .int c, .int 1, .ref 10], 0, 0, (mSH, I, L))) rfl (by decide) ?_
    refine mB 1 (s2 := (d + 1, 57, 38, [some (.ref 10), some (.int c), some (.int v1), some (.int v2), some (.int 0)], [.int c, .ref 18, .int (I 15 c.toNatClampNeg), .int (I 12 c.toNatClampNeg), .int c, .int 1, .ref 10], 0, 0, (mSH, I, L))) rfl ?_
    refine mRq (s2 := (d + 1, 57, 39, [some (.ref 10), some (.int c), some (.int v1), some (.int v2), some (.int 0)], [.int (I 18 c.toNatClampNeg), .int (I 15 c.toNatClampNeg), .int (I 12 c.toNatClampNeg), .int c, .int 1, .ref 10], 0, 0, (mSH, I, L))) rfl (mVp_of hc) ?_
    refine mCall (s2 := (d, 58, 0, [some (.ref 10), some (.int 1), some (.int c), some (.int (I 12 c.toNatClampNeg)), some (.int (I 15 c.toNatClampNeg)), some (.int (I 18 c.toNatClampNeg))], [], 0, 0, (mSH, I, L))) rfl ?_
    refine mB 3 (s2 := (d, 58, 5, [some (.ref 10), some (.int 1), some (.int c), some (.int (I 12 c.toNatClampNeg)), some (.int (I 15 c.toNatClampNeg)), some (.int (I 18 c.toNatClampNeg))], [.int 1, .ref 11], 0, 0, (mSH, I, L))) rfl ?_
    refine mRq (s2 := (d, 58, 6, [some (.ref 10), some (.int 1), some (.int c), some (.int (I 12 c.toNatClampNeg)), some (.int (I 15 c.toNatClampNeg)), some (.int (I 18 c.toNatClampNeg))], [.ref 13], 0, 0, (mSH, I, L))) rfl (by decide) ?_
    refine mB 2 (s2 := (d, 58, 8, [some (.ref 10), some (.int 1), some (.int c), some (.int (I 12 c.toNatClampNeg)), some (.int (I 15 c.toNatClampNeg)), some (.int (I 18 c.toNatClampNeg))], [.int (I 12 c.toNatClampNeg), .int c, .ref 13], 0, 0, (mSH, I, L))) rfl ?_
    refine mRq (s2 := (d, 58, 9, [some (.ref 10), some (.int 1), some (.int c), some (.int (I 12 c.toNatClampNeg)), some (.int (I 15 c.toNatClampNeg)), some (.int (I 18 c.toNatClampNeg))], [], 0, 0, (mSH, (mUp I 13 c.toNatClampNeg (I 12 c.toNatClampNeg)), L))) rfl (mVp_of hc) ?_
    refine mB 3 (s2 := (d, 58, 14, [some (.ref 10), some (.int 1), some (.int c), some (.int (I 12 c.toNatClampNeg)), some (.int (I 15 c.toNatClampNeg)), some (.int (I 18 c.toNatClampNeg))], [.int 1, .ref 14], 0, 0, (mSH, (mUp I 13 c.toNatClampNeg (I 12 c.toNatClampNeg)), L))) rfl ?_
    refine mRq (s2 := (d, 58, 15, [some (.ref 10), some (.int 1), some (.int c), some (.int (I 12 c.toNatClampNeg)), some (.int (I 15 c.toNatClampNeg)), some (.int (I 18 c.toNatClampNeg))], [.ref 16], 0, 0, (mSH, (mUp I 13 c.toNatClampNeg (I 12 c.toNatClampNeg)), L))) rfl (by decide) ?_
    refine mB 2 (s2 := (d, 58, 18, [some (.ref 10), some (.int 1), some (.int c), some (.int (I 12 c.toNatClampNeg)), some (.int (I 15 c.toNatClampNeg)), some (.int (I 18 c.toNatClampNeg))], [.int (I 15 c.toNatClampNeg), .int c, .ref 16], 0, 0, (mSH, (mUp I 13 c.toNatClampNeg (I 12 c.toNatClampNeg)), L))) rfl ?_
    refine mRq (s2 := (d, 58, 19, [some (.ref 10), some (.int 1), some (.int c), some (.int (I 12 c.toNatClampNeg)), some (.int (I 15 c.toNatClampNeg)), some (.int (I 18 c.toNatClampNeg))], [], 0, 0, (mSH, (mUp (mUp I 13 c.toNatClampNeg (I 12 c.toNatClampNeg)) 16 c.toNatClampNeg (I 15 c.toNatClampNeg)), L))) rfl (mVp_of hc) ?_
    refine mB 3 (s2 := (d, 58, 24, [some (.ref 10), some (.int 1), some (.int c), some (.int (I 12 c.toNatClampNeg)), some (.int (I 15 c.toNatClampNeg)), some (.int (I 18 c.toNatClampNeg))], [.int 1, .ref 17], 0, 0, (mSH, (mUp (mUp I 13 c.toNatClampNeg (I 12 c.toNatClampNeg)) 16 c.toNatClampNeg (I 15 c.toNatClampNeg)), L))) rfl ?_
    refine mRq (s2 := (d, 58, 25, [some (.ref 10), some (.int 1), some (.int c), some (.int (I 12 c.toNatClampNeg)), some (.int (I 15 c.toNatClampNeg)), some (.int (I 18 c.toNatClampNeg))], [.ref 19], 0, 0, (mSH, (mUp (mUp I 13 c.toNatClampNeg (I 12 c.toNatClampNeg)) 16 c.toNatClampNeg (I 15 c.toNatClampNeg)), L))) rfl (by decide) ?_
    refine mB 2 (s2 := (d, 58, 28, [some (.ref 10), some (.int 1), some (.int c), some (.int (I 12 c.toNatClampNeg)), some (.int (I 15 c.toNatClampNeg)), some (.int (I 18 c.toNatClampNeg))], [.int (I 18 c.toNatClampNeg), .int c, .ref 19], 0, 0, (mSH, (mUp (mUp I 13 c.toNatClampNeg (I 12 c.toNatClampNeg)) 16 c.toNatClampNeg (I 15 c.toNatClampNeg)), L))) rfl ?_
    refine mRq (s2 := (d, 58, 29, [some (.ref 10), some (.int 1), some (.int c), some (.int (I 12 c.toNatClampNeg)), some (.int (I 15 c.toNatClampNeg)), some (.int (I 18 c.toNatClampNeg))], [], 0, 0, (mSH, (mUp (mUp (mUp I 13 c.toNatClampNeg (I 12 c.toNatClampNeg)) 16 c.toNatClampNeg (I 15 c.toNatClampNeg)) 19 c.toNatClampNeg (I 18 c.toNatClampNeg)), L))) rfl (mVp_of hc) ?_
    refine mRt (r := none) (h := (mSH, (mUp (mUp (mUp I 13 c.toNatClampNeg (I 12 c.toNatClampNeg)) 16 c.toNatClampNeg (I 15 c.toNatClampNeg)) 19 c.toNatClampNeg (I 18 c.toNatClampNeg)), L)) rfl rfl ?_
    show mWP mTb_ mFT ro (d + 1, 57, 42, [some (.ref 10), some (.int c), some (.int v1), some (.int v2), some (.int 0)], [], 0, 0, (mSH, (mUp (mUp (mUp I 13 c.toNatClampNeg (I 12 c.toNatClampNeg)) 16 c.toNatClampNeg (I 15 c.toNatClampNeg)) 19 c.toNatClampNeg (I 18 c.toNatClampNeg)), L)) _
    refine mB 6 (s2 := (d + 1, 57, 49, [some (.ref 10), some (.int c), some (.int v1), some (.int v2), some (.int 0)], [.int 0, .int v2, .int v1, .int c, .int 0, .ref 10], 0, 0, (mSH, (mUp (mUp (mUp I 13 c.toNatClampNeg (I 12 c.toNatClampNeg)) 16 c.toNatClampNeg (I 15 c.toNatClampNeg)) 19 c.toNatClampNeg (I 18 c.toNatClampNeg)), L))) rfl ?_
    refine mCall (s2 := (d, 58, 0, [some (.ref 10), some (.int 0), some (.int c), some (.int v1), some (.int v2), some (.int 0)], [], 0, 0, (mSH, (mUp (mUp (mUp I 13 c.toNatClampNeg (I 12 c.toNatClampNeg)) 16 c.toNatClampNeg (I 15 c.toNatClampNeg)) 19 c.toNatClampNeg (I 18 c.toNatClampNeg)), L))) rfl ?_
    refine mB 3 (s2 := (d, 58, 5, [some (.ref 10), some (.int 0), some (.int c), some (.int v1), some (.int v2), some (.int 0)], [.int 0, .ref 11], 0, 0, (mSH, (mUp (mUp (mUp I 13 c.toNatClampNeg (I 12 c.toNatClampNeg)) 16 c.toNatClampNeg (I 15 c.toNatClampNeg)) 19 c.toNatClampNeg (I 18 c.toNatClampNeg)), L))) rfl ?_
    refine mRq (s2 := (d, 58, 6, [some (.ref 10), some (.int 0), some (.int c), some (.int v1), some (.int v2), some (.int 0)], [.ref 12], 0, 0, (mSH, (mUp (mUp (mUp I 13 c.toNatClampNeg (I 12 c.toNatClampNeg)) 16 c.toNatClampNeg (I 15 c.toNatClampNeg)) 19 c.toNatClampNeg (I 18 c.toNatClampNeg)), L))) rfl (by decide) ?_
    refine mB 2 (s2 := (d, 58, 8, [some (.ref 10), some (.int 0), some (.int c), some (.int v1), some (.int v2), some (.int 0)], [.int v1, .int c, .ref 12], 0, 0, (mSH, (mUp (mUp (mUp I 13 c.toNatClampNeg (I 12 c.toNatClampNeg)) 16 c.toNatClampNeg (I 15 c.toNatClampNeg)) 19 c.toNatClampNeg (I 18 c.toNatClampNeg)), L))) rfl ?_
    refine mRq (s2 := (d, 58, 9, [some (.ref 10), some (.int 0), some (.int c), some (.int v1), some (.int v2), some (.int 0)], [], 0, 0, (mSH, (mUp (mUp (mUp (mUp I 13 c.toNatClampNeg (I 12 c.toNatClampNeg)) 16 c.toNatClampNeg (I 15 c.toNatClampNeg)) 19 c.toNatClampNeg (I 18 c.toNatClampNeg)) 12 c.toNatClampNeg v1), L))) rfl (mVp_of hc) ?_
    refine mB 3 (s2 := (d, 58, 14, [some (.ref 10), some (.int 0), some (.int c), some (.int v1), some (.int v2), some (.int 0)], [.int 0, .ref 14], 0, 0, (mSH, (mUp (mUp (mUp (mUp I 13 c.toNatClampNeg (I 12 c.toNatClampNeg)) 16 c.toNatClampNeg (I 15 c.toNatClampNeg)) 19 c.toNatClampNeg (I 18 c.toNatClampNeg)) 12 c.toNatClampNeg v1), L))) rfl ?_
    refine mRq (s2 := (d, 58, 15, [some (.ref 10), some (.int 0), some (.int c), some (.int v1), some (.int v2), some (.int 0)], [.ref 15], 0, 0, (mSH, (mUp (mUp (mUp (mUp I 13 c.toNatClampNeg (I 12 c.toNatClampNeg)) 16 c.toNatClampNeg (I 15 c.toNatClampNeg)) 19 c.toNatClampNeg (I 18 c.toNatClampNeg)) 12 c.toNatClampNeg v1), L))) rfl (by decide) ?_
    refine mB 2 (s2 := (d, 58, 18, [some (.ref 10), some (.int 0), some (.int c), some (.int v1), some (.int v2), some (.int 0)], [.int v2, .int c, .ref 15], 0, 0, (mSH, (mUp (mUp (mUp (mUp I 13 c.toNatClampNeg (I 12 c.toNatClampNeg)) 16 c.toNatClampNeg (I 15 c.toNatClampNeg)) 19 c.toNatClampNeg (I 18 c.toNatClampNeg)) 12 c.toNatClampNeg v1), L))) rfl ?_
    refine mRq (s2 := (d, 58, 19, [some (.ref 10), some (.int 0), some (.int c), some (.int v1), some (.int v2), some (.int 0)], [], 0, 0, (mSH, (mUp (mUp (mUp (mUp (mUp I 13 c.toNatClampNeg (I 12 c.toNatClampNeg)) 16 c.toNatClampNeg (I 15 c.toNatClampNeg)) 19 c.toNatClampNeg (I 18 c.toNatClampNeg)) 12 c.toNatClampNeg v1) 15 c.toNatClampNeg v2), L))) rfl (mVp_of hc) ?_
    refine mB 3 (s2 := (d, 58, 24, [some (.ref 10), some (.int 0), some (.int c), some (.int v1), some (.int v2), some (.int 0)], [.int 0, .ref 17], 0, 0, (mSH, (mUp (mUp (mUp (mUp (mUp I 13 c.toNatClampNeg (I 12 c.toNatClampNeg)) 16 c.toNatClampNeg (I 15 c.toNatClampNeg)) 19 c.toNatClampNeg (I 18 c.toNatClampNeg)) 12 c.toNatClampNeg v1) 15 c.toNatClampNeg v2), L))) rfl ?_
    refine mRq (s2 := (d, 58, 25, [some (.ref 10), some (.int 0), some (.int c), some (.int v1), some (.int v2), some (.int 0)], [.ref 18], 0, 0, (mSH, (mUp (mUp (mUp (mUp (mUp I 13 c.toNatClampNeg (I 12 c.toNatClampNeg)) 16 c.toNatClampNeg (I 15 c.toNatClampNeg)) 19 c.toNatClampNeg (I 18 c.toNatClampNeg)) 12 c.toNatClampNeg v1) 15 c.toNatClampNeg v2), L))) rfl (by decide) ?_
    refine mB 2 (s2 := (d, 58, 28, [some (.ref 10), some (.int 0), some (.int c), some (.int v1), some (.int v2), some (.int 0)], [.int 0, .int c, .ref 18], 0, 0, (mSH, (mUp (mUp (mUp (mUp (mUp I 13 c.toNatClampNeg (I 12 c.toNatClampNeg)) 16 c.toNatClampNeg (I 15 c.toNatClampNeg)) 19 c.toNatClampNeg (I 18 c.toNatClampNeg)) 12 c.toNatClampNeg v1) 15 c.toNatClampNeg v2), L))) rfl ?_
    refine mRq (s2 := (d, 58, 29, [some (.ref 10), some (.int 0), some (.int c), some (.int v1), some (.int v2), some (.int 0)], [], 0, 0, (mSH, (mUp (mUp (mUp (mUp (mUp (mUp I 13 c.toNatClampNeg (I 12 c.toNatClampNeg)) 16 c.toNatClampNeg (I 15 c.toNatClampNeg)) 19 c.toNatClampNeg (I 18 c.toNatClampNeg)) 12 c.toNatClampNeg v1) 15 c.toNatClampNeg v2) 18 c.toNatClampNeg 0), L))) rfl (mVp_of hc) ?_
    refine mRt (r := none) (h := (mSH, (mUp (mUp (mUp (mUp (mUp (mUp I 13 c.toNatClampNeg (I 12 c.toNatClampNeg)) 16 c.toNatClampNeg (I 15 c.toNatClampNeg)) 19 c.toNatClampNeg (I 18 c.toNatClampNeg)) 12 c.toNatClampNeg v1) 15 c.toNatClampNeg v2) 18 c.toNatClampNeg 0), L)) rfl rfl ?_
    show mWP mTb_ mFT ro (d + 1, 57, 52, [some (.ref 10), some (.int c), some (.int v1), some (.int v2), some (.int 0)], [], 0, 0, (mSH, (mUp (mUp (mUp (mUp (mUp (mUp I 13 c.toNatClampNeg (I 12 c.toNatClampNeg)) 16 c.toNatClampNeg (I 15 c.toNatClampNeg)) 19 c.toNatClampNeg (I 18 c.toNatClampNeg)) 12 c.toNatClampNeg v1) 15 c.toNatClampNeg v2) 18 c.toNatClampNeg 0), L)) _
    refine mB 1 (s2 := (d + 1, 57, 77, [some (.ref 10), some (.int c), some (.int v1), some (.int v2), some (.int 0)], [], 0, 0, (mSH, (mUp (mUp (mUp (mUp (mUp (mUp I 13 c.toNatClampNeg (I 12 c.toNatClampNeg)) 16 c.toNatClampNeg (I 15 c.toNatClampNeg)) 19 c.toNatClampNeg (I 18 c.toNatClampNeg)) 12 c.toNatClampNeg v1) 15 c.toNatClampNeg v2) 18 c.toNatClampNeg 0), L))) rfl ?_
    refine mRt (r := none) (h := (mSH, (mUp (mUp (mUp (mUp (mUp (mUp I 13 c.toNatClampNeg (I 12 c.toNatClampNeg)) 16 c.toNatClampNeg (I 15 c.toNatClampNeg)) 19 c.toNatClampNeg (I 18 c.toNatClampNeg)) 12 c.toNatClampNeg v1) 15 c.toNatClampNeg v2) 18 c.toNatClampNeg 0), L)) rfl rfl ?_
    exact hq _ (bs_F.up (by rfl) (bs_F.up (by rfl) (bs_F.up (by rfl) (bs_F.up (by rfl) (bs_F.up (by rfl) (bs_F.up (by rfl) bs_F.rf)))))) (mRk.a (mRk.up (mRk.up (mRk.b (mRk.up (mRk.up hR (by rfl) (by rfl)) (by rfl) (by rfl)) (hR _ (mVl hc)).1) (by rfl) (by rfl)) (by rfl) (by rfl)) (Or.inl rfl)) (bs_of1 hP hx hs (Nat.lt_of_not_le (mt l1.mpr (of_decide_eq_false c0)))) rfl rfl
theorem x_offer_1 {ro : Nat → Nat × (Nat → Int32)} {Q : mPo} {d : Nat} {I : Nat → Nat → Int32} {L : Nat → Nat → Int64} {P : Int32 → Int32 → List Nat → Prop} {c v1 v2 : Int32} {k : Nat} {b : bt_E × bt_E} {x : bt_E} (hR : mRk I) (hc : vp_in c 154) (hk : c.toNatClampNeg = k) (hP : bs_P P I k b) (hs : v1 = nI x.1) (b0 : x.1 < 2 ^ 31) (b1 : b.1.1 < 2 ^ 31) (b2 : b.2.1 < 2 ^ 31) (hx : P v2 1 x.2) (hq : ∀ J, bs_F k I J → mRk J → bs_P P J k (bt_of b x) → J 20 = I 20 → J 21 = I 21 → Q none (mSH, J, L))   : mWP mTb_ mFT ro (d + 1, 57, 0, [some (.ref 10), some (.int c), some (.int v1), some (.int v2), some (.int 1)], [], 0, 0, (mSH, I, L)) Q := by
  subst hk
  have l1 : I 12 c.toNatClampNeg ≤ v1 ↔ b.1.1 ≤ x.1 := by
    rw [hs, hP.1]
    exact nI_leI b1 b0
  have l2 : I 13 c.toNatClampNeg ≤ v1 ↔ b.2.1 ≤ x.1 := by
    rw [hs, hP.2.1]
    exact nI_leI b2 b0
  refine mB 4 (s2 := (d + 1, 57, 6, [some (.ref 10), some (.int c), some (.int v1), some (.int v2), some (.int 1)], [.int 0, .ref 11, .int v1], 0, 0, (mSH, I, L))) rfl ?_
  refine mRq (s2 := (d + 1, 57, 7, [some (.ref 10), some (.int c), some (.int v1), some (.int v2), some (.int 1)], [.ref 12, .int v1], 0, 0, (mSH, I, L))) rfl (by decide) ?_
  refine mB 1 (s2 := (d + 1, 57, 8, [some (.ref 10), some (.int c), some (.int v1), some (.int v2), some (.int 1)], [.int c, .ref 12, .int v1], 0, 0, (mSH, I, L))) rfl ?_
  refine mRq (s2 := (d + 1, 57, 9, [some (.ref 10), some (.int c), some (.int v1), some (.int v2), some (.int 1)], [.int (I 12 c.toNatClampNeg), .int v1], 0, 0, (mSH, I, L))) rfl (mVp_of hc) ?_
  refine mBr (s2 := (d + 1, 57, 55, [some (.ref 10), some (.int c), some (.int v1), some (.int v2), some (.int 1)], [], 0, 0, (mSH, I, L))) (s3 := (d + 1, 57, 12, [some (.ref 10), some (.int c), some (.int v1), some (.int v2), some (.int 1)], [], 0, 0, (mSH, I, L))) rfl (fun c0 => ?_) (fun c0 => ?_)
  · refine mB 4 (s2 := (d + 1, 57, 61, [some (.ref 10), some (.int c), some (.int v1), some (.int v2), some (.int 1)], [.int 1, .ref 11, .int v1], 0, 0, (mSH, I, L))) rfl ?_
    refine mRq (s2 := (d + 1, 57, 62, [some (.ref 10), some (.int c), some (.int v1), some (.int v2), some (.int 1)], [.ref 13, .int v1], 0, 0, (mSH, I, L))) rfl (by decide) ?_
    refine mB 1 (s2 := (d + 1, 57, 63, [some (.ref 10), some (.int c), some (.int v1), some (.int v2), some (.int 1)], [.int c, .ref 13, .int v1], 0, 0, (mSH, I, L))) rfl ?_
    refine mRq (s2 := (d + 1, 57, 64, [some (.ref 10), some (.int c), some (.int v1), some (.int v2), some (.int 1)], [.int (I 13 c.toNatClampNeg), .int v1], 0, 0, (mSH, I, L))) rfl (mVp_of hc) ?_
    refine mBr (s2 := (d + 1, 57, 77, [some (.ref 10), some (.int c), some (.int v1), some (.int v2), some (.int 1)], [], 0, 0, (mSH, I, L))) (s3 := (d + 1, 57, 67, [some (.ref 10), some (.int c), some (.int v1), some (.int v2), some (.int 1)], [], 0, 0, (mSH, I, L))) rfl (fun c1 => ?_) (fun c1 => ?_)
    · refine mRt (r := none) (h := (mSH, I, L)) rfl rfl ?_
      exact hq _ bs_F.rf hR (by rw [bt_of3 (Nat.not_lt.mpr (l1.mp (of_decide_eq_true c0))) (Nat.not_lt.mpr (l2.mp (of_decide_eq_true c1)))]; exact hP) rfl rfl
    · refine mB 6 (s2 := (d + 1, 57, 74, [some (.ref 10), some (.int c), some (.int v1), some (.int v2), some (.int 1)], [.int 1, .int v2, .int v1, .int c, .int 1, .ref 10], 0, 0, (mSH, I, L))) rfl ?_
      refine mCall (s2 := (d, 58, 0, [some (.ref 10), some (.int 1), some (.int c), some (.int v1), some (.int v2), some (.int 1)], [], 0, 0, (mSH, I, L))) rfl ?_
      refine mB 3 (s2 := (d, 58, 5, [some (.ref 10), some (.int 1), some (.int c), some (.int v1), some (.int v2), some (.int 1)], [.int 1, .ref 11], 0, 0, (mSH, I, L))) rfl ?_
      refine mRq (s2 := (d, 58, 6, [some (.ref 10), some (.int 1), some (.int c), some (.int v1), some (.int v2), some (.int 1)], [.ref 13], 0, 0, (mSH, I, L))) rfl (by decide) ?_
      refine mB 2 (s2 := (d, 58, 8, [some (.ref 10), some (.int 1), some (.int c), some (.int v1), some (.int v2), some (.int 1)], [.int v1, .int c, .ref 13], 0, 0, (mSH, I, L))) rfl ?_
      refine mRq (s2 := (d, 58, 9, [some (.ref 10), some (.int 1), some (.int c), some (.int v1), some (.int v2), some (.int 1)], [], 0, 0, (mSH, (mUp I 13 c.toNatClampNeg v1), L))) rfl (mVp_of hc) ?_
      refine mB 3 (s2 := (d, 58, 14, [some (.ref 10), some (.int 1), some (.int c), some (.int v1), some (.int v2), some (.int 1)], [.int 1, .ref 14], 0, 0, (mSH, (mUp I 13 c.toNatClampNeg v1), L))) rfl ?_
      refine mRq (s2 := (d, 58, 15, [some (.ref 10), some (.int 1), some (.int c), some (.int v1), some (.int v2), some (.int 1)], [.ref 16], 0, 0, (mSH, (mUp I 13 c.toNatClampNeg v1), L))) rfl (by decide) ?_
      refine mB 2 (s2 := (d, 58, 18, [some (.ref 10), some (.int 1), some (.int c), some (.int v1), some (.int v2), some (.int 1)], [.int v2, .int c, .ref 16], 0, 0, (mSH, (mUp I 13 c.toNatClampNeg v1), L))) rfl ?_
      refine mRq (s2 := (d, 58, 19, [some (.ref 10), some (.int 1), some (.int c), some (.int v1), some (.int v2), some (.int 1)], [], 0, 0, (mSH, (mUp (mUp I 13 c.toNatClampNeg v1) 16 c.toNatClampNeg v2), L))) rfl (mVp_of hc) ?_
      refine mB 3 (s2 := (d, 58, 24, [some (.ref 10), some (.int 1), some (.int c), some (.int v1), some (.int v2), some (.int 1)], [.int 1, .ref 17], 0, 0, (mSH, (mUp (mUp I 13 c.toNatClampNeg v1) 16 c.toNatClampNeg v2), L))) rfl ?_
      refine mRq (s2 := (d, 58, 25, [some (.ref 10), some (.int 1), some (.int c), some (.int v1), some (.int v2), some (.int 1)], [.ref 19], 0, 0, (mSH, (mUp (mUp I 13 c.toNatClampNeg v1) 16 c.toNatClampNeg v2), L))) rfl (by decide) ?_
      refine mB 2 (s2 := (d, 58, 28, [some (.ref 10), some (.int 1), some (.int c), some (.int v1), some (.int v2), some (.int 1)], [.int 1, .int c, .ref 19], 0, 0, (mSH, (mUp (mUp I 13 c.toNatClampNeg v1) 16 c.toNatClampNeg v2), L))) rfl ?_
      refine mRq (s2 := (d, 58, 29, [some (.ref 10), some (.int 1), some (.int c), some (.int v1), some (.int v2), some (.int 1)], [], 0, 0, (mSH, (mUp (mUp (mUp I 13 c.toNatClampNeg v1) 16 c.toNatClampNeg v2) 19 c.toNatClampNeg 1), L))) rfl (mVp_of hc) ?_
      refine mRt (r := none) (h := (mSH, (mUp (mUp (mUp I 13 c.toNatClampNeg v1) 16 c.toNatClampNeg v2) 19 c.toNatClampNeg 1), L)) rfl rfl ?_
      show mWP mTb_ mFT ro (d + 1, 57, 77, [some (.ref 10), some (.int c), some (.int v1), some (.int v2), some (.int 1)], [], 0, 0, (mSH, (mUp (mUp (mUp I 13 c.toNatClampNeg v1) 16 c.toNatClampNeg v2) 19 c.toNatClampNeg 1), L)) _
      refine mRt (r := none) (h := (mSH, (mUp (mUp (mUp I 13 c.toNatClampNeg v1) 16 c.toNatClampNeg v2) 19 c.toNatClampNeg 1), L)) rfl rfl ?_
      exact hq _ (bs_F.up (by rfl) (bs_F.up (by rfl) (bs_F.up (by rfl) bs_F.rf))) (mRk.b (mRk.up (mRk.up hR (by rfl) (by rfl)) (by rfl) (by rfl)) (Or.inr rfl)) (bs_of2 hP hx hs (Nat.not_lt.mpr (l1.mp (of_decide_eq_true c0))) (Nat.lt_of_not_le (mt l2.mpr (of_decide_eq_false c1)))) rfl rfl
  · refine mB 6 (s2 := (d + 1, 57, 20, [some (.ref 10), some (.int c), some (.int v1), some (.int v2), some (.int 1)], [.int 0, .ref 11, .int c, .int 1, .ref 10], 0, 0, (mSH, I, L))) rfl ?_
    refine mRq (s2 := (d + 1, 57, 21, [some (.ref 10), some (.int c), some (.int v1), some (.int v2), some (.int 1)], [.ref 12, .int c, .int 1, .ref 10], 0, 0, (mSH, I, L))) rfl (by decide) ?_
    refine mB 1 (s2 := (d + 1, 57, 22, [some (.ref 10), some (.int c), some (.int v1), some (.int v2), some (.int 1)], [.int c, .ref 12, .int c, .int 1, .ref 10], 0, 0, (mSH, I, L))) rfl ?_
    refine mRq (s2 := (d + 1, 57, 23, [some (.ref 10), some (.int c), some (.int v1), some (.int v2), some (.int 1)], [.int (I 12 c.toNatClampNeg), .int c, .int 1, .ref 10], 0, 0, (mSH, I, L))) rfl (mVp_of hc) ?_
    refine mB 3 (s2 := (d + 1, 57, 28, [some (.ref 10), some (.int c), some (.int v1), some (.int v2), some (.int 1)], [.int 0, .ref 14, .int (I 12 c.toNatClampNeg), .int c, .int 1, .ref 10], 0, 0, (mSH, I, L))) rfl ?_
    refine mRq (s2 := (d + 1, 57, 29, [some (.ref 10), some (.int c), some (.int v1), some (.int v2), some (.int 1)], [.ref 15, .int (I 12 c.toNatClampNeg), .int c, .int 1, .ref 10], 0, 0, (mSH, I, L))) rfl (by decide) ?_
    refine mB 1 (s2 := (d + 1, 57, 30, [some (.ref 10), some (.int c), some (.int v1), some (.int v2), some (.int 1)], [.int c, .ref 15, .int (I 12 c.toNatClampNeg), .int c, .int 1, .ref 10], 0, 0, (mSH, I, L))) rfl ?_
    refine mRq (s2 := (d + 1, 57, 31, [some (.ref 10), some (.int c), some (.int v1), some (.int v2), some (.int 1)], [.int (I 15 c.toNatClampNeg), .int (I 12 c.toNatClampNeg), .int c, .int 1, .ref 10], 0, 0, (mSH, I, L))) rfl (mVp_of hc) ?_
    refine mB 3 (s2 := (d + 1, 57, 36, [some (.ref 10), some (.int c), some (.int v1), some (.int v2), some (.int 1)], [.int 0, .ref 17, .int (I 15 c.toNatClampNeg), .int (I 12 c.toNatClampNeg), .int c, .int 1, .ref 10], 0, 0, (mSH, I, L))) rfl ?_
    refine mRq (s2 := (d + 1, 57, 37, [some (.ref 10), some (.int c), some (.int v1), some (.int v2), some (.int 1)], [.ref 18, .int (I 15 c.toNatClampNeg), .int (I 12 c.toNatClampNeg), .int c, .int 1, .ref 10], 0, 0, (mSH, I, L))) rfl (by decide) ?_
    refine mB 1 (s2 := (d + 1, 57, 38, [some (.ref 10), some (.int c), some (.int v1), some (.int v2), some (.int 1)], [.int c, .ref 18, .int (I 15 c.toNatClampNeg), .int (I 12 c.toNatClampNeg), .int c, .int 1, .ref 10], 0, 0, (mSH, I, L))) rfl ?_
    refine mRq (s2 := (d + 1, 57, 39, [some (.ref 10), some (.int c), some (.int v1), some (.int v2), some (.int 1)], [.int (I 18 c.toNatClampNeg), .int (I 15 c.toNatClampNeg), .int (I 12 c.toNatClampNeg), .int c, .int 1, .ref 10], 0, 0, (mSH, I, L))) rfl (mVp_of hc) ?_
    refine mCall (s2 := (d, 58, 0, [some (.ref 10), some (.int 1), some (.int c), some (.int (I 12 c.toNatClampNeg)), some (.int (I 15 c.toNatClampNeg)), some (.int (I 18 c.toNatClampNeg))], [], 0, 0, (mSH, I, L))) rfl ?_
    refine mB 3 (s2 := (d, 58, 5, [some (.ref 10), some (.int 1), some (.int c), some (.int (I 12 c.toNatClampNeg)), some (.int (I 15 c.toNatClampNeg)), some (.int (I 18 c.toNatClampNeg))], [.int 1, .ref 11], 0, 0, (mSH, I, L))) rfl ?_
    refine mRq (s2 := (d, 58, 6, [some (.ref 10), some (.int 1), some (.int c), some (.int (I 12 c.toNatClampNeg)), some (.int (I 15 c.toNatClampNeg)), some (.int (I 18 c.toNatClampNeg))], [.ref 13], 0, 0, (mSH, I, L))) rfl (by decide) ?_
    refine mB 2 (s2 := (d, 58, 8, [some (.ref 10), some (.int 1), some (.int c), some (.int (I 12 c.toNatClampNeg)), some (.int (I 15 c.toNatClampNeg)), some (.int (I 18 c.toNatClampNeg))], [.int (I 12 c.toNatClampNeg), .int c, .ref 13], 0, 0, (mSH, I, L))) rfl ?_
    refine mRq (s2 := (d, 58, 9, [some (.ref 10), some (.int 1), some (.int c), some (.int (I 12 c.toNatClampNeg)), some (.int (I 15 c.toNatClampNeg)), some (.int (I 18 c.toNatClampNeg))], [], 0, 0, (mSH, (mUp I 13 c.toNatClampNeg (I 12 c.toNatClampNeg)), L))) rfl (mVp_of hc) ?_
    refine mB 3 (s2 := (d, 58, 14, [some (.ref 10), some (.int 1), some (.int c), some (.int (I 12 c.toNatClampNeg)), some (.int (I 15 c.toNatClampNeg)), some (.int (I 18 c.toNatClampNeg))], [.int 1, .ref 14], 0, 0, (mSH, (mUp I 13 c.toNatClampNeg (I 12 c.toNatClampNeg)), L))) rfl ?_
    refine mRq (s2 := (d, 58, 15, [some (.ref 10), some (.int 1), some (.int c), some (.int (I 12 c.toNatClampNeg)), some (.int (I 15 c.toNatClampNeg)), some (.int (I 18 c.toNatClampNeg))], [.ref 16], 0, 0, (mSH, (mUp I 13 c.toNatClampNeg (I 12 c.toNatClampNeg)), L))) rfl (by decide) ?_
    refine mB 2 (s2 := (d, 58, 18, [some (.ref 10), some (.int 1), some (.int c), some (.int (I 12 c.toNatClampNeg)), some (.int (I 15 c.toNatClampNeg)), some (.int (I 18 c.toNatClampNeg))], [.int (I 15 c.toNatClampNeg), .int c, .ref 16], 0, 0, (mSH, (mUp I 13 c.toNatClampNeg (I 12 c.toNatClampNeg)), L))) rfl ?_
    refine mRq (s2 := (d, 58, 19, [some (.ref 10), some (.int 1), some (.int c), some (.int (I 12 c.toNatClampNeg)), some (.int (I 15 c.toNatClampNeg)), some (.int (I 18 c.toNatClampNeg))], [], 0, 0, (mSH, (mUp (mUp I 13 c.toNatClampNeg (I 12 c.toNatClampNeg)) 16 c.toNatClampNeg (I 15 c.toNatClampNeg)), L))) rfl (mVp_of hc) ?_
    refine mB 3 (s2 := (d, 58, 24, [some (.ref 10), some (.int 1), some (.int c), some (.int (I 12 c.toNatClampNeg)), some (.int (I 15 c.toNatClampNeg)), some (.int (I 18 c.toNatClampNeg))], [.int 1, .ref 17], 0, 0, (mSH, (mUp (mUp I 13 c.toNatClampNeg (I 12 c.toNatClampNeg)) 16 c.toNatClampNeg (I 15 c.toNatClampNeg)), L))) rfl ?_
    refine mRq (s2 := (d, 58, 25, [some (.ref 10), some (.int 1), some (.int c), some (.int (I 12 c.toNatClampNeg)), some (.int (I 15 c.toNatClampNeg)), some (.int (I 18 c.toNatClampNeg))], [.ref 19], 0, 0, (mSH, (mUp (mUp I 13 c.toNatClampNeg (I 12 c.toNatClampNeg)) 16 c.toNatClampNeg (I 15 c.toNatClampNeg)), L))) rfl (by decide) ?_
    refine mB 2 (s2 := (d, 58, 28, [some (.ref 10), some (.int 1), some (.int c), some (.int (I 12 c.toNatClampNeg)), some (.int (I 15 c.toNatClampNeg)), some (.int (I 18 c.toNatClampNeg))], [.int (I 18 c.toNatClampNeg), .int c, .ref 19], 0, 0, (mSH, (mUp (mUp I 13 c.toNatClampNeg (I 12 c.toNatClampNeg)) 16 c.toNatClampNeg (I 15 c.toNatClampNeg)), L))) rfl ?_
    refine mRq (s2 := (d, 58, 29, [some (.ref 10), some (.int 1), some (.int c), some (.int (I 12 c.toNatClampNeg)), some (.int (I 15 c.toNatClampNeg)), some (.int (I 18 c.toNatClampNeg))], [], 0, 0, (mSH, (mUp (mUp (mUp I 13 c.toNatClampNeg (I 12 c.toNatClampNeg)) 16 c.toNatClampNeg (I 15 c.toNatClampNeg)) 19 c.toNatClampNeg (I 18 c.toNatClampNeg)), L))) rfl (mVp_of hc) ?_
    refine mRt (r := none) (h := (mSH, (mUp (mUp (mUp I 13 c.toNatClampNeg (I 12 c.toNatClampNeg)) 16 c.toNatClampNeg (I 15 c.toNatClampNeg)) 19 c.toNatClampNeg (I 18 c.toNatClampNeg)), L)) rfl rfl ?_
    show mWP mTb_ mFT ro (d + 1, 57, 42, [some (.ref 10), some (.int c), some (.int v1), some (.int v2), some (.int 1)], [], 0, 0, (mSH, (mUp (mUp (mUp I 13 c.toNatClampNeg (I 12 c.toNatClampNeg)) 16 c.toNatClampNeg (I 15 c.toNatClampNeg)) 19 c.toNatClampNeg (I 18 c.toNatClampNeg)), L)) _
    refine mB 6 (s2 := (d + 1, 57, 49, [some (.ref 10), some (.int c), some (.int v1), some (.int v2), some (.int 1)], [.int 1, .int v2, .int v1, .int c, .int 0, .ref 10], 0, 0, (mSH, (mUp (mUp (mUp I 13 c.toNatClampNeg (I 12 c.toNatClampNeg)) 16 c.toNatClampNeg (I 15 c.toNatClampNeg)) 19 c.toNatClampNeg (I 18 c.toNatClampNeg)), L))) rfl ?_
    refine mCall (s2 := (d, 58, 0, [some (.ref 10), some (.int 0), some (.int c), some (.int v1), some (.int v2), some (.int 1)], [], 0, 0, (mSH, (mUp (mUp (mUp I 13 c.toNatClampNeg (I 12 c.toNatClampNeg)) 16 c.toNatClampNeg (I 15 c.toNatClampNeg)) 19 c.toNatClampNeg (I 18 c.toNatClampNeg)), L))) rfl ?_
    refine mB 3 (s2 := (d, 58, 5, [some (.ref 10), some (.int 0), some (.int c), some (.int v1), some (.int v2), some (.int 1)], [.int 0, .ref 11], 0, 0, (mSH, (mUp (mUp (mUp I 13 c.toNatClampNeg (I 12 c.toNatClampNeg)) 16 c.toNatClampNeg (I 15 c.toNatClampNeg)) 19 c.toNatClampNeg (I 18 c.toNatClampNeg)), L))) rfl ?_
    refine mRq (s2 := (d, 58, 6, [some (.ref 10), some (.int 0), some (.int c), some (.int v1), some (.int v2), some (.int 1)], [.ref 12], 0, 0, (mSH, (mUp (mUp (mUp I 13 c.toNatClampNeg (I 12 c.toNatClampNeg)) 16 c.toNatClampNeg (I 15 c.toNatClampNeg)) 19 c.toNatClampNeg (I 18 c.toNatClampNeg)), L))) rfl (by decide) ?_
    refine mB 2 (s2 := (d, 58, 8, [some (.ref 10), some (.int 0), some (.int c), some (.int v1), some (.int v2), some (.int 1)], [.int v1, .int c, .ref 12], 0, 0, (mSH, (mUp (mUp (mUp I 13 c.toNatClampNeg (I 12 c.toNatClampNeg)) 16 c.toNatClampNeg (I 15 c.toNatClampNeg)) 19 c.toNatClampNeg (I 18 c.toNatClampNeg)), L))) rfl ?_
    refine mRq (s2 := (d, 58, 9, [some (.ref 10), some (.int 0), some (.int c), some (.int v1), some (.int v2), some (.int 1)], [], 0, 0, (mSH, (mUp (mUp (mUp (mUp I 13 c.toNatClampNeg (I 12 c.toNatClampNeg)) 16 c.toNatClampNeg (I 15 c.toNatClampNeg)) 19 c.toNatClampNeg (I 18 c.toNatClampNeg)) 12 c.toNatClampNeg v1), L))) rfl (mVp_of hc) ?_
    refine mB 3 (s2 := (d, 58, 14, [some (.ref 10), some (.int 0), some (.int c), some (.int v1), some (.int v2), some (.int 1)], [.int 0, .ref 14], 0, 0, (mSH, (mUp (mUp (mUp (mUp I 13 c.toNatClampNeg (I 12 c.toNatClampNeg)) 16 c.toNatClampNeg (I 15 c.toNatClampNeg)) 19 c.toNatClampNeg (I 18 c.toNatClampNeg)) 12 c.toNatClampNeg v1), L))) rfl ?_
    refine mRq (s2 := (d, 58, 15, [some (.ref 10), some (.int 0), some (.int c), some (.int v1), some (.int v2), some (.int 1)], [.ref 15], 0, 0, (mSH, (mUp (mUp (mUp (mUp I 13 c.toNatClampNeg (I 12 c.toNatClampNeg)) 16 c.toNatClampNeg (I 15 c.toNatClampNeg)) 19 c.toNatClampNeg (I 18 c.toNatClampNeg)) 12 c.toNatClampNeg v1), L))) rfl (by decide) ?_
    refine mB 2 (s2 := (d, 58, 18, [some (.ref 10), some (.int 0), some (.int c), some (.int v1), some (.int v2), some (.int 1)], [.int v2, .int c, .ref 15], 0, 0, (mSH, (mUp (mUp (mUp (mUp I 13 c.toNatClampNeg (I 12 c.toNatClampNeg)) 16 c.toNatClampNeg (I 15 c.toNatClampNeg)) 19 c.toNatClampNeg (I 18 c.toNatClampNeg)) 12 c.toNatClampNeg v1), L))) rfl ?_
    refine mRq (s2 := (d, 58, 19, [some (.ref 10), some (.int 0), some (.int c), some (.int v1), some (.int v2), some (.int 1)], [], 0, 0, (mSH, (mUp (mUp (mUp (mUp (mUp I 13 c.toNatClampNeg (I 12 c.toNatClampNeg)) 16 c.toNatClampNeg (I 15 c.toNatClampNeg)) 19 c.toNatClampNeg (I 18 c.toNatClampNeg)) 12 c.toNatClampNeg v1) 15 c.toNatClampNeg v2), L))) rfl (mVp_of hc) ?_
    refine mB 3 (s2 := (d, 58, 24, [some (.ref 10), some (.int 0), some (.int c), some (.int v1), some (.int v2), some (.int 1)], [.int 0, .ref 17], 0, 0, (mSH, (mUp (mUp (mUp (mUp (mUp I 13 c.toNatClampNeg (I 12 c.toNatClampNeg)) 16 c.toNatClampNeg (I 15 c.toNatClampNeg)) 19 c.toNatClampNeg (I 18 c.toNatClampNeg)) 12 c.toNatClampNeg v1) 15 c.toNatClampNeg v2), L))) rfl ?_
    refine mRq (s2 := (d, 58, 25, [some (.ref 10), some (.int 0), some (.int c), some (.int v1), some (.int v2), some (.int 1)], [.ref 18], 0, 0, (mSH, (mUp (mUp (mUp (mUp (mUp I 13 c.toNatClampNeg (I 12 c.toNatClampNeg)) 16 c.toNatClampNeg (I 15 c.toNatClampNeg)) 19 c.toNatClampNeg (I 18 c.toNatClampNeg)) 12 c.toNatClampNeg v1) 15 c.toNatClampNeg v2), L))) rfl (by decide) ?_
    refine mB 2 (s2 := (d, 58, 28, [some (.ref 10), some (.int 0), some (.int c), some (.int v1), some (.int v2), some (.int 1)], [.int 1, .int c, .ref 18], 0, 0, (mSH, (mUp (mUp (mUp (mUp (mUp I 13 c.toNatClampNeg (I 12 c.toNatClampNeg)) 16 c.toNatClampNeg (I 15 c.toNatClampNeg)) 19 c.toNatClampNeg (I 18 c.toNatClampNeg)) 12 c.toNatClampNeg v1) 15 c.toNatClampNeg v2), L))) rfl ?_
    refine mRq (s2 := (d, 58, 29, [some (.ref 10), some (.int 0), some (.int c), some (.int v1), some (.int v2), some (.int 1)], [], 0, 0, (mSH, (mUp (mUp (mUp (mUp (mUp (mUp I 13 c.toNatClampNeg (I 12 c.toNatClampNeg)) 16 c.toNatClampNeg (I 15 c.toNatClampNeg)) 19 c.toNatClampNeg (I 18 c.toNatClampNeg)) 12 c.toNatClampNeg v1) 15 c.toNatClampNeg v2) 18 c.toNatClampNeg 1), L))) rfl (mVp_of hc) ?_
    refine mRt (r := none) (h := (mSH, (mUp (mUp (mUp (mUp (mUp (mUp I 13 c.toNatClampNeg (I 12 c.toNatClampNeg)) 16 c.toNatClampNeg (I 15 c.toNatClampNeg)) 19 c.toNatClampNeg (I 18 c.toNatClampNeg)) 12 c.toNatClampNeg v1) 15 c.toNatClampNeg v2) 18 c.toNatClampNeg 1), L)) rfl rfl ?_
    show mWP mTb_ mFT ro (d + 1, 57, 52, [some (.ref 10), some (.int c), some (.int v1), some (.int v2), some (.int 1)], [], 0, 0, (mSH, (mUp (mUp (mUp (mUp (mUp (mUp I 13 c.toNatClampNeg (I 12 c.toNatClampNeg)) 16 c.toNatClampNeg (I 15 c.toNatClampNeg)) 19 c.toNatClampNeg (I 18 c.toNatClampNeg)) 12 c.toNatClampNeg v1) 15 c.toNatClampNeg v2) 18 c.toNatClampNeg 1), L)) _
    refine mB 1 (s2 := (d + 1, 57, 77, [some (.ref 10), some (.int c), some (.int v1), some (.int v2), some (.int 1)], [], 0, 0, (mSH, (mUp (mUp (mUp (mUp (mUp (mUp I 13 c.toNatClampNeg (I 12 c.toNatClampNeg)) 16 c.toNatClampNeg (I 15 c.toNatClampNeg)) 19 c.toNatClampNeg (I 18 c.toNatClampNeg)) 12 c.toNatClampNeg v1) 15 c.toNatClampNeg v2) 18 c.toNatClampNeg 1), L))) rfl ?_
    refine mRt (r := none) (h := (mSH, (mUp (mUp (mUp (mUp (mUp (mUp I 13 c.toNatClampNeg (I 12 c.toNatClampNeg)) 16 c.toNatClampNeg (I 15 c.toNatClampNeg)) 19 c.toNatClampNeg (I 18 c.toNatClampNeg)) 12 c.toNatClampNeg v1) 15 c.toNatClampNeg v2) 18 c.toNatClampNeg 1), L)) rfl rfl ?_
    exact hq _ (bs_F.up (by rfl) (bs_F.up (by rfl) (bs_F.up (by rfl) (bs_F.up (by rfl) (bs_F.up (by rfl) (bs_F.up (by rfl) bs_F.rf)))))) (mRk.a (mRk.up (mRk.up (mRk.b (mRk.up (mRk.up hR (by rfl) (by rfl)) (by rfl) (by rfl)) (hR _ (mVl hc)).1) (by rfl) (by rfl)) (by rfl) (by rfl)) (Or.inr rfl)) (bs_of1 hP hx hs (Nat.lt_of_not_le (mt l1.mpr (of_decide_eq_false c0)))) rfl rfl
section BJN
variable {P : Int32 → Int32 → List Nat → Prop} {I J : Nat → Nat → Int32} {k : Nat} {t u : bt_T} {f : bt_E → bt_E}
theorem bt_jn0 (h : u.1.1 = bt_U) : bt_jn f t u = t := if_pos h
theorem bt_jn1 (h : ¬ u.1.1 = bt_U) : bt_jn f t u = ((bt_j2 f (t.1, t.2.1) u).1, (bt_j2 f (t.1, t.2.1) u).2, t.2.2.1 + u.2.2.1, bt_lw t.1.1 t.2.2.2 (f u.1).1 u.2.2.2) := if_neg h
/-- the cell holds t -/
def bs_C (P : Int32 → Int32 → List Nat → Prop) (I : Nat → Nat → Int32) (k : Nat) (t : bt_T) : Prop := bs_P P I k (t.1, t.2.1) ∧ I 20 k = nI t.2.2.1 ∧ I 21 k = nI t.2.2.2
theorem bs_C.n (h : bs_C P I k t) : bs_N I k t := ⟨⟨h.1.1, h.1.2.1⟩, h.2⟩
theorem bs_jf (hn : ¬ u.1.1 = bt_U) (h1 : bs_P P J k (bt_j2 f (t.1, t.2.1) u)) (h2 : J 20 k = nI (t.2.2.1 + u.2.2.1)) (h3 : J 21 k = nI (bt_lw t.1.1 t.2.2.2 (f u.1).1 u.2.2.2)) : bs_C P J k (bt_jn f t u) := by
  rw [bt_jn1 hn]
  exact ⟨h1, h2, h3⟩
end BJN
section BLW
variable {s k v m : Nat}
theorem bt_lw0 (h : v < s) : bt_lw s k v m = m := if_pos h
theorem bt_lw1 (h : v = s) : bt_lw s k v m = k + m := (if_neg (by omega)).trans (if_pos h)
theorem bt_lw2 (h : s ≤ v) (g : ¬ v = s) : bt_lw s k v m = k := (if_neg (by omega)).trans (if_neg g)
theorem bt_ofb {b : bt_E × bt_E} {x : bt_E} {M : Nat} (h1 : b.1.1 < M) (h2 : b.2.1 < M) (hx : x.1 < M) : (bt_of b x).1.1 < M ∧ (bt_of b x).2.1 < M := by
  unfold bt_of
  by_cases c : x.1 < b.1.1
  · rw [if_pos c]; exact ⟨hx, h1⟩
  · rw [if_neg c]
    by_cases g : x.1 < b.2.1
    · rw [if_pos g]; exact ⟨h1, hx⟩
    · rw [if_neg g]; exact ⟨h1, h2⟩
end BLW
theorem x_join {ro : Nat → Nat × (Nat → Int32)} {Q : mPo} {d : Nat} {I : Nat → Nat → Int32} {L : Nat → Nat → Int64} {P : Int32 → Int32 → List Nat → Prop} {c n v2 v3 : Int32} {t u : bt_T} {f : bt_E → bt_E} {v : Nat} (hR : mRk I) (hc : vp_in c 154) (hn : vp_in n 154) (hcn : n.toNatClampNeg ≠ c.toNatClampNeg) (hf : ∀ y, (f y).1 = v + y.1) (hv : v3 = nI v) (hu : bt_ok v u) (t1 : t.1.1 ≤ bt_U) (t2 : t.2.1.1 ≤ bt_U) (hC : bs_C P I c.toNatClampNeg t) (hN : bs_N I n.toNatClampNeg u) (hy0 : u.1.1 < bt_U → P v2 0 (f u.1).2) (hy1 : u.2.1.1 < bt_U → P v2 1 (f u.2.1).2) (hq : ∀ J, bs_F c.toNatClampNeg I J → mRk J → bs_C P J c.toNatClampNeg (bt_jn f t u) → Q none (mSH, J, L))   : mWP mTb_ mFT ro (d + 2, 56, 0, [some (.ref 10), some (.int c), some (.int n), some (.int v2), some (.int v3), none], [], 0, 0, (mSH, I, L)) Q := by
  have U31 := bt_Ul
  have u0 : u.1.1 ≤ bt_U := by rcases hu.2.1 with e | e <;> omega
  have u1 : u.2.1.1 ≤ bt_U := by rcases hu.2.2.1 with e | e <;> omega
  have hz : I 12 n.toNatClampNeg = 1000000000 ↔ u.1.1 = bt_U := by
    rw [hN.1.1, ← bt_Ue]
    exact nI_eq (by omega) U31
  have hz1 : ∀ y, y = I 13 n.toNatClampNeg → (y = 1000000000 ↔ u.2.1.1 = bt_U) := fun y e => by
    rw [e, hN.1.2, ← bt_Ue]
    exact nI_eq (by omega) U31
  have e1 : v3 + I 12 n.toNatClampNeg = nI (f u.1).1 := by rw [hv, hN.1.1, nI_add, hf]
  have e2 : ∀ y, y = I 13 n.toNatClampNeg → v3 + y = nI (f u.2.1).1 := fun y e => by rw [e, hv, hN.1.2, nI_add, hf]
  have e3 : ¬ u.1.1 = bt_U → (f u.1).1 < 2 ^ 31 := fun z => by
    rw [hf]
    rcases hu.2.1 with e | e
    · exact absurd e z
    · omega
  have e4 : ¬ u.2.1.1 = bt_U → (f u.2.1).1 < 2 ^ 31 := fun z => by
    rw [hf]
    rcases hu.2.2.1 with e | e
    · exact absurd e z
    · omega
  have l1 : t.1.1 < 2 ^ 31 := by omega
  have l2 : t.2.1.1 < 2 ^ 31 := by omega
  have b3 : ¬ u.1.1 = bt_U → (bt_of (t.1, t.2.1) (f u.1)).1.1 < 2 ^ 31 := fun z => (bt_ofb l1 l2 (e3 z)).1
  have b4 : ¬ u.1.1 = bt_U → (bt_of (t.1, t.2.1) (f u.1)).2.1 < 2 ^ 31 := fun z => (bt_ofb l1 l2 (e3 z)).2
  have hx0 : ¬ u.1.1 = bt_U → P v2 0 (f u.1).2 := fun z => hy0 (by omega)
  have hx1 : ¬ u.2.1.1 = bt_U → P v2 1 (f u.2.1).2 := fun z => hy1 (by omega)
  have lA : ¬ u.1.1 = bt_U → (I 12 c.toNatClampNeg ≤ v3 + I 12 n.toNatClampNeg ↔ t.1.1 ≤ (f u.1).1) := fun z => by
    rw [e1, hC.1.1]
    exact nI_leI l1 (e3 z)
  have lE : ¬ u.1.1 = bt_U → (v3 + I 12 n.toNatClampNeg = I 12 c.toNatClampNeg ↔ (f u.1).1 = t.1.1) := fun z => by
    rw [e1, hC.1.1]
    exact nI_eq (e3 z) l1
  refine mB 3 (s2 := (d + 2, 56, 5, [some (.ref 10), some (.int c), some (.int n), some (.int v2), some (.int v3), none], [.int 0, .ref 11], 0, 0, (mSH, I, L))) rfl ?_
  refine mRq (s2 := (d + 2, 56, 6, [some (.ref 10), some (.int c), some (.int n), some (.int v2), some (.int v3), none], [.ref 12], 0, 0, (mSH, I, L))) rfl (by decide) ?_
  refine mB 1 (s2 := (d + 2, 56, 7, [some (.ref 10), some (.int c), some (.int n), some (.int v2), some (.int v3), none], [.int n, .ref 12], 0, 0, (mSH, I, L))) rfl ?_
  refine mRq (s2 := (d + 2, 56, 8, [some (.ref 10), some (.int c), some (.int n), some (.int v2), some (.int v3), none], [.int (I 12 n.toNatClampNeg)], 0, 0, (mSH, I, L))) rfl (mVp_of hn) ?_
  refine mB 1 (s2 := (d + 2, 56, 10, [some (.ref 10), some (.int c), some (.int n), some (.int v2), some (.int v3), none], [.int 1000000000, .int (I 12 n.toNatClampNeg)], 0, 0, (mSH, I, L))) rfl ?_
  refine mBr (s2 := (d + 2, 56, 13, [some (.ref 10), some (.int c), some (.int n), some (.int v2), some (.int v3), none], [], 0, 0, (mSH, I, L))) (s3 := (d + 2, 56, 14, [some (.ref 10), some (.int c), some (.int n), some (.int v2), some (.int v3), none], [], 0, 0, (mSH, I, L))) rfl (fun c0 => ?_) (fun c0 => ?_)
  · refine mRt (r := none) (h := (mSH, I, L)) rfl rfl ?_
    exact hq _ bs_F.rf hR (by rw [bt_jn0 (hz.mp (of_decide_eq_true c0))]; exact hC)
  · refine mB 4 (s2 := (d + 2, 56, 21, [some (.ref 10), some (.int c), some (.int n), some (.int v2), some (.int v3), none], [.int 0, .ref 11, .int v3], 0, 0, (mSH, I, L))) rfl ?_
    refine mRq (s2 := (d + 2, 56, 22, [some (.ref 10), some (.int c), some (.int n), some (.int v2), some (.int v3), none], [.ref 12, .int v3], 0, 0, (mSH, I, L))) rfl (by decide) ?_
    refine mB 1 (s2 := (d + 2, 56, 23, [some (.ref 10), some (.int c), some (.int n), some (.int v2), some (.int v3), none], [.int n, .ref 12, .int v3], 0, 0, (mSH, I, L))) rfl ?_
    refine mRq (s2 := (d + 2, 56, 24, [some (.ref 10), some (.int c), some (.int n), some (.int v2), some (.int v3), none], [.int (I 12 n.toNatClampNeg), .int v3], 0, 0, (mSH, I, L))) rfl (mVp_of hn) ?_
    refine mB 6 (s2 := (d + 2, 56, 33, [some (.ref 10), some (.int c), some (.int n), some (.int v2), some (.int v3), some (.int (v3 + (I 12 n.toNatClampNeg)))], [.int c, .ref 20, .int c, .ref 20], 0, 0, (mSH, I, L))) rfl ?_
    refine mRq (s2 := (d + 2, 56, 34, [some (.ref 10), some (.int c), some (.int n), some (.int v2), some (.int v3), some (.int (v3 + (I 12 n.toNatClampNeg)))], [.int (I 20 c.toNatClampNeg), .int c, .ref 20], 0, 0, (mSH, I, L))) rfl (mVp_of hc) ?_
    refine mB 3 (s2 := (d + 2, 56, 39, [some (.ref 10), some (.int c), some (.int n), some (.int v2), some (.int v3), some (.int (v3 + (I 12 n.toNatClampNeg)))], [.int n, .ref 20, .int (I 20 c.toNatClampNeg), .int c, .ref 20], 0, 0, (mSH, I, L))) rfl ?_
    refine mRq (s2 := (d + 2, 56, 40, [some (.ref 10), some (.int c), some (.int n), some (.int v2), some (.int v3), some (.int (v3 + (I 12 n.toNatClampNeg)))], [.int (I 20 n.toNatClampNeg), .int (I 20 c.toNatClampNeg), .int c, .ref 20], 0, 0, (mSH, I, L))) rfl (mVp_of hn) ?_
    refine mB 1 (s2 := (d + 2, 56, 41, [some (.ref 10), some (.int c), some (.int n), some (.int v2), some (.int v3), some (.int (v3 + (I 12 n.toNatClampNeg)))], [.int ((I 20 c.toNatClampNeg) + (I 20 n.toNatClampNeg)), .int c, .ref 20], 0, 0, (mSH, I, L))) rfl ?_
    refine mRq (s2 := (d + 2, 56, 42, [some (.ref 10), some (.int c), some (.int n), some (.int v2), some (.int v3), some (.int (v3 + (I 12 n.toNatClampNeg)))], [], 0, 0, (mSH, (mUp I 20 c.toNatClampNeg ((I 20 c.toNatClampNeg) + (I 20 n.toNatClampNeg))), L))) rfl (mVp_of hc) ?_
    refine mB 4 (s2 := (d + 2, 56, 49, [some (.ref 10), some (.int c), some (.int n), some (.int v2), some (.int v3), some (.int (v3 + (I 12 n.toNatClampNeg)))], [.int 0, .ref 11, .int (v3 + (I 12 n.toNatClampNeg))], 0, 0, (mSH, (mUp I 20 c.toNatClampNeg ((I 20 c.toNatClampNeg) + (I 20 n.toNatClampNeg))), L))) rfl ?_
    refine mRq (s2 := (d + 2, 56, 50, [some (.ref 10), some (.int c), some (.int n), some (.int v2), some (.int v3), some (.int (v3 + (I 12 n.toNatClampNeg)))], [.ref 12, .int (v3 + (I 12 n.toNatClampNeg))], 0, 0, (mSH, (mUp I 20 c.toNatClampNeg ((I 20 c.toNatClampNeg) + (I 20 n.toNatClampNeg))), L))) rfl (by decide) ?_
    refine mB 1 (s2 := (d + 2, 56, 51, [some (.ref 10), some (.int c), some (.int n), some (.int v2), some (.int v3), some (.int (v3 + (I 12 n.toNatClampNeg)))], [.int c, .ref 12, .int (v3 + (I 12 n.toNatClampNeg))], 0, 0, (mSH, (mUp I 20 c.toNatClampNeg ((I 20 c.toNatClampNeg) + (I 20 n.toNatClampNeg))), L))) rfl ?_
    refine mRq (s2 := (d + 2, 56, 52, [some (.ref 10), some (.int c), some (.int n), some (.int v2), some (.int v3), some (.int (v3 + (I 12 n.toNatClampNeg)))], [.int (I 12 c.toNatClampNeg), .int (v3 + (I 12 n.toNatClampNeg))], 0, 0, (mSH, (mUp I 20 c.toNatClampNeg ((I 20 c.toNatClampNeg) + (I 20 n.toNatClampNeg))), L))) rfl (mVp_of hc) ?_
    refine mBr (s2 := (d + 2, 56, 70, [some (.ref 10), some (.int c), some (.int n), some (.int v2), some (.int v3), some (.int (v3 + (I 12 n.toNatClampNeg)))], [], 0, 0, (mSH, (mUp I 20 c.toNatClampNeg ((I 20 c.toNatClampNeg) + (I 20 n.toNatClampNeg))), L))) (s3 := (d + 2, 56, 55, [some (.ref 10), some (.int c), some (.int n), some (.int v2), some (.int v3), some (.int (v3 + (I 12 n.toNatClampNeg)))], [], 0, 0, (mSH, (mUp I 20 c.toNatClampNeg ((I 20 c.toNatClampNeg) + (I 20 n.toNatClampNeg))), L))) rfl (fun c1 => ?_) (fun c1 => ?_)
    · refine mB 4 (s2 := (d + 2, 56, 77, [some (.ref 10), some (.int c), some (.int n), some (.int v2), some (.int v3), some (.int (v3 + (I 12 n.toNatClampNeg)))], [.int 0, .ref 11, .int (v3 + (I 12 n.toNatClampNeg))], 0, 0, (mSH, (mUp I 20 c.toNatClampNeg ((I 20 c.toNatClampNeg) + (I 20 n.toNatClampNeg))), L))) rfl ?_
      refine mRq (s2 := (d + 2, 56, 78, [some (.ref 10), some (.int c), some (.int n), some (.int v2), some (.int v3), some (.int (v3 + (I 12 n.toNatClampNeg)))], [.ref 12, .int (v3 + (I 12 n.toNatClampNeg))], 0, 0, (mSH, (mUp I 20 c.toNatClampNeg ((I 20 c.toNatClampNeg) + (I 20 n.toNatClampNeg))), L))) rfl (by decide) ?_
      refine mB 1 (s2 := (d + 2, 56, 79, [some (.ref 10), some (.int c), some (.int n), some (.int v2), some (.int v3), some (.int (v3 + (I 12 n.toNatClampNeg)))], [.int c, .ref 12, .int (v3 + (I 12 n.toNatClampNeg))], 0, 0, (mSH, (mUp I 20 c.toNatClampNeg ((I 20 c.toNatClampNeg) + (I 20 n.toNatClampNeg))), L))) rfl ?_
      refine mRq (s2 := (d + 2, 56, 80, [some (.ref 10), some (.int c), some (.int n), some (.int v2), some (.int v3), some (.int (v3 + (I 12 n.toNatClampNeg)))], [.int (I 12 c.toNatClampNeg), .int (v3 + (I 12 n.toNatClampNeg))], 0, 0, (mSH, (mUp I 20 c.toNatClampNeg ((I 20 c.toNatClampNeg) + (I 20 n.toNatClampNeg))), L))) rfl (mVp_of hc) ?_
      refine mBr (s2 := (d + 2, 56, 83, [some (.ref 10), some (.int c), some (.int n), some (.int v2), some (.int v3), some (.int (v3 + (I 12 n.toNatClampNeg)))], [], 0, 0, (mSH, (mUp I 20 c.toNatClampNeg ((I 20 c.toNatClampNeg) + (I 20 n.toNatClampNeg))), L))) (s3 := (d + 2, 56, 98, [some (.ref 10), some (.int c), some (.int n), some (.int v2), some (.int v3), some (.int (v3 + (I 12 n.toNatClampNeg)))], [], 0, 0, (mSH, (mUp I 20 c.toNatClampNeg ((I 20 c.toNatClampNeg) + (I 20 n.toNatClampNeg))), L))) rfl (fun c2 => ?_) (fun c2 => ?_)
      · refine mB 4 (s2 := (d + 2, 56, 89, [some (.ref 10), some (.int c), some (.int n), some (.int v2), some (.int v3), some (.int (v3 + (I 12 n.toNatClampNeg)))], [.int c, .ref 21, .int c, .ref 21], 0, 0, (mSH, (mUp I 20 c.toNatClampNeg ((I 20 c.toNatClampNeg) + (I 20 n.toNatClampNeg))), L))) rfl ?_
        refine mRq (s2 := (d + 2, 56, 90, [some (.ref 10), some (.int c), some (.int n), some (.int v2), some (.int v3), some (.int (v3 + (I 12 n.toNatClampNeg)))], [.int (I 21 c.toNatClampNeg), .int c, .ref 21], 0, 0, (mSH, (mUp I 20 c.toNatClampNeg ((I 20 c.toNatClampNeg) + (I 20 n.toNatClampNeg))), L))) rfl (mVp_of hc) ?_
        refine mB 3 (s2 := (d + 2, 56, 95, [some (.ref 10), some (.int c), some (.int n), some (.int v2), some (.int v3), some (.int (v3 + (I 12 n.toNatClampNeg)))], [.int n, .ref 21, .int (I 21 c.toNatClampNeg), .int c, .ref 21], 0, 0, (mSH, (mUp I 20 c.toNatClampNeg ((I 20 c.toNatClampNeg) + (I 20 n.toNatClampNeg))), L))) rfl ?_
        refine mRq (s2 := (d + 2, 56, 96, [some (.ref 10), some (.int c), some (.int n), some (.int v2), some (.int v3), some (.int (v3 + (I 12 n.toNatClampNeg)))], [.int (I 21 n.toNatClampNeg), .int (I 21 c.toNatClampNeg), .int c, .ref 21], 0, 0, (mSH, (mUp I 20 c.toNatClampNeg ((I 20 c.toNatClampNeg) + (I 20 n.toNatClampNeg))), L))) rfl (mVp_of hn) ?_
        refine mB 1 (s2 := (d + 2, 56, 97, [some (.ref 10), some (.int c), some (.int n), some (.int v2), some (.int v3), some (.int (v3 + (I 12 n.toNatClampNeg)))], [.int ((I 21 c.toNatClampNeg) + (I 21 n.toNatClampNeg)), .int c, .ref 21], 0, 0, (mSH, (mUp I 20 c.toNatClampNeg ((I 20 c.toNatClampNeg) + (I 20 n.toNatClampNeg))), L))) rfl ?_
        refine mRq (s2 := (d + 2, 56, 98, [some (.ref 10), some (.int c), some (.int n), some (.int v2), some (.int v3), some (.int (v3 + (I 12 n.toNatClampNeg)))], [], 0, 0, (mSH, (mUp (mUp I 20 c.toNatClampNeg ((I 20 c.toNatClampNeg) + (I 20 n.toNatClampNeg))) 21 c.toNatClampNeg ((I 21 c.toNatClampNeg) + (I 21 n.toNatClampNeg))), L))) rfl (mVp_of hc) ?_
        refine mB 5 (s2 := (d + 2, 56, 104, [some (.ref 10), some (.int c), some (.int n), some (.int v2), some (.int v3), some (.int (v3 + (I 12 n.toNatClampNeg)))], [.int 0, .int v2, .int (v3 + (I 12 n.toNatClampNeg)), .int c, .ref 10], 0, 0, (mSH, (mUp (mUp I 20 c.toNatClampNeg ((I 20 c.toNatClampNeg) + (I 20 n.toNatClampNeg))) 21 c.toNatClampNeg ((I 21 c.toNatClampNeg) + (I 21 n.toNatClampNeg))), L))) rfl ?_
        refine mCall (s2 := (d + 1, 57, 0, [some (.ref 10), some (.int c), some (.int (v3 + (I 12 n.toNatClampNeg))), some (.int v2), some (.int 0)], [], 0, 0, (mSH, (mUp (mUp I 20 c.toNatClampNeg ((I 20 c.toNatClampNeg) + (I 20 n.toNatClampNeg))) 21 c.toNatClampNeg ((I 21 c.toNatClampNeg) + (I 21 n.toNatClampNeg))), L))) rfl ?_
        refine x_offer_0 (x := f u.1) (b := (t.1, t.2.1)) (mRk.up (mRk.up hR (by rfl) (by rfl)) (by rfl) (by rfl)) hc rfl (show bs_P P (mUp (mUp I 20 c.toNatClampNeg ((I 20 c.toNatClampNeg) + (I 20 n.toNatClampNeg))) 21 c.toNatClampNeg ((I 21 c.toNatClampNeg) + (I 21 n.toNatClampNeg))) _ _ from hC.1) e1 (e3 (mt hz.mpr (of_decide_eq_false c0))) l1 l2 (hx0 (mt hz.mpr (of_decide_eq_false c0))) (fun K1 fK1 rK1 pK1 wK1 lK1 => ?_)
        show mWP mTb_ mFT ro (d + 2, 56, 107, [some (.ref 10), some (.int c), some (.int n), some (.int v2), some (.int v3), some (.int (v3 + (I 12 n.toNatClampNeg)))], [], 0, 0, (mSH, K1, L)) _
        refine mB 3 (s2 := (d + 2, 56, 112, [some (.ref 10), some (.int c), some (.int n), some (.int v2), some (.int v3), some (.int (v3 + (I 12 n.toNatClampNeg)))], [.int 1, .ref 11], 0, 0, (mSH, K1, L))) rfl ?_
        refine mRq (s2 := (d + 2, 56, 113, [some (.ref 10), some (.int c), some (.int n), some (.int v2), some (.int v3), some (.int (v3 + (I 12 n.toNatClampNeg)))], [.ref 13], 0, 0, (mSH, K1, L))) rfl (by decide) ?_
        refine mB 1 (s2 := (d + 2, 56, 114, [some (.ref 10), some (.int c), some (.int n), some (.int v2), some (.int v3), some (.int (v3 + (I 12 n.toNatClampNeg)))], [.int n, .ref 13], 0, 0, (mSH, K1, L))) rfl ?_
        refine mRq (s2 := (d + 2, 56, 115, [some (.ref 10), some (.int c), some (.int n), some (.int v2), some (.int v3), some (.int (v3 + (I 12 n.toNatClampNeg)))], [.int (K1 13 n.toNatClampNeg)], 0, 0, (mSH, K1, L))) rfl (mVp_of hn) ?_
        refine mB 1 (s2 := (d + 2, 56, 117, [some (.ref 10), some (.int c), some (.int n), some (.int v2), some (.int v3), some (.int (v3 + (I 12 n.toNatClampNeg)))], [.int 1000000000, .int (K1 13 n.toNatClampNeg)], 0, 0, (mSH, K1, L))) rfl ?_
        refine mBr (s2 := (d + 2, 56, 138, [some (.ref 10), some (.int c), some (.int n), some (.int v2), some (.int v3), some (.int (v3 + (I 12 n.toNatClampNeg)))], [], 0, 0, (mSH, K1, L))) (s3 := (d + 2, 56, 120, [some (.ref 10), some (.int c), some (.int n), some (.int v2), some (.int v3), some (.int (v3 + (I 12 n.toNatClampNeg)))], [], 0, 0, (mSH, K1, L))) rfl (fun c3 => ?_) (fun c3 => ?_)
        · refine mRt (r := none) (h := (mSH, K1, L)) rfl rfl ?_
          exact hq _ ((bs_F.up (by rfl) (bs_F.up (by rfl) bs_F.rf)).tr fK1) rK1 (bs_jf (mt hz.mpr (of_decide_eq_false c0)) (by unfold bt_j2; rw [if_pos ((hz1 _ (fK1.2 13 _ hcn)).mp (of_decide_eq_true c3))]; exact pK1) (by rw [wK1, mUp_row (show (20 : Nat) ≠ 21 by omega), mUp_h, hC.2.1, hN.2.1, nI_add]) (by rw [lK1, mUp_h, hC.2.2, hN.2.2, nI_add, bt_lw1 ((lE (mt hz.mpr (of_decide_eq_false c0))).mp (of_decide_eq_true c2))]))
        · refine mB 6 (s2 := (d + 2, 56, 129, [some (.ref 10), some (.int c), some (.int n), some (.int v2), some (.int v3), some (.int (v3 + (I 12 n.toNatClampNeg)))], [.int 1, .ref 11, .int v3, .int c, .ref 10], 0, 0, (mSH, K1, L))) rfl ?_
          refine mRq (s2 := (d + 2, 56, 130, [some (.ref 10), some (.int c), some (.int n), some (.int v2), some (.int v3), some (.int (v3 + (I 12 n.toNatClampNeg)))], [.ref 13, .int v3, .int c, .ref 10], 0, 0, (mSH, K1, L))) rfl (by decide) ?_
          refine mB 1 (s2 := (d + 2, 56, 131, [some (.ref 10), some (.int c), some (.int n), some (.int v2), some (.int v3), some (.int (v3 + (I 12 n.toNatClampNeg)))], [.int n, .ref 13, .int v3, .int c, .ref 10], 0, 0, (mSH, K1, L))) rfl ?_
          refine mRq (s2 := (d + 2, 56, 132, [some (.ref 10), some (.int c), some (.int n), some (.int v2), some (.int v3), some (.int (v3 + (I 12 n.toNatClampNeg)))], [.int (K1 13 n.toNatClampNeg), .int v3, .int c, .ref 10], 0, 0, (mSH, K1, L))) rfl (mVp_of hn) ?_
          refine mB 3 (s2 := (d + 2, 56, 135, [some (.ref 10), some (.int c), some (.int n), some (.int v2), some (.int v3), some (.int (v3 + (I 12 n.toNatClampNeg)))], [.int 1, .int v2, .int (v3 + (K1 13 n.toNatClampNeg)), .int c, .ref 10], 0, 0, (mSH, K1, L))) rfl ?_
          refine mCall (s2 := (d + 1, 57, 0, [some (.ref 10), some (.int c), some (.int (v3 + (K1 13 n.toNatClampNeg))), some (.int v2), some (.int 1)], [], 0, 0, (mSH, K1, L))) rfl ?_
          refine x_offer_1 (x := f u.2.1) rK1 hc rfl pK1 (e2 _ (fK1.2 13 _ hcn)) (e4 (mt (hz1 _ (fK1.2 13 _ hcn)).mpr (of_decide_eq_false c3))) (b3 (mt hz.mpr (of_decide_eq_false c0))) (b4 (mt hz.mpr (of_decide_eq_false c0))) (hx1 (mt (hz1 _ (fK1.2 13 _ hcn)).mpr (of_decide_eq_false c3))) (fun K2 fK2 rK2 pK2 wK2 lK2 => ?_)
          show mWP mTb_ mFT ro (d + 2, 56, 138, [some (.ref 10), some (.int c), some (.int n), some (.int v2), some (.int v3), some (.int (v3 + (I 12 n.toNatClampNeg)))], [], 0, 0, (mSH, K2, L)) _
          refine mRt (r := none) (h := (mSH, K2, L)) rfl rfl ?_
          exact hq _ (((bs_F.up (by rfl) (bs_F.up (by rfl) bs_F.rf)).tr fK1).tr fK2) rK2 (bs_jf (mt hz.mpr (of_decide_eq_false c0)) (by unfold bt_j2; rw [if_neg (mt (hz1 _ (fK1.2 13 _ hcn)).mpr (of_decide_eq_false c3))]; exact pK2) (by rw [wK2, wK1, mUp_row (show (20 : Nat) ≠ 21 by omega), mUp_h, hC.2.1, hN.2.1, nI_add]) (by rw [lK2, lK1, mUp_h, hC.2.2, hN.2.2, nI_add, bt_lw1 ((lE (mt hz.mpr (of_decide_eq_false c0))).mp (of_decide_eq_true c2))]))
      · refine mB 5 (s2 := (d + 2, 56, 104, [some (.ref 10), some (.int c), some (.int n), some (.int v2), some (.int v3), some (.int (v3 + (I 12 n.toNatClampNeg)))], [.int 0, .int v2, .int (v3 + (I 12 n.toNatClampNeg)), .int c, .ref 10], 0, 0, (mSH, (mUp I 20 c.toNatClampNeg ((I 20 c.toNatClampNeg) + (I 20 n.toNatClampNeg))), L))) rfl ?_
        refine mCall (s2 := (d + 1, 57, 0, [some (.ref 10), some (.int c), some (.int (v3 + (I 12 n.toNatClampNeg))), some (.int v2), some (.int 0)], [], 0, 0, (mSH, (mUp I 20 c.toNatClampNeg ((I 20 c.toNatClampNeg) + (I 20 n.toNatClampNeg))), L))) rfl ?_
        refine x_offer_0 (x := f u.1) (b := (t.1, t.2.1)) (mRk.up hR (by rfl) (by rfl)) hc rfl (show bs_P P (mUp I 20 c.toNatClampNeg ((I 20 c.toNatClampNeg) + (I 20 n.toNatClampNeg))) _ _ from hC.1) e1 (e3 (mt hz.mpr (of_decide_eq_false c0))) l1 l2 (hx0 (mt hz.mpr (of_decide_eq_false c0))) (fun K3 fK3 rK3 pK3 wK3 lK3 => ?_)
        show mWP mTb_ mFT ro (d + 2, 56, 107, [some (.ref 10), some (.int c), some (.int n), some (.int v2), some (.int v3), some (.int (v3 + (I 12 n.toNatClampNeg)))], [], 0, 0, (mSH, K3, L)) _
        refine mB 3 (s2 := (d + 2, 56, 112, [some (.ref 10), some (.int c), some (.int n), some (.int v2), some (.int v3), some (.int (v3 + (I 12 n.toNatClampNeg)))], [.int 1, .ref 11], 0, 0, (mSH, K3, L))) rfl ?_
        refine mRq (s2 := (d + 2, 56, 113, [some (.ref 10), some (.int c), some (.int n), some (.int v2), some (.int v3), some (.int (v3 + (I 12 n.toNatClampNeg)))], [.ref 13], 0, 0, (mSH, K3, L))) rfl (by decide) ?_
        refine mB 1 (s2 := (d + 2, 56, 114, [some (.ref 10), some (.int c), some (.int n), some (.int v2), some (.int v3), some (.int (v3 + (I 12 n.toNatClampNeg)))], [.int n, .ref 13], 0, 0, (mSH, K3, L))) rfl ?_
        refine mRq (s2 := (d + 2, 56, 115, [some (.ref 10), some (.int c), some (.int n), some (.int v2), some (.int v3), some (.int (v3 + (I 12 n.toNatClampNeg)))], [.int (K3 13 n.toNatClampNeg)], 0, 0, (mSH, K3, L))) rfl (mVp_of hn) ?_
        refine mB 1 (s2 := (d + 2, 56, 117, [some (.ref 10), some (.int c), some (.int n), some (.int v2), some (.int v3), some (.int (v3 + (I 12 n.toNatClampNeg)))], [.int 1000000000, .int (K3 13 n.toNatClampNeg)], 0, 0, (mSH, K3, L))) rfl ?_
        refine mBr (s2 := (d + 2, 56, 138, [some (.ref 10), some (.int c), some (.int n), some (.int v2), some (.int v3), some (.int (v3 + (I 12 n.toNatClampNeg)))], [], 0, 0, (mSH, K3, L))) (s3 := (d + 2, 56, 120, [some (.ref 10), some (.int c), some (.int n), some (.int v2), some (.int v3), some (.int (v3 + (I 12 n.toNatClampNeg)))], [], 0, 0, (mSH, K3, L))) rfl (fun c3 => ?_) (fun c3 => ?_)
        · refine mRt (r := none) (h := (mSH, K3, L)) rfl rfl ?_
          exact hq _ ((bs_F.up (by rfl) bs_F.rf).tr fK3) rK3 (bs_jf (mt hz.mpr (of_decide_eq_false c0)) (by unfold bt_j2; rw [if_pos ((hz1 _ (fK3.2 13 _ hcn)).mp (of_decide_eq_true c3))]; exact pK3) (by rw [wK3, mUp_h, hC.2.1, hN.2.1, nI_add]) (by rw [lK3, mUp_row (by omega), hC.2.2, bt_lw2 ((lA (mt hz.mpr (of_decide_eq_false c0))).mp (of_decide_eq_true c1)) (mt (lE (mt hz.mpr (of_decide_eq_false c0))).mpr (of_decide_eq_false c2))]))
        · refine mB 6 (s2 := (d + 2, 56, 129, [some (.ref 10), some (.int c), some (.int n), some (.int v2), some (.int v3), some (.int (v3 + (I 12 n.toNatClampNeg)))], [.int 1, .ref 11, .int v3, .int c, .ref 10], 0, 0, (mSH, K3, L))) rfl ?_
          refine mRq (s2 := (d + 2, 56, 130, [some (.ref 10), some (.int c), some (.int n), some (.int v2), some (.int v3), some (.int (v3 + (I 12 n.toNatClampNeg)))], [.ref 13, .int v3, .int c, .ref 10], 0, 0, (mSH, K3, L))) rfl (by decide) ?_
          refine mB 1 (s2 := (d + 2, 56, 131, [some (.ref 10), some (.int c), some (.int n), some (.int v2), some (.int v3), some (.int (v3 + (I 12 n.toNatClampNeg)))], [.int n, .ref 13, .int v3, .int c, .ref 10], 0, 0, (mSH, K3, L))) rfl ?_
          refine mRq (s2 := (d + 2, 56, 132, [some (.ref 10), some (.int c), some (.int n), some (.int v2), some (.int v3), some (.int (v3 + (I 12 n.toNatClampNeg)))], [.int (K3 13 n.toNatClampNeg), .int v3, .int c, .ref 10], 0, 0, (mSH, K3, L))) rfl (mVp_of hn) ?_
          refine mB 3 (s2 := (d + 2, 56, 135, [some (.ref 10), some (.int c), some (.int n), some (.int v2), some (.int v3), some (.int (v3 + (I 12 n.toNatClampNeg)))], [.int 1, .int v2, .int (v3 + (K3 13 n.toNatClampNeg)), .int c, .ref 10], 0, 0, (mSH, K3, L))) rfl ?_
          refine mCall (s2 := (d + 1, 57, 0, [some (.ref 10), some (.int c), some (.int (v3 + (K3 13 n.toNatClampNeg))), some (.int v2), some (.int 1)], [], 0, 0, (mSH, K3, L))) rfl ?_
          refine x_offer_1 (x := f u.2.1) rK3 hc rfl pK3 (e2 _ (fK3.2 13 _ hcn)) (e4 (mt (hz1 _ (fK3.2 13 _ hcn)).mpr (of_decide_eq_false c3))) (b3 (mt hz.mpr (of_decide_eq_false c0))) (b4 (mt hz.mpr (of_decide_eq_false c0))) (hx1 (mt (hz1 _ (fK3.2 13 _ hcn)).mpr (of_decide_eq_false c3))) (fun K4 fK4 rK4 pK4 wK4 lK4 => ?_)
          show mWP mTb_ mFT ro (d + 2, 56, 138, [some (.ref 10), some (.int c), some (.int n), some (.int v2), some (.int v3), some (.int (v3 + (I 12 n.toNatClampNeg)))], [], 0, 0, (mSH, K4, L)) _
          refine mRt (r := none) (h := (mSH, K4, L)) rfl rfl ?_
          exact hq _ (((bs_F.up (by rfl) bs_F.rf).tr fK3).tr fK4) rK4 (bs_jf (mt hz.mpr (of_decide_eq_false c0)) (by unfold bt_j2; rw [if_neg (mt (hz1 _ (fK3.2 13 _ hcn)).mpr (of_decide_eq_false c3))]; exact pK4) (by rw [wK4, wK3, mUp_h, hC.2.1, hN.2.1, nI_add]) (by rw [lK4, lK3, mUp_row (by omega), hC.2.2, bt_lw2 ((lA (mt hz.mpr (of_decide_eq_false c0))).mp (of_decide_eq_true c1)) (mt (lE (mt hz.mpr (of_decide_eq_false c0))).mpr (of_decide_eq_false c2))]))
    · refine mB 6 (s2 := (d + 2, 56, 65, [some (.ref 10), some (.int c), some (.int n), some (.int v2), some (.int v3), some (.int (v3 + (I 12 n.toNatClampNeg)))], [.int n, .ref 21, .int c, .ref 21], 0, 0, (mSH, (mUp I 20 c.toNatClampNeg ((I 20 c.toNatClampNeg) + (I 20 n.toNatClampNeg))), L))) rfl ?_
      refine mRq (s2 := (d + 2, 56, 66, [some (.ref 10), some (.int c), some (.int n), some (.int v2), some (.int v3), some (.int (v3 + (I 12 n.toNatClampNeg)))], [.int (I 21 n.toNatClampNeg), .int c, .ref 21], 0, 0, (mSH, (mUp I 20 c.toNatClampNeg ((I 20 c.toNatClampNeg) + (I 20 n.toNatClampNeg))), L))) rfl (mVp_of hn) ?_
      refine mRq (s2 := (d + 2, 56, 67, [some (.ref 10), some (.int c), some (.int n), some (.int v2), some (.int v3), some (.int (v3 + (I 12 n.toNatClampNeg)))], [], 0, 0, (mSH, (mUp (mUp I 20 c.toNatClampNeg ((I 20 c.toNatClampNeg) + (I 20 n.toNatClampNeg))) 21 c.toNatClampNeg (I 21 n.toNatClampNeg)), L))) rfl (mVp_of hc) ?_
      refine mB 6 (s2 := (d + 2, 56, 104, [some (.ref 10), some (.int c), some (.int n), some (.int v2), some (.int v3), some (.int (v3 + (I 12 n.toNatClampNeg)))], [.int 0, .int v2, .int (v3 + (I 12 n.toNatClampNeg)), .int c, .ref 10], 0, 0, (mSH, (mUp (mUp I 20 c.toNatClampNeg ((I 20 c.toNatClampNeg) + (I 20 n.toNatClampNeg))) 21 c.toNatClampNeg (I 21 n.toNatClampNeg)), L))) rfl ?_
      refine mCall (s2 := (d + 1, 57, 0, [some (.ref 10), some (.int c), some (.int (v3 + (I 12 n.toNatClampNeg))), some (.int v2), some (.int 0)], [], 0, 0, (mSH, (mUp (mUp I 20 c.toNatClampNeg ((I 20 c.toNatClampNeg) + (I 20 n.toNatClampNeg))) 21 c.toNatClampNeg (I 21 n.toNatClampNeg)), L))) rfl ?_
      refine x_offer_0 (x := f u.1) (b := (t.1, t.2.1)) (mRk.up (mRk.up hR (by rfl) (by rfl)) (by rfl) (by rfl)) hc rfl (show bs_P P (mUp (mUp I 20 c.toNatClampNeg ((I 20 c.toNatClampNeg) + (I 20 n.toNatClampNeg))) 21 c.toNatClampNeg (I 21 n.toNatClampNeg)) _ _ from hC.1) e1 (e3 (mt hz.mpr (of_decide_eq_false c0))) l1 l2 (hx0 (mt hz.mpr (of_decide_eq_false c0))) (fun K5 fK5 rK5 pK5 wK5 lK5 => ?_)
      show mWP mTb_ mFT ro (d + 2, 56, 107, [some (.ref 10), some (.int c), some (.int n), some (.int v2), some (.int v3), some (.int (v3 + (I 12 n.toNatClampNeg)))], [], 0, 0, (mSH, K5, L)) _
      refine mB 3 (s2 := (d + 2, 56, 112, [some (.ref 10), some (.int c), some (.int n), some (.int v2), some (.int v3), some (.int (v3 + (I 12 n.toNatClampNeg)))], [.int 1, .ref 11], 0, 0, (mSH, K5, L))) rfl ?_
      refine mRq (s2 := (d + 2, 56, 113, [some (.ref 10), some (.int c), some (.int n), some (.int v2), some (.int v3), some (.int (v3 + (I 12 n.toNatClampNeg)))], [.ref 13], 0, 0, (mSH, K5, L))) rfl (by decide) ?_
      refine mB 1 (s2 := (d + 2, 56, 114, [some (.ref 10), some (.int c), some (.int n), some (.int v2), some (.int v3), some (.int (v3 + (I 12 n.toNatClampNeg)))], [.int n, .ref 13], 0, 0, (mSH, K5, L))) rfl ?_
      refine mRq (s2 := (d + 2, 56, 115, [some (.ref 10), some (.int c), some (.int n), some (.int v2), some (.int v3), some (.int (v3 + (I 12 n.toNatClampNeg)))], [.int (K5 13 n.toNatClampNeg)], 0, 0, (mSH, K5, L))) rfl (mVp_of hn) ?_
      refine mB 1 (s2 := (d + 2, 56, 117, [some (.ref 10), some (.int c), some (.int n), some (.int v2), some (.int v3), some (.int (v3 + (I 12 n.toNatClampNeg)))], [.int 1000000000, .int (K5 13 n.toNatClampNeg)], 0, 0, (mSH, K5, L))) rfl ?_
      refine mBr (s2 := (d + 2, 56, 138, [some (.ref 10), some (.int c), some (.int n), some (.int v2), some (.int v3), some (.int (v3 + (I 12 n.toNatClampNeg)))], [], 0, 0, (mSH, K5, L))) (s3 := (d + 2, 56, 120, [some (.ref 10), some (.int c), some (.int n), some (.int v2), some (.int v3), some (.int (v3 + (I 12 n.toNatClampNeg)))], [], 0, 0, (mSH, K5, L))) rfl (fun c2 => ?_) (fun c2 => ?_)
      · refine mRt (r := none) (h := (mSH, K5, L)) rfl rfl ?_
        exact hq _ ((bs_F.up (by rfl) (bs_F.up (by rfl) bs_F.rf)).tr fK5) rK5 (bs_jf (mt hz.mpr (of_decide_eq_false c0)) (by unfold bt_j2; rw [if_pos ((hz1 _ (fK5.2 13 _ hcn)).mp (of_decide_eq_true c2))]; exact pK5) (by rw [wK5, mUp_row (show (20 : Nat) ≠ 21 by omega), mUp_h, hC.2.1, hN.2.1, nI_add]) (by rw [lK5, mUp_h, hN.2.2, bt_lw0 (Nat.lt_of_not_le (mt (lA (mt hz.mpr (of_decide_eq_false c0))).mpr (of_decide_eq_false c1)))]))
      · refine mB 6 (s2 := (d + 2, 56, 129, [some (.ref 10), some (.int c), some (.int n), some (.int v2), some (.int v3), some (.int (v3 + (I 12 n.toNatClampNeg)))], [.int 1, .ref 11, .int v3, .int c, .ref 10], 0, 0, (mSH, K5, L))) rfl ?_
        refine mRq (s2 := (d + 2, 56, 130, [some (.ref 10), some (.int c), some (.int n), some (.int v2), some (.int v3), some (.int (v3 + (I 12 n.toNatClampNeg)))], [.ref 13, .int v3, .int c, .ref 10], 0, 0, (mSH, K5, L))) rfl (by decide) ?_
        refine mB 1 (s2 := (d + 2, 56, 131, [some (.ref 10), some (.int c), some (.int n), some (.int v2), some (.int v3), some (.int (v3 + (I 12 n.toNatClampNeg)))], [.int n, .ref 13, .int v3, .int c, .ref 10], 0, 0, (mSH, K5, L))) rfl ?_
        refine mRq (s2 := (d + 2, 56, 132, [some (.ref 10), some (.int c), some (.int n), some (.int v2), some (.int v3), some (.int (v3 + (I 12 n.toNatClampNeg)))], [.int (K5 13 n.toNatClampNeg), .int v3, .int c, .ref 10], 0, 0, (mSH, K5, L))) rfl (mVp_of hn) ?_
        refine mB 3 (s2 := (d + 2, 56, 135, [some (.ref 10), some (.int c), some (.int n), some (.int v2), some (.int v3), some (.int (v3 + (I 12 n.toNatClampNeg)))], [.int 1, .int v2, .int (v3 + (K5 13 n.toNatClampNeg)), .int c, .ref 10], 0, 0, (mSH, K5, L))) rfl ?_
        refine mCall (s2 := (d + 1, 57, 0, [some (.ref 10), some (.int c), some (.int (v3 + (K5 13 n.toNatClampNeg))), some (.int v2), some (.int 1)], [], 0, 0, (mSH, K5, L))) rfl ?_
        refine x_offer_1 (x := f u.2.1) rK5 hc rfl pK5 (e2 _ (fK5.2 13 _ hcn)) (e4 (mt (hz1 _ (fK5.2 13 _ hcn)).mpr (of_decide_eq_false c2))) (b3 (mt hz.mpr (of_decide_eq_false c0))) (b4 (mt hz.mpr (of_decide_eq_false c0))) (hx1 (mt (hz1 _ (fK5.2 13 _ hcn)).mpr (of_decide_eq_false c2))) (fun K6 fK6 rK6 pK6 wK6 lK6 => ?_)
        show mWP mTb_ mFT ro (d + 2, 56, 138, [some (.ref 10), some (.int c), some (.int n), some (.int v2), some (.int v3), some (.int (v3 + (I 12 n.toNatClampNeg)))], [], 0, 0, (mSH, K6, L)) _
        refine mRt (r := none) (h := (mSH, K6, L)) rfl rfl ?_
        exact hq _ (((bs_F.up (by rfl) (bs_F.up (by rfl) bs_F.rf)).tr fK5).tr fK6) rK6 (bs_jf (mt hz.mpr (of_decide_eq_false c0)) (by unfold bt_j2; rw [if_neg (mt (hz1 _ (fK5.2 13 _ hcn)).mpr (of_decide_eq_false c2))]; exact pK6) (by rw [wK6, wK5, mUp_row (show (20 : Nat) ≠ 21 by omega), mUp_h, hC.2.1, hN.2.1, nI_add]) (by rw [lK6, lK5, mUp_h, hN.2.2, bt_lw0 (Nat.lt_of_not_le (mt (lA (mt hz.mpr (of_decide_eq_false c0))).mpr (of_decide_eq_false c1)))]))
