/-! What both sides are given; misfit. Written by a program (wip/mk_c.py). -/
/-- what is told is in its bounds -/
def pm_O (T : ct_S) (B : ct_B) (kd g pe : Nat) : Prop := ct_So T ∧ ct_Bo B ∧ ct_Jo g pe ∧ kd ≤ 3
/-- the class has it -/
def pm_C (T : ct_S) (B : ct_B) (kd g pe : Nat) (I : Nat → Nat → Int32) : Prop := cl_S T I ∧ cl_B 6 B I ∧ cl_B 7 ct_B0 I ∧ cl_J 9 g pe I ∧ I 9 0 = nI kd
/-- the reference has it -/
def pm_M (T : ct_S) (B : ct_B) (kd g pe : Nat) (I : Nat → Nat → Int32) : Prop := cm_S T I ∧ cl_B 37 B I ∧ cl_J 38 g pe I ∧ I 38 0 = nI kd
section PM
variable {T : ct_S} {B : ct_B} {kd g pe N : Nat} {I J : Nat → Nat → Int32} {x v y : Int32} {S : List Nat}
theorem pm_M.fr (h : pm_M T B kd g pe I) (f : mFr S I J) (h1 : mMem S 34 = false) (h2 : mMem S 35 = false) (h3 : mMem S 36 = false) (h4 : mMem S 37 = false) (h5 : mMem S 38 = false) : pm_M T B kd g pe J := by
  unfold pm_M cm_S cl_B cl_J
  rw [f 34 h1, f 35 h2, f 36 h3, f 37 h4, f 38 h5]
  exact h
theorem pm_n (h : 0 ≤ x.toInt) : x = nI x.toInt.toNat := by
  apply Int32.toInt_inj.mp
  have := x.toInt_lt
  rw [nI_toInt (by omega)]
  omega
theorem pm_ti (h : x = nI N) (hN : N < 2 ^ 31) : x.toInt = (N : Int) := by
  rw [h]
  exact nI_toInt hN
theorem pm_in (h : y = nI N) (hN : N ≤ 16) (h0 : ¬ v < 0) (h1 : ¬ y ≤ v) : ∃ j, j < N ∧ v = nI j := by
  obtain ⟨j, hj, e⟩ := nI_of h0
  subst e
  subst h
  refine ⟨j, ?_, rfl⟩
  rw [nI_leI (by omega) hj] at h1
  omega
theorem pm_tn {j : Nat} (hj : j < 2 ^ 31) : (nI j).toInt.toNat = j := by
  rw [nI_toInt hj]
  omega
end PM
abbrev ms_k (T : ct_S) (v0 v1 v2 : Int32) : Prop := (0 ≤ v0.toInt ∧ v0.toInt < T.1.2.1) ∧ (0 ≤ v1.toInt ∧ v1.toInt < T.1.1) ∧ (v2.toInt = 1 ∨ v2.toInt = 3 ∨ v2.toInt = 5)
/-- what misfit answers -/
def ms_R (T : ct_S) (B : ct_B) (kd g pe : Nat) (v0 v1 v2 : Int32) : Int32 := if ms_k T v0 v1 v2 then ct_r (ct_c T B kd g pe v0.toInt.toNat v1.toInt.toNat (v2.toInt.toNat / 2)) else -2
theorem ms_y {T : ct_S} {B : ct_B} {kd g pe j i p : Nat} (hT : ct_So T) (hj : j < T.1.2.1) (hi : i < T.1.1) (hp : p ≤ 2) : ct_r (ct_c T B kd g pe j i p) = ms_R T B kd g pe (nI j) (nI i) (nI (2 * p + 1)) := by
  have s16 := hT.1
  have n8 := hT.2.1
  have k : ms_k T (nI j) (nI i) (nI (2 * p + 1)) := by
    unfold ms_k
    rw [nI_toInt (by omega), nI_toInt (by omega), nI_toInt (by omega)]
    omega
  unfold ms_R
  rw [if_pos k, pm_tn (by omega), pm_tn (by omega), pm_tn (by omega), show (2 * p + 1) / 2 = p by omega]
theorem v_misfit1 {ro : Nat → Nat × (Nat → Int32)} {Q : mPo} {d : Nat} {I : Nat → Nat → Int32} {L : Nat → Nat → Int64} {T : ct_S} {B : ct_B} {kd g pe : Nat} {j i p : Nat} {ml : List (Option Value)} {x : Int32} (hO : pm_O T B kd g pe) (hC : pm_C T B kd g pe I) (hx : x = nI kd) (hj : j < T.1.2.1) (hi : i < T.1.1) (hp : p ≤ 2) (hq : Q (some (.int (ct_r (ct_c T B kd g pe j i p)))) (mSH, I, L)) : mWP mTb_ mFT ro (d + 7, 84, 61, ml, [.int (nI (2 * p + 1)), .int (nI i), .int (nI j), .int x, .ref 6, .ref 10], 0, 0, (mSH, I, L)) Q := by
  subst hx
  refine mCall (s2 := (d + 6, 51, 0, [some (.ref 10), some (.ref 6), some (.int (nI kd)), some (.int (nI j)), some (.int (nI i)), some (.int (nI (2 * p + 1))), none, none], [], 0, 0, (mSH, I, L))) rfl ?_
  have fin : mWP mTb_ mFT ro (d + 7, 84, 64, ml, [.int (ct_r (ct_c T B kd g pe j i p))], 0, 0, (mSH, I, L)) Q := mRt (r := some (.int (ct_r (ct_c T B kd g pe j i p)))) (h := (mSH, I, L)) rfl (mRet_int rfl) hq
  have kl : kd < 2 ^ 31 := by have := hO.2.2.2; omega
  match p, hp, fin with
  | 0, _, fin => exact x_cost_6_0 hO.1 hC.1 hC.2.1 hO.2.1 hC.2.2.2.1 hO.2.2.1 kl hj (Nat.le_of_lt hi) fin
  | 1, _, fin => exact x_cost_6_1 hO.1 hC.1 hC.2.1 hO.2.1 hC.2.2.2.1 hO.2.2.1 kl hj (Nat.le_of_lt hi) fin
  | 2, _, fin => exact x_cost_6_2 hO.1 hC.1 hC.2.1 hO.2.1 hC.2.2.2.1 hO.2.2.1 kl hj (Nat.le_of_lt hi) fin
theorem v_misfit {ro : Nat → Nat × (Nat → Int32)} {Q : mPo} {d : Nat} {I : Nat → Nat → Int32} {L : Nat → Nat → Int64} {T : ct_S} {B : ct_B} {kd g pe : Nat} {v0 v1 v2 : Int32} (hI : mIC I) (hO : pm_O T B kd g pe) (hC : pm_C T B kd g pe I) (hq : ∀ r I1, mFr mSQ I I1 → mIC I1 → r = ms_R T B kd g pe v0 v1 v2 → Q (some (.int r)) (mSH, I1, L))   : mWP mTb_ mFT ro (d + 7, 84, 0, [some (.ref 0), some (.int v0), some (.int v1), some (.int v2)], [], 0, 0, (mSH, I, L)) Q := by
  refine mB 4 (s2 := (d + 7, 84, 8, [some (.ref 0), some (.int v0), some (.int v1), some (.int v2)], [.int v0, .ref 4], 0, 0, (mSH, I, L))) rfl ?_
  refine mCall (s2 := (d + 6, 41, 0, [some (.ref 4), some (.int v0)], [], 0, 0, (mSH, I, L))) rfl ?_
  refine mB 1 (s2 := (d + 6, 41, 1, [some (.ref 4), some (.int v0)], [.int v0], 0, 0, (mSH, I, L))) rfl ?_
  refine mBr (s2 := (d + 6, 41, 16, [some (.ref 4), some (.int v0)], [], 0, 0, (mSH, I, L))) (s3 := (d + 6, 41, 4, [some (.ref 4), some (.int v0)], [], 0, 0, (mSH, I, L))) rfl (fun c0 => ?_) (fun c0 => ?_)
  · refine mB 1 (s2 := (d + 6, 41, 17, [some (.ref 4), some (.int v0)], [.int 0], 0, 0, (mSH, I, L))) rfl ?_
    refine mRt (r := (some (.int 0))) (h := (mSH, I, L)) rfl rfl ?_
    show mWP mTb_ mFT ro (d + 7, 84, 11, [some (.ref 0), some (.int v0), some (.int v1), some (.int v2)], [.int 0], 0, 0, (mSH, I, L)) _
    refine mBT (s2 := (d + 7, 84, 35, [some (.ref 0), some (.int v0), some (.int v1), some (.int v2)], [], 0, 0, (mSH, I, L))) rfl (by decide) ?_
    refine mB 2 (s2 := (d + 7, 84, 38, [some (.ref 0), some (.int v0), some (.int v1), some (.int v2)], [.int (-2), .ref 0], 0, 0, (mSH, I, L))) rfl ?_
    refine mCall (s2 := (d + 6, 103, 0, [some (.ref 0), some (.int (-2))], [], 0, 0, (mSH, I, L))) rfl ?_
    refine mB 2 (s2 := (d + 6, 103, 3, [some (.ref 0), some (.int (-2))], [.int (-2), .int (-2)], 0, 0, (mSH, I, L))) rfl ?_
    refine mBT (s2 := (d + 6, 103, 6, [some (.ref 0), some (.int (-2))], [], 0, 0, (mSH, I, L))) rfl (by decide) ?_
    refine mB 8 (s2 := (d + 6, 103, 49, [some (.ref 0), some (.int (-2))], [.int (-2)], 0, 0, (mSH, (mUp I 0 9 ((I 0 9) + 1)), L))) rfl ?_
    refine mRt (r := (some (.int (-2)))) (h := (mSH, (mUp I 0 9 ((I 0 9) + 1)), L)) rfl (mRet_int rfl) ?_
    show mWP mTb_ mFT ro (d + 7, 84, 41, [some (.ref 0), some (.int v0), some (.int v1), some (.int v2)], [.int (-2)], 0, 0, (mSH, (mUp I 0 9 ((I 0 9) + 1)), L)) _
    refine mRt (r := (some (.int (-2)))) (h := (mSH, (mUp I 0 9 ((I 0 9) + 1)), L)) rfl (mRet_int rfl) ?_
    exact hq _ _ (mFr.up (by rfl) mFr.rf) ⟨hI.1, hI.2.1, hI.2.2.1, hI.2.2.2.1, hI.2.2.2.2.1, hI.2.2.2.2.2.1, (mRk.up hI.2.2.2.2.2.2 (by rfl) (by rfl))⟩ (if_neg (c := ms_k T v0 v1 v2) (by have e1 := pm_ti hC.1.1 (by have := hO.1.1; omega); have e2 := pm_ti hC.1.2.1 (by have := hO.1.2.1; omega); have a0 := of_decide_eq_true c0; simp only [Int32.lt_iff_toInt_lt, Int32.le_iff_toInt_le, ← Int32.toInt_inj, mLi0, mLi1, mLi2, mLi3, mLi4, mLi5, mLi6, mLi7, mLi8, mLi9, mLi10, mLi16, mLi32, mLi48, mLi57, mLi59, mLi65, mLi90, mLi97, mLi99, mLi120, mLi122, mLi127, mLi1584, mLi999999, mLim] at a0 <;> omega)).symm
  · refine mB 3 (s2 := (d + 6, 41, 9, [some (.ref 4), some (.int v0)], [.int (I 4 1), .int v0], 0, 0, (mSH, I, L))) rfl ?_
    refine mBr (s2 := (d + 6, 41, 16, [some (.ref 4), some (.int v0)], [], 0, 0, (mSH, I, L))) (s3 := (d + 6, 41, 12, [some (.ref 4), some (.int v0)], [], 0, 0, (mSH, I, L))) rfl (fun c1 => ?_) (fun c1 => ?_)
    · refine mB 1 (s2 := (d + 6, 41, 17, [some (.ref 4), some (.int v0)], [.int 0], 0, 0, (mSH, I, L))) rfl ?_
      refine mRt (r := (some (.int 0))) (h := (mSH, I, L)) rfl rfl ?_
      show mWP mTb_ mFT ro (d + 7, 84, 11, [some (.ref 0), some (.int v0), some (.int v1), some (.int v2)], [.int 0], 0, 0, (mSH, I, L)) _
      refine mBT (s2 := (d + 7, 84, 35, [some (.ref 0), some (.int v0), some (.int v1), some (.int v2)], [], 0, 0, (mSH, I, L))) rfl (by decide) ?_
      refine mB 2 (s2 := (d + 7, 84, 38, [some (.ref 0), some (.int v0), some (.int v1), some (.int v2)], [.int (-2), .ref 0], 0, 0, (mSH, I, L))) rfl ?_
      refine mCall (s2 := (d + 6, 103, 0, [some (.ref 0), some (.int (-2))], [], 0, 0, (mSH, I, L))) rfl ?_
      refine mB 2 (s2 := (d + 6, 103, 3, [some (.ref 0), some (.int (-2))], [.int (-2), .int (-2)], 0, 0, (mSH, I, L))) rfl ?_
      refine mBT (s2 := (d + 6, 103, 6, [some (.ref 0), some (.int (-2))], [], 0, 0, (mSH, I, L))) rfl (by decide) ?_
      refine mB 8 (s2 := (d + 6, 103, 49, [some (.ref 0), some (.int (-2))], [.int (-2)], 0, 0, (mSH, (mUp I 0 9 ((I 0 9) + 1)), L))) rfl ?_
      refine mRt (r := (some (.int (-2)))) (h := (mSH, (mUp I 0 9 ((I 0 9) + 1)), L)) rfl (mRet_int rfl) ?_
      show mWP mTb_ mFT ro (d + 7, 84, 41, [some (.ref 0), some (.int v0), some (.int v1), some (.int v2)], [.int (-2)], 0, 0, (mSH, (mUp I 0 9 ((I 0 9) + 1)), L)) _
      refine mRt (r := (some (.int (-2)))) (h := (mSH, (mUp I 0 9 ((I 0 9) + 1)), L)) rfl (mRet_int rfl) ?_
      exact hq _ _ (mFr.up (by rfl) mFr.rf) ⟨hI.1, hI.2.1, hI.2.2.1, hI.2.2.2.1, hI.2.2.2.2.1, hI.2.2.2.2.2.1, (mRk.up hI.2.2.2.2.2.2 (by rfl) (by rfl))⟩ (if_neg (c := ms_k T v0 v1 v2) (by have e1 := pm_ti hC.1.1 (by have := hO.1.1; omega); have e2 := pm_ti hC.1.2.1 (by have := hO.1.2.1; omega); have a0 := of_decide_eq_false c0; have a1 := of_decide_eq_true c1; simp only [Int32.lt_iff_toInt_lt, Int32.le_iff_toInt_le, ← Int32.toInt_inj, mLi0, mLi1, mLi2, mLi3, mLi4, mLi5, mLi6, mLi7, mLi8, mLi9, mLi10, mLi16, mLi32, mLi48, mLi57, mLi59, mLi65, mLi90, mLi97, mLi99, mLi120, mLi122, mLi127, mLi1584, mLi999999, mLim] at a0 a1 <;> omega)).symm
    · refine mB 2 (s2 := (d + 6, 41, 17, [some (.ref 4), some (.int v0)], [.int 1], 0, 0, (mSH, I, L))) rfl ?_
      refine mRt (r := (some (.int 1))) (h := (mSH, I, L)) rfl rfl ?_
      show mWP mTb_ mFT ro (d + 7, 84, 11, [some (.ref 0), some (.int v0), some (.int v1), some (.int v2)], [.int 1], 0, 0, (mSH, I, L)) _
      refine mBF (s3 := (d + 7, 84, 14, [some (.ref 0), some (.int v0), some (.int v1), some (.int v2)], [], 0, 0, (mSH, I, L))) rfl (by decide) ?_
      refine mB 4 (s2 := (d + 7, 84, 22, [some (.ref 0), some (.int v0), some (.int v1), some (.int v2)], [.int v1, .ref 2], 0, 0, (mSH, I, L))) rfl ?_
      refine mCall (s2 := (d + 6, 41, 0, [some (.ref 2), some (.int v1)], [], 0, 0, (mSH, I, L))) rfl ?_
      refine mB 1 (s2 := (d + 6, 41, 1, [some (.ref 2), some (.int v1)], [.int v1], 0, 0, (mSH, I, L))) rfl ?_
      refine mBr (s2 := (d + 6, 41, 16, [some (.ref 2), some (.int v1)], [], 0, 0, (mSH, I, L))) (s3 := (d + 6, 41, 4, [some (.ref 2), some (.int v1)], [], 0, 0, (mSH, I, L))) rfl (fun c2 => ?_) (fun c2 => ?_)
      · refine mB 1 (s2 := (d + 6, 41, 17, [some (.ref 2), some (.int v1)], [.int 0], 0, 0, (mSH, I, L))) rfl ?_
        refine mRt (r := (some (.int 0))) (h := (mSH, I, L)) rfl rfl ?_
        show mWP mTb_ mFT ro (d + 7, 84, 25, [some (.ref 0), some (.int v0), some (.int v1), some (.int v2)], [.int 0], 0, 0, (mSH, I, L)) _
        refine mBT (s2 := (d + 7, 84, 35, [some (.ref 0), some (.int v0), some (.int v1), some (.int v2)], [], 0, 0, (mSH, I, L))) rfl (by decide) ?_
        refine mB 2 (s2 := (d + 7, 84, 38, [some (.ref 0), some (.int v0), some (.int v1), some (.int v2)], [.int (-2), .ref 0], 0, 0, (mSH, I, L))) rfl ?_
        refine mCall (s2 := (d + 6, 103, 0, [some (.ref 0), some (.int (-2))], [], 0, 0, (mSH, I, L))) rfl ?_
        refine mB 2 (s2 := (d + 6, 103, 3, [some (.ref 0), some (.int (-2))], [.int (-2), .int (-2)], 0, 0, (mSH, I, L))) rfl ?_
        refine mBT (s2 := (d + 6, 103, 6, [some (.ref 0), some (.int (-2))], [], 0, 0, (mSH, I, L))) rfl (by decide) ?_
        refine mB 8 (s2 := (d + 6, 103, 49, [some (.ref 0), some (.int (-2))], [.int (-2)], 0, 0, (mSH, (mUp I 0 9 ((I 0 9) + 1)), L))) rfl ?_
        refine mRt (r := (some (.int (-2)))) (h := (mSH, (mUp I 0 9 ((I 0 9) + 1)), L)) rfl (mRet_int rfl) ?_
        show mWP mTb_ mFT ro (d + 7, 84, 41, [some (.ref 0), some (.int v0), some (.int v1), some (.int v2)], [.int (-2)], 0, 0, (mSH, (mUp I 0 9 ((I 0 9) + 1)), L)) _
        refine mRt (r := (some (.int (-2)))) (h := (mSH, (mUp I 0 9 ((I 0 9) + 1)), L)) rfl (mRet_int rfl) ?_
        exact hq _ _ (mFr.up (by rfl) mFr.rf) ⟨hI.1, hI.2.1, hI.2.2.1, hI.2.2.2.1, hI.2.2.2.2.1, hI.2.2.2.2.2.1, (mRk.up hI.2.2.2.2.2.2 (by rfl) (by rfl))⟩ (if_neg (c := ms_k T v0 v1 v2) (by have e1 := pm_ti hC.1.1 (by have := hO.1.1; omega); have e2 := pm_ti hC.1.2.1 (by have := hO.1.2.1; omega); have a0 := of_decide_eq_false c0; have a1 := of_decide_eq_false c1; have a2 := of_decide_eq_true c2; simp only [Int32.lt_iff_toInt_lt, Int32.le_iff_toInt_le, ← Int32.toInt_inj, mLi0, mLi1, mLi2, mLi3, mLi4, mLi5, mLi6, mLi7, mLi8, mLi9, mLi10, mLi16, mLi32, mLi48, mLi57, mLi59, mLi65, mLi90, mLi97, mLi99, mLi120, mLi122, mLi127, mLi1584, mLi999999, mLim] at a0 a1 a2 <;> omega)).symm
      · refine mB 3 (s2 := (d + 6, 41, 9, [some (.ref 2), some (.int v1)], [.int (I 2 1), .int v1], 0, 0, (mSH, I, L))) rfl ?_
        refine mBr (s2 := (d + 6, 41, 16, [some (.ref 2), some (.int v1)], [], 0, 0, (mSH, I, L))) (s3 := (d + 6, 41, 12, [some (.ref 2), some (.int v1)], [], 0, 0, (mSH, I, L))) rfl (fun c3 => ?_) (fun c3 => ?_)
        · refine mB 1 (s2 := (d + 6, 41, 17, [some (.ref 2), some (.int v1)], [.int 0], 0, 0, (mSH, I, L))) rfl ?_
          refine mRt (r := (some (.int 0))) (h := (mSH, I, L)) rfl rfl ?_
          show mWP mTb_ mFT ro (d + 7, 84, 25, [some (.ref 0), some (.int v0), some (.int v1), some (.int v2)], [.int 0], 0, 0, (mSH, I, L)) _
          refine mBT (s2 := (d + 7, 84, 35, [some (.ref 0), some (.int v0), some (.int v1), some (.int v2)], [], 0, 0, (mSH, I, L))) rfl (by decide) ?_
          refine mB 2 (s2 := (d + 7, 84, 38, [some (.ref 0), some (.int v0), some (.int v1), some (.int v2)], [.int (-2), .ref 0], 0, 0, (mSH, I, L))) rfl ?_
          refine mCall (s2 := (d + 6, 103, 0, [some (.ref 0), some (.int (-2))], [], 0, 0, (mSH, I, L))) rfl ?_
          refine mB 2 (s2 := (d + 6, 103, 3, [some (.ref 0), some (.int (-2))], [.int (-2), .int (-2)], 0, 0, (mSH, I, L))) rfl ?_
          refine mBT (s2 := (d + 6, 103, 6, [some (.ref 0), some (.int (-2))], [], 0, 0, (mSH, I, L))) rfl (by decide) ?_
          refine mB 8 (s2 := (d + 6, 103, 49, [some (.ref 0), some (.int (-2))], [.int (-2)], 0, 0, (mSH, (mUp I 0 9 ((I 0 9) + 1)), L))) rfl ?_
          refine mRt (r := (some (.int (-2)))) (h := (mSH, (mUp I 0 9 ((I 0 9) + 1)), L)) rfl (mRet_int rfl) ?_
          show mWP mTb_ mFT ro (d + 7, 84, 41, [some (.ref 0), some (.int v0), some (.int v1), some (.int v2)], [.int (-2)], 0, 0, (mSH, (mUp I 0 9 ((I 0 9) + 1)), L)) _
          refine mRt (r := (some (.int (-2)))) (h := (mSH, (mUp I 0 9 ((I 0 9) + 1)), L)) rfl (mRet_int rfl) ?_
          exact hq _ _ (mFr.up (by rfl) mFr.rf) ⟨hI.1, hI.2.1, hI.2.2.1, hI.2.2.2.1, hI.2.2.2.2.1, hI.2.2.2.2.2.1, (mRk.up hI.2.2.2.2.2.2 (by rfl) (by rfl))⟩ (if_neg (c := ms_k T v0 v1 v2) (by have e1 := pm_ti hC.1.1 (by have := hO.1.1; omega); have e2 := pm_ti hC.1.2.1 (by have := hO.1.2.1; omega); have a0 := of_decide_eq_false c0; have a1 := of_decide_eq_false c1; have a2 := of_decide_eq_false c2; have a3 := of_decide_eq_true c3; simp only [Int32.lt_iff_toInt_lt, Int32.le_iff_toInt_le, ← Int32.toInt_inj, mLi0, mLi1, mLi2, mLi3, mLi4, mLi5, mLi6, mLi7, mLi8, mLi9, mLi10, mLi16, mLi32, mLi48, mLi57, mLi59, mLi65, mLi90, mLi97, mLi99, mLi120, mLi122, mLi127, mLi1584, mLi999999, mLim] at a0 a1 a2 a3 <;> omega)).symm
        · refine mB 2 (s2 := (d + 6, 41, 17, [some (.ref 2), some (.int v1)], [.int 1], 0, 0, (mSH, I, L))) rfl ?_
          refine mRt (r := (some (.int 1))) (h := (mSH, I, L)) rfl rfl ?_
          show mWP mTb_ mFT ro (d + 7, 84, 25, [some (.ref 0), some (.int v0), some (.int v1), some (.int v2)], [.int 1], 0, 0, (mSH, I, L)) _
          refine mBF (s3 := (d + 7, 84, 28, [some (.ref 0), some (.int v0), some (.int v1), some (.int v2)], [], 0, 0, (mSH, I, L))) rfl (by decide) ?_
          refine mB 1 (s2 := (d + 7, 84, 29, [some (.ref 0), some (.int v0), some (.int v1), some (.int v2)], [.int v2], 0, 0, (mSH, I, L))) rfl ?_
          refine mCall (s2 := (d + 6, 110, 0, [some (.int v2)], [], 0, 0, (mSH, I, L))) rfl ?_
          refine mB 2 (s2 := (d + 6, 110, 2, [some (.int v2)], [.int 1, .int v2], 0, 0, (mSH, I, L))) rfl ?_
          refine mBr (s2 := (d + 6, 110, 15, [some (.int v2)], [], 0, 0, (mSH, I, L))) (s3 := (d + 6, 110, 5, [some (.int v2)], [], 0, 0, (mSH, I, L))) rfl (fun c4 => ?_) (fun c4 => ?_)
          · refine mB 2 (s2 := (d + 6, 110, 20, [some (.int v2)], [.int 1], 0, 0, (mSH, I, L))) rfl ?_
            refine mRt (r := (some (.int 1))) (h := (mSH, I, L)) rfl rfl ?_
            show mWP mTb_ mFT ro (d + 7, 84, 32, [some (.ref 0), some (.int v0), some (.int v1), some (.int v2)], [.int 1], 0, 0, (mSH, I, L)) _
            refine mBF (s3 := (d + 7, 84, 42, [some (.ref 0), some (.int v0), some (.int v1), some (.int v2)], [], 0, 0, (mSH, I, L))) rfl (by decide) ?_
            refine mB 7 (s2 := (d + 7, 84, 55, [some (.ref 0), some (.int v0), some (.int v1), some (.int v2)], [.int 0, .ref 8, .ref 6, .ref 10], 0, 0, (mSH, I, L))) rfl ?_
            refine mCall (s2 := (d + 6, 10, 0, [some (.ref 8), some (.int 0)], [], 0, 0, (mSH, I, L))) rfl ?_
            refine mB 2 (s2 := (d + 6, 10, 2, [some (.ref 8), some (.int 0)], [.int 0, .ref 8], 0, 0, (mSH, I, L))) rfl ?_
            refine mCall (s2 := (d + 5, 8, 0, [some (.ref 8), some (.int 0)], [], 0, 0, (mSH, I, L))) rfl ?_
            refine mB 1 (s2 := (d + 5, 8, 1, [some (.ref 8), some (.int 0)], [.int 0], 0, 0, (mSH, I, L))) rfl ?_
            refine mBF (s3 := (d + 5, 8, 4, [some (.ref 8), some (.int 0)], [], 0, 0, (mSH, I, L))) rfl (by decide) ?_
            refine mB 4 (s2 := (d + 5, 8, 10, [some (.ref 8), some (.int 0)], [.int 3, .int 0], 0, 0, (mSH, I, L))) rfl ?_
            refine mBF (s3 := (d + 5, 8, 13, [some (.ref 8), some (.int 0)], [], 0, 0, (mSH, I, L))) rfl (by decide) ?_
            refine mB 2 (s2 := (d + 5, 8, 18, [some (.ref 8), some (.int 0)], [.int 1], 0, 0, (mSH, I, L))) rfl ?_
            refine mRt (r := (some (.int 1))) (h := (mSH, I, L)) rfl rfl ?_
            show mWP mTb_ mFT ro (d + 6, 10, 5, [some (.ref 8), some (.int 0)], [.int 1], 0, 0, (mSH, I, L)) _
            refine mBF (s3 := (d + 6, 10, 8, [some (.ref 8), some (.int 0)], [], 0, 0, (mSH, I, L))) rfl (by decide) ?_
            refine mB 3 (s2 := (d + 6, 10, 13, [some (.ref 8), some (.int 0)], [.int 0, .ref 9], 0, 0, (mSH, I, L))) rfl ?_
            refine mRq (s2 := (d + 6, 10, 14, [some (.ref 8), some (.int 0)], [.int (I 9 0)], 0, 0, (mSH, I, L))) rfl (by decide) ?_
            refine mB 1 (s2 := (d + 6, 10, 18, [some (.ref 8), some (.int 0)], [.int (I 9 0)], 0, 0, (mSH, I, L))) rfl ?_
            refine mRt (r := (some (.int (I 9 0)))) (h := (mSH, I, L)) rfl (mRet_int rfl) ?_
            show mWP mTb_ mFT ro (d + 7, 84, 58, [some (.ref 0), some (.int v0), some (.int v1), some (.int v2)], [.int (I 9 0), .ref 6, .ref 10], 0, 0, (mSH, I, L)) _
            refine mB 3 (s2 := (d + 7, 84, 61, [some (.ref 0), some (.int v0), some (.int v1), some (.int v2)], [.int v2, .int v1, .int v0, .int (I 9 0), .ref 6, .ref 10], 0, 0, (mSH, I, L))) rfl ?_
            (obtain ⟨j, hj, e⟩ := pm_in hC.1.2.1 (Nat.le_trans hO.1.2.1 (by omega)) (of_decide_eq_false c0) (of_decide_eq_false c1); subst e; obtain ⟨i, hi, e⟩ := pm_in hC.1.1 hO.1.1 (of_decide_eq_false c2) (of_decide_eq_false c3); subst e; have e := of_decide_eq_true c4; subst e; exact v_misfit1 (p := 0) hO hC hC.2.2.2.2 hj hi (by omega) (hq _ _ mFr.rf hI (ms_y hO.1 hj hi (by omega))))
          · refine mB 2 (s2 := (d + 6, 110, 7, [some (.int v2)], [.int 3, .int v2], 0, 0, (mSH, I, L))) rfl ?_
            refine mBr (s2 := (d + 6, 110, 15, [some (.int v2)], [], 0, 0, (mSH, I, L))) (s3 := (d + 6, 110, 10, [some (.int v2)], [], 0, 0, (mSH, I, L))) rfl (fun c5 => ?_) (fun c5 => ?_)
            · refine mB 2 (s2 := (d + 6, 110, 20, [some (.int v2)], [.int 1], 0, 0, (mSH, I, L))) rfl ?_
              refine mRt (r := (some (.int 1))) (h := (mSH, I, L)) rfl rfl ?_
              show mWP mTb_ mFT ro (d + 7, 84, 32, [some (.ref 0), some (.int v0), some (.int v1), some (.int v2)], [.int 1], 0, 0, (mSH, I, L)) _
              refine mBF (s3 := (d + 7, 84, 42, [some (.ref 0), some (.int v0), some (.int v1), some (.int v2)], [], 0, 0, (mSH, I, L))) rfl (by decide) ?_
              refine mB 7 (s2 := (d + 7, 84, 55, [some (.ref 0), some (.int v0), some (.int v1), some (.int v2)], [.int 0, .ref 8, .ref 6, .ref 10], 0, 0, (mSH, I, L))) rfl ?_
              refine mCall (s2 := (d + 6, 10, 0, [some (.ref 8), some (.int 0)], [], 0, 0, (mSH, I, L))) rfl ?_
              refine mB 2 (s2 := (d + 6, 10, 2, [some (.ref 8), some (.int 0)], [.int 0, .ref 8], 0, 0, (mSH, I, L))) rfl ?_
              refine mCall (s2 := (d + 5, 8, 0, [some (.ref 8), some (.int 0)], [], 0, 0, (mSH, I, L))) rfl ?_
              refine mB 1 (s2 := (d + 5, 8, 1, [some (.ref 8), some (.int 0)], [.int 0], 0, 0, (mSH, I, L))) rfl ?_
              refine mBF (s3 := (d + 5, 8, 4, [some (.ref 8), some (.int 0)], [], 0, 0, (mSH, I, L))) rfl (by decide) ?_
              refine mB 4 (s2 := (d + 5, 8, 10, [some (.ref 8), some (.int 0)], [.int 3, .int 0], 0, 0, (mSH, I, L))) rfl ?_
              refine mBF (s3 := (d + 5, 8, 13, [some (.ref 8), some (.int 0)], [], 0, 0, (mSH, I, L))) rfl (by decide) ?_
              refine mB 2 (s2 := (d + 5, 8, 18, [some (.ref 8), some (.int 0)], [.int 1], 0, 0, (mSH, I, L))) rfl ?_
              refine mRt (r := (some (.int 1))) (h := (mSH, I, L)) rfl rfl ?_
              show mWP mTb_ mFT ro (d + 6, 10, 5, [some (.ref 8), some (.int 0)], [.int 1], 0, 0, (mSH, I, L)) _
              refine mBF (s3 := (d + 6, 10, 8, [some (.ref 8), some (.int 0)], [], 0, 0, (mSH, I, L))) rfl (by decide) ?_
              refine mB 3 (s2 := (d + 6, 10, 13, [some (.ref 8), some (.int 0)], [.int 0, .ref 9], 0, 0, (mSH, I, L))) rfl ?_
              refine mRq (s2 := (d + 6, 10, 14, [some (.ref 8), some (.int 0)], [.int (I 9 0)], 0, 0, (mSH, I, L))) rfl (by decide) ?_
              refine mB 1 (s2 := (d + 6, 10, 18, [some (.ref 8), some (.int 0)], [.int (I 9 0)], 0, 0, (mSH, I, L))) rfl ?_
              refine mRt (r := (some (.int (I 9 0)))) (h := (mSH, I, L)) rfl (mRet_int rfl) ?_
              show mWP mTb_ mFT ro (d + 7, 84, 58, [some (.ref 0), some (.int v0), some (.int v1), some (.int v2)], [.int (I 9 0), .ref 6, .ref 10], 0, 0, (mSH, I, L)) _
              refine mB 3 (s2 := (d + 7, 84, 61, [some (.ref 0), some (.int v0), some (.int v1), some (.int v2)], [.int v2, .int v1, .int v0, .int (I 9 0), .ref 6, .ref 10], 0, 0, (mSH, I, L))) rfl ?_
              (obtain ⟨j, hj, e⟩ := pm_in hC.1.2.1 (Nat.le_trans hO.1.2.1 (by omega)) (of_decide_eq_false c0) (of_decide_eq_false c1); subst e; obtain ⟨i, hi, e⟩ := pm_in hC.1.1 hO.1.1 (of_decide_eq_false c2) (of_decide_eq_false c3); subst e; have e := of_decide_eq_true c5; subst e; exact v_misfit1 (p := 1) hO hC hC.2.2.2.2 hj hi (by omega) (hq _ _ mFr.rf hI (ms_y hO.1 hj hi (by omega))))
            · refine mB 2 (s2 := (d + 6, 110, 12, [some (.int v2)], [.int 5, .int v2], 0, 0, (mSH, I, L))) rfl ?_
              refine mBr (s2 := (d + 6, 110, 15, [some (.int v2)], [], 0, 0, (mSH, I, L))) (s3 := (d + 6, 110, 19, [some (.int v2)], [], 0, 0, (mSH, I, L))) rfl (fun c6 => ?_) (fun c6 => ?_)
              · refine mB 2 (s2 := (d + 6, 110, 20, [some (.int v2)], [.int 1], 0, 0, (mSH, I, L))) rfl ?_
                refine mRt (r := (some (.int 1))) (h := (mSH, I, L)) rfl rfl ?_
                show mWP mTb_ mFT ro (d + 7, 84, 32, [some (.ref 0), some (.int v0), some (.int v1), some (.int v2)], [.int 1], 0, 0, (mSH, I, L)) _
                refine mBF (s3 := (d + 7, 84, 42, [some (.ref 0), some (.int v0), some (.int v1), some (.int v2)], [], 0, 0, (mSH, I, L))) rfl (by decide) ?_
                refine mB 7 (s2 := (d + 7, 84, 55, [some (.ref 0), some (.int v0), some (.int v1), some (.int v2)], [.int 0, .ref 8, .ref 6, .ref 10], 0, 0, (mSH, I, L))) rfl ?_
                refine mCall (s2 := (d + 6, 10, 0, [some (.ref 8), some (.int 0)], [], 0, 0, (mSH, I, L))) rfl ?_
                refine mB 2 (s2 := (d + 6, 10, 2, [some (.ref 8), some (.int 0)], [.int 0, .ref 8], 0, 0, (mSH, I, L))) rfl ?_
                refine mCall (s2 := (d + 5, 8, 0, [some (.ref 8), some (.int 0)], [], 0, 0, (mSH, I, L))) rfl ?_
                refine mB 1 (s2 := (d + 5, 8, 1, [some (.ref 8), some (.int 0)], [.int 0], 0, 0, (mSH, I, L))) rfl ?_
                refine mBF (s3 := (d + 5, 8, 4, [some (.ref 8), some (.int 0)], [], 0, 0, (mSH, I, L))) rfl (by decide) ?_
                refine mB 4 (s2 := (d + 5, 8, 10, [some (.ref 8), some (.int 0)], [.int 3, .int 0], 0, 0, (mSH, I, L))) rfl ?_
                refine mBF (s3 := (d + 5, 8, 13, [some (.ref 8), some (.int 0)], [], 0, 0, (mSH, I, L))) rfl (by decide) ?_
                refine mB 2 (s2 := (d + 5, 8, 18, [some (.ref 8), some (.int 0)], [.int 1], 0, 0, (mSH, I, L))) rfl ?_
                refine mRt (r := (some (.int 1))) (h := (mSH, I, L)) rfl rfl ?_
                show mWP mTb_ mFT ro (d + 6, 10, 5, [some (.ref 8), some (.int 0)], [.int 1], 0, 0, (mSH, I, L)) _
                refine mBF (s3 := (d + 6, 10, 8, [some (.ref 8), some (.int 0)], [], 0, 0, (mSH, I, L))) rfl (by decide) ?_
                refine mB 3 (s2 := (d + 6, 10, 13, [some (.ref 8), some (.int 0)], [.int 0, .ref 9], 0, 0, (mSH, I, L))) rfl ?_
                refine mRq (s2 := (d + 6, 10, 14, [some (.ref 8), some (.int 0)], [.int (I 9 0)], 0, 0, (mSH, I, L))) rfl (by decide) ?_
                refine mB 1 (s2 := (d + 6, 10, 18, [some (.ref 8), some (.int 0)], [.int (I 9 0)], 0, 0, (mSH, I, L))) rfl ?_
                refine mRt (r := (some (.int (I 9 0)))) (h := (mSH, I, L)) rfl (mRet_int rfl) ?_
                show mWP mTb_ mFT ro (d + 7, 84, 58, [some (.ref 0), some (.int v0), some (.int v1), some (.int v2)], [.int (I 9 0), .ref 6, .ref 10], 0, 0, (mSH, I, L)) _
                refine mB 3 (s2 := (d + 7, 84, 61, [some (.ref 0), some (.int v0), some (.int v1), some (.int v2)], [.int v2, .int v1, .int v0, .int (I 9 0), .ref 6, .ref 10], 0, 0, (mSH, I, L))) rfl ?_
                (obtain ⟨j, hj, e⟩ := pm_in hC.1.2.1 (Nat.le_trans hO.1.2.1 (by omega)) (of_decide_eq_false c0) (of_decide_eq_false c1); subst e; obtain ⟨i, hi, e⟩ := pm_in hC.1.1 hO.1.1 (of_decide_eq_false c2) (of_decide_eq_false c3); subst e; have e := of_decide_eq_true c6; subst e; exact v_misfit1 (p := 2) hO hC hC.2.2.2.2 hj hi (by omega) (hq _ _ mFr.rf hI (ms_y hO.1 hj hi (by omega))))
              · refine mB 1 (s2 := (d + 6, 110, 20, [some (.int v2)], [.int 0], 0, 0, (mSH, I, L))) rfl ?_
                refine mRt (r := (some (.int 0))) (h := (mSH, I, L)) rfl rfl ?_
                show mWP mTb_ mFT ro (d + 7, 84, 32, [some (.ref 0), some (.int v0), some (.int v1), some (.int v2)], [.int 0], 0, 0, (mSH, I, L)) _
                refine mBT (s2 := (d + 7, 84, 35, [some (.ref 0), some (.int v0), some (.int v1), some (.int v2)], [], 0, 0, (mSH, I, L))) rfl (by decide) ?_
                refine mB 2 (s2 := (d + 7, 84, 38, [some (.ref 0), some (.int v0), some (.int v1), some (.int v2)], [.int (-2), .ref 0], 0, 0, (mSH, I, L))) rfl ?_
                refine mCall (s2 := (d + 6, 103, 0, [some (.ref 0), some (.int (-2))], [], 0, 0, (mSH, I, L))) rfl ?_
                refine mB 2 (s2 := (d + 6, 103, 3, [some (.ref 0), some (.int (-2))], [.int (-2), .int (-2)], 0, 0, (mSH, I, L))) rfl ?_
                refine mBT (s2 := (d + 6, 103, 6, [some (.ref 0), some (.int (-2))], [], 0, 0, (mSH, I, L))) rfl (by decide) ?_
                refine mB 8 (s2 := (d + 6, 103, 49, [some (.ref 0), some (.int (-2))], [.int (-2)], 0, 0, (mSH, (mUp I 0 9 ((I 0 9) + 1)), L))) rfl ?_
                refine mRt (r := (some (.int (-2)))) (h := (mSH, (mUp I 0 9 ((I 0 9) + 1)), L)) rfl (mRet_int rfl) ?_
                show mWP mTb_ mFT ro (d + 7, 84, 41, [some (.ref 0), some (.int v0), some (.int v1), some (.int v2)], [.int (-2)], 0, 0, (mSH, (mUp I 0 9 ((I 0 9) + 1)), L)) _
                refine mRt (r := (some (.int (-2)))) (h := (mSH, (mUp I 0 9 ((I 0 9) + 1)), L)) rfl (mRet_int rfl) ?_
                exact hq _ _ (mFr.up (by rfl) mFr.rf) ⟨hI.1, hI.2.1, hI.2.2.1, hI.2.2.2.1, hI.2.2.2.2.1, hI.2.2.2.2.2.1, (mRk.up hI.2.2.2.2.2.2 (by rfl) (by rfl))⟩ (if_neg (c := ms_k T v0 v1 v2) (by have e1 := pm_ti hC.1.1 (by have := hO.1.1; omega); have e2 := pm_ti hC.1.2.1 (by have := hO.1.2.1; omega); have a0 := of_decide_eq_false c0; have a1 := of_decide_eq_false c1; have a2 := of_decide_eq_false c2; have a3 := of_decide_eq_false c3; have a4 := of_decide_eq_false c4; have a5 := of_decide_eq_false c5; have a6 := of_decide_eq_false c6; simp only [Int32.lt_iff_toInt_lt, Int32.le_iff_toInt_le, ← Int32.toInt_inj, mLi0, mLi1, mLi2, mLi3, mLi4, mLi5, mLi6, mLi7, mLi8, mLi9, mLi10, mLi16, mLi32, mLi48, mLi57, mLi59, mLi65, mLi90, mLi97, mLi99, mLi120, mLi122, mLi127, mLi1584, mLi999999, mLim] at a0 a1 a2 a3 a4 a5 a6 <;> omega)).symm
theorem n_misfit1 {ro : Nat → Nat × (Nat → Int32)} {Q : mPo} {d : Nat} {I : Nat → Nat → Int32} {L : Nat → Nat → Int64} {T : ct_S} {B : ct_B} {kd g pe : Nat} {j i p : Nat} {ml : List (Option Value)} {x : Int32} (hO : pm_O T B kd g pe) (hM : pm_M T B kd g pe I) (hx : x = nI kd) (hj : j < T.1.2.1) (hi : i < T.1.1) (hp : p ≤ 2) (hq : Q (some (.int (ct_r (ct_c T B kd g pe j i p)))) (mSH, I, L)) : mWP mTb_ mFT ro (d + 5, 126, 49, ml, [.int 0, .int x, .int (nI (2 * p + 1)), .int (nI i), .int (nI j), .ref 34], 0, 0, (mSH, I, L)) Q := by
  subst hx
  refine mCall (s2 := (d + 4, 125, 0, [some (.ref 34), some (.int (nI j)), some (.int (nI i)), some (.int (nI (2 * p + 1))), some (.int (nI kd)), some (.int 0), none, none, none, none, none, none, none, none, none], [], 0, 0, (mSH, I, L))) rfl ?_
  refine x_mis_0 hO.1 hM.1 hM.2.1 hO.2.1 hM.2.2.1 hO.2.2.1 hO.2.2.2 hj (Nat.le_of_lt hi) hp ?_
  exact mRt (r := some (.int (ct_r (ct_c T B kd g pe j i p)))) (h := (mSH, I, L)) rfl (mRet_int rfl) hq
theorem v_nmisfit {ro : Nat → Nat × (Nat → Int32)} {Q : mPo} {d : Nat} {I : Nat → Nat → Int32} {L : Nat → Nat → Int64} {s n t : Nat} {T : ct_S} {B : ct_B} {kd g pe : Nat} {v0 v1 v2 : Int32} (hm : mM s n t I) (hO : pm_O T B kd g pe) (hM : pm_M T B kd g pe I) (hq : ∀ r I1 L1, mGr I I1 → mIM I1 → r = ms_R T B kd g pe v0 v1 v2 → Q (some (.int r)) (mSH, I1, L1))   : mWP mTb_ mFT ro (d + 5, 126, 0, [some (.ref 34), some (.int v0), some (.int v1), some (.int v2)], [], 0, 0, (mSH, I, L)) Q := by
  refine mB 2 (s2 := (d + 5, 126, 2, [some (.ref 34), some (.int v0), some (.int v1), some (.int v2)], [.int v0, .ref 34], 0, 0, (mSH, I, L))) rfl ?_
  refine mCall (s2 := (d + 4, 115, 0, [some (.ref 34), some (.int v0)], [], 0, 0, (mSH, I, L))) rfl ?_
  refine mB 6 (s2 := (d + 4, 115, 8, [some (.ref 34), some (.int v0)], [.int ((I 34 3) - 1), .int 0, .int v0], 0, 0, (mSH, I, L))) rfl ?_
  refine mCall (s2 := (d + 3, 112, 0, [some (.int v0), some (.int 0), some (.int ((I 34 3) - 1))], [], 0, 0, (mSH, I, L))) rfl ?_
  refine mB 2 (s2 := (d + 3, 112, 2, [some (.int v0), some (.int 0), some (.int ((I 34 3) - 1))], [.int 0, .int v0], 0, 0, (mSH, I, L))) rfl ?_
  refine mBr (s2 := (d + 3, 112, 14, [some (.int v0), some (.int 0), some (.int ((I 34 3) - 1))], [], 0, 0, (mSH, I, L))) (s3 := (d + 3, 112, 5, [some (.int v0), some (.int 0), some (.int ((I 34 3) - 1))], [], 0, 0, (mSH, I, L))) rfl (fun c0 => ?_) (fun c0 => ?_)
  · refine mB 1 (s2 := (d + 3, 112, 15, [some (.int v0), some (.int 0), some (.int ((I 34 3) - 1))], [.int 0], 0, 0, (mSH, I, L))) rfl ?_
    refine mRt (r := (some (.int 0))) (h := (mSH, I, L)) rfl rfl ?_
    show mWP mTb_ mFT ro (d + 4, 115, 11, [some (.ref 34), some (.int v0)], [.int 0], 0, 0, (mSH, I, L)) _
    refine mRt (r := (some (.int 0))) (h := (mSH, I, L)) rfl rfl ?_
    show mWP mTb_ mFT ro (d + 5, 126, 5, [some (.ref 34), some (.int v0), some (.int v1), some (.int v2)], [.int 0], 0, 0, (mSH, I, L)) _
    refine mBT (s2 := (d + 5, 126, 31, [some (.ref 34), some (.int v0), some (.int v1), some (.int v2)], [], 0, 0, (mSH, I, L))) rfl (by decide) ?_
    refine mB 2 (s2 := (d + 5, 126, 34, [some (.ref 34), some (.int v0), some (.int v1), some (.int v2)], [.int (-2), .ref 34], 0, 0, (mSH, I, L))) rfl ?_
    refine mCall (s2 := (d + 4, 113, 0, [some (.ref 34), some (.int (-2))], [], 0, 0, (mSH, I, L))) rfl ?_
    refine mB 6 (s2 := (d + 4, 113, 9, [some (.ref 34), some (.int (-2))], [.int 0, .ref 39, .int 0, .ref 39], 0, 0, (mSH, I, L))) rfl ?_
    refine mRq (s2 := (d + 4, 113, 10, [some (.ref 34), some (.int (-2))], [.int (I 39 0), .int 0, .ref 39], 0, 0, (mSH, I, L))) rfl (by decide) ?_
    refine mB 2 (s2 := (d + 4, 113, 12, [some (.ref 34), some (.int (-2))], [.int ((I 39 0) + 1), .int 0, .ref 39], 0, 0, (mSH, I, L))) rfl ?_
    refine mRq (s2 := (d + 4, 113, 13, [some (.ref 34), some (.int (-2))], [], 0, 0, (mSH, (mUp I 39 0 ((I 39 0) + 1)), L))) rfl (by decide) ?_
    refine mB 1 (s2 := (d + 4, 113, 14, [some (.ref 34), some (.int (-2))], [.int (-2)], 0, 0, (mSH, (mUp I 39 0 ((I 39 0) + 1)), L))) rfl ?_
    refine mRt (r := (some (.int (-2)))) (h := (mSH, (mUp I 39 0 ((I 39 0) + 1)), L)) rfl (mRet_int rfl) ?_
    show mWP mTb_ mFT ro (d + 5, 126, 37, [some (.ref 34), some (.int v0), some (.int v1), some (.int v2)], [.int (-2)], 0, 0, (mSH, (mUp I 39 0 ((I 39 0) + 1)), L)) _
    refine mRt (r := (some (.int (-2)))) (h := (mSH, (mUp I 39 0 ((I 39 0) + 1)), L)) rfl (mRet_int rfl) ?_
    exact hq _ _ _ (mGr.up (by rfl) mGr.rf) ⟨s, n, t, ((mGr.up (by rfl) mGr.rf)).m hm⟩ (if_neg (c := ms_k T v0 v1 v2) (by have e1 := pm_ti hM.1.1 (by have := hO.1.1; omega); have e2 := pm_ti hM.1.2.1 (by have := hO.1.2.1; omega); have e3 := mSub1 hM.1.1 hO.1.1; have e4 := mSub1 hM.1.2.1 (Nat.le_trans hO.1.2.1 (by omega)); have e5 := hO.1.1; have e6 := hO.1.2.1; have a0 := of_decide_eq_true c0; simp only [Int32.lt_iff_toInt_lt, Int32.le_iff_toInt_le, ← Int32.toInt_inj, mLi0, mLi1, mLi2, mLi3, mLi4, mLi5, mLi6, mLi7, mLi8, mLi9, mLi10, mLi16, mLi32, mLi48, mLi57, mLi59, mLi65, mLi90, mLi97, mLi99, mLi120, mLi122, mLi127, mLi1584, mLi999999, mLim] at a0 <;> omega)).symm
  · refine mB 2 (s2 := (d + 3, 112, 7, [some (.int v0), some (.int 0), some (.int ((I 34 3) - 1))], [.int ((I 34 3) - 1), .int v0], 0, 0, (mSH, I, L))) rfl ?_
    refine mBr (s2 := (d + 3, 112, 14, [some (.int v0), some (.int 0), some (.int ((I 34 3) - 1))], [], 0, 0, (mSH, I, L))) (s3 := (d + 3, 112, 10, [some (.int v0), some (.int 0), some (.int ((I 34 3) - 1))], [], 0, 0, (mSH, I, L))) rfl (fun c1 => ?_) (fun c1 => ?_)
    · refine mB 1 (s2 := (d + 3, 112, 15, [some (.int v0), some (.int 0), some (.int ((I 34 3) - 1))], [.int 0], 0, 0, (mSH, I, L))) rfl ?_
      refine mRt (r := (some (.int 0))) (h := (mSH, I, L)) rfl rfl ?_
      show mWP mTb_ mFT ro (d + 4, 115, 11, [some (.ref 34), some (.int v0)], [.int 0], 0, 0, (mSH, I, L)) _
      refine mRt (r := (some (.int 0))) (h := (mSH, I, L)) rfl rfl ?_
      show mWP mTb_ mFT ro (d + 5, 126, 5, [some (.ref 34), some (.int v0), some (.int v1), some (.int v2)], [.int 0], 0, 0, (mSH, I, L)) _
      refine mBT (s2 := (d + 5, 126, 31, [some (.ref 34), some (.int v0), some (.int v1), some (.int v2)], [], 0, 0, (mSH, I, L))) rfl (by decide) ?_
      refine mB 2 (s2 := (d + 5, 126, 34, [some (.ref 34), some (.int v0), some (.int v1), some (.int v2)], [.int (-2), .ref 34], 0, 0, (mSH, I, L))) rfl ?_
      refine mCall (s2 := (d + 4, 113, 0, [some (.ref 34), some (.int (-2))], [], 0, 0, (mSH, I, L))) rfl ?_
      refine mB 6 (s2 := (d + 4, 113, 9, [some (.ref 34), some (.int (-2))], [.int 0, .ref 39, .int 0, .ref 39], 0, 0, (mSH, I, L))) rfl ?_
      refine mRq (s2 := (d + 4, 113, 10, [some (.ref 34), some (.int (-2))], [.int (I 39 0), .int 0, .ref 39], 0, 0, (mSH, I, L))) rfl (by decide) ?_
      refine mB 2 (s2 := (d + 4, 113, 12, [some (.ref 34), some (.int (-2))], [.int ((I 39 0) + 1), .int 0, .ref 39], 0, 0, (mSH, I, L))) rfl ?_
      refine mRq (s2 := (d + 4, 113, 13, [some (.ref 34), some (.int (-2))], [], 0, 0, (mSH, (mUp I 39 0 ((I 39 0) + 1)), L))) rfl (by decide) ?_
      refine mB 1 (s2 := (d + 4, 113, 14, [some (.ref 34), some (.int (-2))], [.int (-2)], 0, 0, (mSH, (mUp I 39 0 ((I 39 0) + 1)), L))) rfl ?_
      refine mRt (r := (some (.int (-2)))) (h := (mSH, (mUp I 39 0 ((I 39 0) + 1)), L)) rfl (mRet_int rfl) ?_
      show mWP mTb_ mFT ro (d + 5, 126, 37, [some (.ref 34), some (.int v0), some (.int v1), some (.int v2)], [.int (-2)], 0, 0, (mSH, (mUp I 39 0 ((I 39 0) + 1)), L)) _
      refine mRt (r := (some (.int (-2)))) (h := (mSH, (mUp I 39 0 ((I 39 0) + 1)), L)) rfl (mRet_int rfl) ?_
      exact hq _ _ _ (mGr.up (by rfl) mGr.rf) ⟨s, n, t, ((mGr.up (by rfl) mGr.rf)).m hm⟩ (if_neg (c := ms_k T v0 v1 v2) (by have e1 := pm_ti hM.1.1 (by have := hO.1.1; omega); have e2 := pm_ti hM.1.2.1 (by have := hO.1.2.1; omega); have e3 := mSub1 hM.1.1 hO.1.1; have e4 := mSub1 hM.1.2.1 (Nat.le_trans hO.1.2.1 (by omega)); have e5 := hO.1.1; have e6 := hO.1.2.1; have a0 := of_decide_eq_false c0; have a1 := of_decide_eq_true c1; simp only [Int32.lt_iff_toInt_lt, Int32.le_iff_toInt_le, ← Int32.toInt_inj, mLi0, mLi1, mLi2, mLi3, mLi4, mLi5, mLi6, mLi7, mLi8, mLi9, mLi10, mLi16, mLi32, mLi48, mLi57, mLi59, mLi65, mLi90, mLi97, mLi99, mLi120, mLi122, mLi127, mLi1584, mLi999999, mLim] at a0 a1 <;> omega)).symm
    · refine mB 2 (s2 := (d + 3, 112, 15, [some (.int v0), some (.int 0), some (.int ((I 34 3) - 1))], [.int 1], 0, 0, (mSH, I, L))) rfl ?_
      refine mRt (r := (some (.int 1))) (h := (mSH, I, L)) rfl rfl ?_
      show mWP mTb_ mFT ro (d + 4, 115, 11, [some (.ref 34), some (.int v0)], [.int 1], 0, 0, (mSH, I, L)) _
      refine mRt (r := (some (.int 1))) (h := (mSH, I, L)) rfl rfl ?_
      show mWP mTb_ mFT ro (d + 5, 126, 5, [some (.ref 34), some (.int v0), some (.int v1), some (.int v2)], [.int 1], 0, 0, (mSH, I, L)) _
      refine mBF (s3 := (d + 5, 126, 8, [some (.ref 34), some (.int v0), some (.int v1), some (.int v2)], [], 0, 0, (mSH, I, L))) rfl (by decide) ?_
      refine mB 2 (s2 := (d + 5, 126, 10, [some (.ref 34), some (.int v0), some (.int v1), some (.int v2)], [.int v1, .ref 34], 0, 0, (mSH, I, L))) rfl ?_
      refine mCall (s2 := (d + 4, 114, 0, [some (.ref 34), some (.int v1)], [], 0, 0, (mSH, I, L))) rfl ?_
      refine mB 6 (s2 := (d + 4, 114, 8, [some (.ref 34), some (.int v1)], [.int ((I 34 1) - 1), .int 0, .int v1], 0, 0, (mSH, I, L))) rfl ?_
      refine mCall (s2 := (d + 3, 112, 0, [some (.int v1), some (.int 0), some (.int ((I 34 1) - 1))], [], 0, 0, (mSH, I, L))) rfl ?_
      refine mB 2 (s2 := (d + 3, 112, 2, [some (.int v1), some (.int 0), some (.int ((I 34 1) - 1))], [.int 0, .int v1], 0, 0, (mSH, I, L))) rfl ?_
      refine mBr (s2 := (d + 3, 112, 14, [some (.int v1), some (.int 0), some (.int ((I 34 1) - 1))], [], 0, 0, (mSH, I, L))) (s3 := (d + 3, 112, 5, [some (.int v1), some (.int 0), some (.int ((I 34 1) - 1))], [], 0, 0, (mSH, I, L))) rfl (fun c2 => ?_) (fun c2 => ?_)
      · refine mB 1 (s2 := (d + 3, 112, 15, [some (.int v1), some (.int 0), some (.int ((I 34 1) - 1))], [.int 0], 0, 0, (mSH, I, L))) rfl ?_
        refine mRt (r := (some (.int 0))) (h := (mSH, I, L)) rfl rfl ?_
        show mWP mTb_ mFT ro (d + 4, 114, 11, [some (.ref 34), some (.int v1)], [.int 0], 0, 0, (mSH, I, L)) _
        refine mRt (r := (some (.int 0))) (h := (mSH, I, L)) rfl rfl ?_
        show mWP mTb_ mFT ro (d + 5, 126, 13, [some (.ref 34), some (.int v0), some (.int v1), some (.int v2)], [.int 0], 0, 0, (mSH, I, L)) _
        refine mBT (s2 := (d + 5, 126, 31, [some (.ref 34), some (.int v0), some (.int v1), some (.int v2)], [], 0, 0, (mSH, I, L))) rfl (by decide) ?_
        refine mB 2 (s2 := (d + 5, 126, 34, [some (.ref 34), some (.int v0), some (.int v1), some (.int v2)], [.int (-2), .ref 34], 0, 0, (mSH, I, L))) rfl ?_
        refine mCall (s2 := (d + 4, 113, 0, [some (.ref 34), some (.int (-2))], [], 0, 0, (mSH, I, L))) rfl ?_
        refine mB 6 (s2 := (d + 4, 113, 9, [some (.ref 34), some (.int (-2))], [.int 0, .ref 39, .int 0, .ref 39], 0, 0, (mSH, I, L))) rfl ?_
        refine mRq (s2 := (d + 4, 113, 10, [some (.ref 34), some (.int (-2))], [.int (I 39 0), .int 0, .ref 39], 0, 0, (mSH, I, L))) rfl (by decide) ?_
        refine mB 2 (s2 := (d + 4, 113, 12, [some (.ref 34), some (.int (-2))], [.int ((I 39 0) + 1), .int 0, .ref 39], 0, 0, (mSH, I, L))) rfl ?_
        refine mRq (s2 := (d + 4, 113, 13, [some (.ref 34), some (.int (-2))], [], 0, 0, (mSH, (mUp I 39 0 ((I 39 0) + 1)), L))) rfl (by decide) ?_
        refine mB 1 (s2 := (d + 4, 113, 14, [some (.ref 34), some (.int (-2))], [.int (-2)], 0, 0, (mSH, (mUp I 39 0 ((I 39 0) + 1)), L))) rfl ?_
        refine mRt (r := (some (.int (-2)))) (h := (mSH, (mUp I 39 0 ((I 39 0) + 1)), L)) rfl (mRet_int rfl) ?_
        show mWP mTb_ mFT ro (d + 5, 126, 37, [some (.ref 34), some (.int v0), some (.int v1), some (.int v2)], [.int (-2)], 0, 0, (mSH, (mUp I 39 0 ((I 39 0) + 1)), L)) _
        refine mRt (r := (some (.int (-2)))) (h := (mSH, (mUp I 39 0 ((I 39 0) + 1)), L)) rfl (mRet_int rfl) ?_
        exact hq _ _ _ (mGr.up (by rfl) mGr.rf) ⟨s, n, t, ((mGr.up (by rfl) mGr.rf)).m hm⟩ (if_neg (c := ms_k T v0 v1 v2) (by have e1 := pm_ti hM.1.1 (by have := hO.1.1; omega); have e2 := pm_ti hM.1.2.1 (by have := hO.1.2.1; omega); have e3 := mSub1 hM.1.1 hO.1.1; have e4 := mSub1 hM.1.2.1 (Nat.le_trans hO.1.2.1 (by omega)); have e5 := hO.1.1; have e6 := hO.1.2.1; have a0 := of_decide_eq_false c0; have a1 := of_decide_eq_false c1; have a2 := of_decide_eq_true c2; simp only [Int32.lt_iff_toInt_lt, Int32.le_iff_toInt_le, ← Int32.toInt_inj, mLi0, mLi1, mLi2, mLi3, mLi4, mLi5, mLi6, mLi7, mLi8, mLi9, mLi10, mLi16, mLi32, mLi48, mLi57, mLi59, mLi65, mLi90, mLi97, mLi99, mLi120, mLi122, mLi127, mLi1584, mLi999999, mLim] at a0 a1 a2 <;> omega)).symm
      · refine mB 2 (s2 := (d + 3, 112, 7, [some (.int v1), some (.int 0), some (.int ((I 34 1) - 1))], [.int ((I 34 1) - 1), .int v1], 0, 0, (mSH, I, L))) rfl ?_
        refine mBr (s2 := (d + 3, 112, 14, [some (.int v1), some (.int 0), some (.int ((I 34 1) - 1))], [], 0, 0, (mSH, I, L))) (s3 := (d + 3, 112, 10, [some (.int v1), some (.int 0), some (.int ((I 34 1) - 1))], [], 0, 0, (mSH, I, L))) rfl (fun c3 => ?_) (fun c3 => ?_)
        · refine mB 1 (s2 := (d + 3, 112, 15, [some (.int v1), some (.int 0), some (.int ((I 34 1) - 1))], [.int 0], 0, 0, (mSH, I, L))) rfl ?_
          refine mRt (r := (some (.int 0))) (h := (mSH, I, L)) rfl rfl ?_
          show mWP mTb_ mFT ro (d + 4, 114, 11, [some (.ref 34), some (.int v1)], [.int 0], 0, 0, (mSH, I, L)) _
          refine mRt (r := (some (.int 0))) (h := (mSH, I, L)) rfl rfl ?_
          show mWP mTb_ mFT ro (d + 5, 126, 13, [some (.ref 34), some (.int v0), some (.int v1), some (.int v2)], [.int 0], 0, 0, (mSH, I, L)) _
          refine mBT (s2 := (d + 5, 126, 31, [some (.ref 34), some (.int v0), some (.int v1), some (.int v2)], [], 0, 0, (mSH, I, L))) rfl (by decide) ?_
          refine mB 2 (s2 := (d + 5, 126, 34, [some (.ref 34), some (.int v0), some (.int v1), some (.int v2)], [.int (-2), .ref 34], 0, 0, (mSH, I, L))) rfl ?_
          refine mCall (s2 := (d + 4, 113, 0, [some (.ref 34), some (.int (-2))], [], 0, 0, (mSH, I, L))) rfl ?_
          refine mB 6 (s2 := (d + 4, 113, 9, [some (.ref 34), some (.int (-2))], [.int 0, .ref 39, .int 0, .ref 39], 0, 0, (mSH, I, L))) rfl ?_
          refine mRq (s2 := (d + 4, 113, 10, [some (.ref 34), some (.int (-2))], [.int (I 39 0), .int 0, .ref 39], 0, 0, (mSH, I, L))) rfl (by decide) ?_
          refine mB 2 (s2 := (d + 4, 113, 12, [some (.ref 34), some (.int (-2))], [.int ((I 39 0) + 1), .int 0, .ref 39], 0, 0, (mSH, I, L))) rfl ?_
          refine mRq (s2 := (d + 4, 113, 13, [some (.ref 34), some (.int (-2))], [], 0, 0, (mSH, (mUp I 39 0 ((I 39 0) + 1)), L))) rfl (by decide) ?_
          refine mB 1 (s2 := (d + 4, 113, 14, [some (.ref 34), some (.int (-2))], [.int (-2)], 0, 0, (mSH, (mUp I 39 0 ((I 39 0) + 1)), L))) rfl ?_
          refine mRt (r := (some (.int (-2)))) (h := (mSH, (mUp I 39 0 ((I 39 0) + 1)), L)) rfl (mRet_int rfl) ?_
          show mWP mTb_ mFT ro (d + 5, 126, 37, [some (.ref 34), some (.int v0), some (.int v1), some (.int v2)], [.int (-2)], 0, 0, (mSH, (mUp I 39 0 ((I 39 0) + 1)), L)) _
          refine mRt (r := (some (.int (-2)))) (h := (mSH, (mUp I 39 0 ((I 39 0) + 1)), L)) rfl (mRet_int rfl) ?_
          exact hq _ _ _ (mGr.up (by rfl) mGr.rf) ⟨s, n, t, ((mGr.up (by rfl) mGr.rf)).m hm⟩ (if_neg (c := ms_k T v0 v1 v2) (by have e1 := pm_ti hM.1.1 (by have := hO.1.1; omega); have e2 := pm_ti hM.1.2.1 (by have := hO.1.2.1; omega); have e3 := mSub1 hM.1.1 hO.1.1; have e4 := mSub1 hM.1.2.1 (Nat.le_trans hO.1.2.1 (by omega)); have e5 := hO.1.1; have e6 := hO.1.2.1; have a0 := of_decide_eq_false c0; have a1 := of_decide_eq_false c1; have a2 := of_decide_eq_false c2; have a3 := of_decide_eq_true c3; simp only [Int32.lt_iff_toInt_lt, Int32.le_iff_toInt_le, ← Int32.toInt_inj, mLi0, mLi1, mLi2, mLi3, mLi4, mLi5, mLi6, mLi7, mLi8, mLi9, mLi10, mLi16, mLi32, mLi48, mLi57, mLi59, mLi65, mLi90, mLi97, mLi99, mLi120, mLi122, mLi127, mLi1584, mLi999999, mLim] at a0 a1 a2 a3 <;> omega)).symm
        · refine mB 2 (s2 := (d + 3, 112, 15, [some (.int v1), some (.int 0), some (.int ((I 34 1) - 1))], [.int 1], 0, 0, (mSH, I, L))) rfl ?_
          refine mRt (r := (some (.int 1))) (h := (mSH, I, L)) rfl rfl ?_
          show mWP mTb_ mFT ro (d + 4, 114, 11, [some (.ref 34), some (.int v1)], [.int 1], 0, 0, (mSH, I, L)) _
          refine mRt (r := (some (.int 1))) (h := (mSH, I, L)) rfl rfl ?_
          show mWP mTb_ mFT ro (d + 5, 126, 13, [some (.ref 34), some (.int v0), some (.int v1), some (.int v2)], [.int 1], 0, 0, (mSH, I, L)) _
          refine mBF (s3 := (d + 5, 126, 16, [some (.ref 34), some (.int v0), some (.int v1), some (.int v2)], [], 0, 0, (mSH, I, L))) rfl (by decide) ?_
          refine mB 2 (s2 := (d + 5, 126, 18, [some (.ref 34), some (.int v0), some (.int v1), some (.int v2)], [.int 1, .int v2], 0, 0, (mSH, I, L))) rfl ?_
          refine mBr (s2 := (d + 5, 126, 38, [some (.ref 34), some (.int v0), some (.int v1), some (.int v2)], [], 0, 0, (mSH, I, L))) (s3 := (d + 5, 126, 21, [some (.ref 34), some (.int v0), some (.int v1), some (.int v2)], [], 0, 0, (mSH, I, L))) rfl (fun c4 => ?_) (fun c4 => ?_)
          · refine mB 7 (s2 := (d + 5, 126, 47, [some (.ref 34), some (.int v0), some (.int v1), some (.int v2)], [.int 0, .ref 38, .int v2, .int v1, .int v0, .ref 34], 0, 0, (mSH, I, L))) rfl ?_
            refine mRq (s2 := (d + 5, 126, 48, [some (.ref 34), some (.int v0), some (.int v1), some (.int v2)], [.int (I 38 0), .int v2, .int v1, .int v0, .ref 34], 0, 0, (mSH, I, L))) rfl (by decide) ?_
            refine mB 1 (s2 := (d + 5, 126, 49, [some (.ref 34), some (.int v0), some (.int v1), some (.int v2)], [.int 0, .int (I 38 0), .int v2, .int v1, .int v0, .ref 34], 0, 0, (mSH, I, L))) rfl ?_
            (obtain ⟨j, hj, e⟩ := mNat hM.1.2.1 (Nat.le_trans hO.1.2.1 (by omega)) (of_decide_eq_false c0) (of_decide_eq_false c1); subst e; obtain ⟨i, hi, e⟩ := mNat hM.1.1 hO.1.1 (of_decide_eq_false c2) (of_decide_eq_false c3); subst e; have e := of_decide_eq_true c4; subst e; exact n_misfit1 (p := 0) hO hM hM.2.2.2 hj hi (by omega) (hq _ _ _ mGr.rf ⟨s, n, t, hm⟩ (ms_y hO.1 hj hi (by omega))))
          · refine mB 2 (s2 := (d + 5, 126, 23, [some (.ref 34), some (.int v0), some (.int v1), some (.int v2)], [.int 3, .int v2], 0, 0, (mSH, I, L))) rfl ?_
            refine mBr (s2 := (d + 5, 126, 38, [some (.ref 34), some (.int v0), some (.int v1), some (.int v2)], [], 0, 0, (mSH, I, L))) (s3 := (d + 5, 126, 26, [some (.ref 34), some (.int v0), some (.int v1), some (.int v2)], [], 0, 0, (mSH, I, L))) rfl (fun c5 => ?_) (fun c5 => ?_)
            · refine mB 7 (s2 := (d + 5, 126, 47, [some (.ref 34), some (.int v0), some (.int v1), some (.int v2)], [.int 0, .ref 38, .int v2, .int v1, .int v0, .ref 34], 0, 0, (mSH, I, L))) rfl ?_
              refine mRq (s2 := (d + 5, 126, 48, [some (.ref 34), some (.int v0), some (.int v1), some (.int v2)], [.int (I 38 0), .int v2, .int v1, .int v0, .ref 34], 0, 0, (mSH, I, L))) rfl (by decide) ?_
              refine mB 1 (s2 := (d + 5, 126, 49, [some (.ref 34), some (.int v0), some (.int v1), some (.int v2)], [.int 0, .int (I 38 0), .int v2, .int v1, .int v0, .ref 34], 0, 0, (mSH, I, L))) rfl ?_
              (obtain ⟨j, hj, e⟩ := mNat hM.1.2.1 (Nat.le_trans hO.1.2.1 (by omega)) (of_decide_eq_false c0) (of_decide_eq_false c1); subst e; obtain ⟨i, hi, e⟩ := mNat hM.1.1 hO.1.1 (of_decide_eq_false c2) (of_decide_eq_false c3); subst e; have e := of_decide_eq_true c5; subst e; exact n_misfit1 (p := 1) hO hM hM.2.2.2 hj hi (by omega) (hq _ _ _ mGr.rf ⟨s, n, t, hm⟩ (ms_y hO.1 hj hi (by omega))))
            · refine mB 2 (s2 := (d + 5, 126, 28, [some (.ref 34), some (.int v0), some (.int v1), some (.int v2)], [.int 5, .int v2], 0, 0, (mSH, I, L))) rfl ?_
              refine mBr (s2 := (d + 5, 126, 38, [some (.ref 34), some (.int v0), some (.int v1), some (.int v2)], [], 0, 0, (mSH, I, L))) (s3 := (d + 5, 126, 31, [some (.ref 34), some (.int v0), some (.int v1), some (.int v2)], [], 0, 0, (mSH, I, L))) rfl (fun c6 => ?_) (fun c6 => ?_)
              · refine mB 7 (s2 := (d + 5, 126, 47, [some (.ref 34), some (.int v0), some (.int v1), some (.int v2)], [.int 0, .ref 38, .int v2, .int v1, .int v0, .ref 34], 0, 0, (mSH, I, L))) rfl ?_
                refine mRq (s2 := (d + 5, 126, 48, [some (.ref 34), some (.int v0), some (.int v1), some (.int v2)], [.int (I 38 0), .int v2, .int v1, .int v0, .ref 34], 0, 0, (mSH, I, L))) rfl (by decide) ?_
                refine mB 1 (s2 := (d + 5, 126, 49, [some (.ref 34), some (.int v0), some (.int v1), some (.int v2)], [.int 0, .int (I 38 0), .int v2, .int v1, .int v0, .ref 34], 0, 0, (mSH, I, L))) rfl ?_
                (obtain ⟨j, hj, e⟩ := mNat hM.1.2.1 (Nat.le_trans hO.1.2.1 (by omega)) (of_decide_eq_false c0) (of_decide_eq_false c1); subst e; obtain ⟨i, hi, e⟩ := mNat hM.1.1 hO.1.1 (of_decide_eq_false c2) (of_decide_eq_false c3); subst e; have e := of_decide_eq_true c6; subst e; exact n_misfit1 (p := 2) hO hM hM.2.2.2 hj hi (by omega) (hq _ _ _ mGr.rf ⟨s, n, t, hm⟩ (ms_y hO.1 hj hi (by omega))))
              · refine mB 2 (s2 := (d + 5, 126, 34, [some (.ref 34), some (.int v0), some (.int v1), some (.int v2)], [.int (-2), .ref 34], 0, 0, (mSH, I, L))) rfl ?_
                refine mCall (s2 := (d + 4, 113, 0, [some (.ref 34), some (.int (-2))], [], 0, 0, (mSH, I, L))) rfl ?_
                refine mB 6 (s2 := (d + 4, 113, 9, [some (.ref 34), some (.int (-2))], [.int 0, .ref 39, .int 0, .ref 39], 0, 0, (mSH, I, L))) rfl ?_
                refine mRq (s2 := (d + 4, 113, 10, [some (.ref 34), some (.int (-2))], [.int (I 39 0), .int 0, .ref 39], 0, 0, (mSH, I, L))) rfl (by decide) ?_
                refine mB 2 (s2 := (d + 4, 113, 12, [some (.ref 34), some (.int (-2))], [.int ((I 39 0) + 1), .int 0, .ref 39], 0, 0, (mSH, I, L))) rfl ?_
                refine mRq (s2 := (d + 4, 113, 13, [some (.ref 34), some (.int (-2))], [], 0, 0, (mSH, (mUp I 39 0 ((I 39 0) + 1)), L))) rfl (by decide) ?_
                refine mB 1 (s2 := (d + 4, 113, 14, [some (.ref 34), some (.int (-2))], [.int (-2)], 0, 0, (mSH, (mUp I 39 0 ((I 39 0) + 1)), L))) rfl ?_
                refine mRt (r := (some (.int (-2)))) (h := (mSH, (mUp I 39 0 ((I 39 0) + 1)), L)) rfl (mRet_int rfl) ?_
                show mWP mTb_ mFT ro (d + 5, 126, 37, [some (.ref 34), some (.int v0), some (.int v1), some (.int v2)], [.int (-2)], 0, 0, (mSH, (mUp I 39 0 ((I 39 0) + 1)), L)) _
                refine mRt (r := (some (.int (-2)))) (h := (mSH, (mUp I 39 0 ((I 39 0) + 1)), L)) rfl (mRet_int rfl) ?_
                exact hq _ _ _ (mGr.up (by rfl) mGr.rf) ⟨s, n, t, ((mGr.up (by rfl) mGr.rf)).m hm⟩ (if_neg (c := ms_k T v0 v1 v2) (by have e1 := pm_ti hM.1.1 (by have := hO.1.1; omega); have e2 := pm_ti hM.1.2.1 (by have := hO.1.2.1; omega); have e3 := mSub1 hM.1.1 hO.1.1; have e4 := mSub1 hM.1.2.1 (Nat.le_trans hO.1.2.1 (by omega)); have e5 := hO.1.1; have e6 := hO.1.2.1; have a0 := of_decide_eq_false c0; have a1 := of_decide_eq_false c1; have a2 := of_decide_eq_false c2; have a3 := of_decide_eq_false c3; have a4 := of_decide_eq_false c4; have a5 := of_decide_eq_false c5; have a6 := of_decide_eq_false c6; simp only [Int32.lt_iff_toInt_lt, Int32.le_iff_toInt_le, ← Int32.toInt_inj, mLi0, mLi1, mLi2, mLi3, mLi4, mLi5, mLi6, mLi7, mLi8, mLi9, mLi10, mLi16, mLi32, mLi48, mLi57, mLi59, mLi65, mLi90, mLi97, mLi99, mLi120, mLi122, mLi127, mLi1584, mLi999999, mLim] at a0 a1 a2 a3 a4 a5 a6 <;> omega)).symm
