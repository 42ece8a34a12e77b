/-! The class's answers of ages, exactly. Written by a program (wip/mk_c.py). -/
/-- THE FRACTION of the class -/
def cF (o : Option (Nat × Nat)) (I I1 : Nat → Nat → Int32) : Prop := match o with
  | none => I1 25 = I 25
  | some (a, b) => I1 25 0 = nI (fr_a a b) ∧ I1 25 1 = nI (fr_b a b)
theorem cF_n {o : Option (Nat × Nat)} {I I1 : Nat → Nat → Int32} (h : o = none) (e : I1 25 = I 25) : cF o I I1 := by
  rw [h]
  exact e
theorem cF_y {o : Option (Nat × Nat)} {a b : Nat} {I I1 : Nat → Nat → Int32} (h : o = some (a, b)) (e : I1 25 0 = nI (fr_a a b)) (e2 : I1 25 1 = nI (fr_b a b)) : cF o I I1 := by
  rw [h]
  exact ⟨e, e2⟩
def an_ag (T : ct_S) (e : bt_E) (x jj : Nat) : Nat × Nat := (an_A T e jj * T.2.2 jj + (x - an_D T jj) * an_Y T e jj, T.2.2 jj)
def an_de (T : ct_S) (e : bt_E) (x jj : Nat) : Nat × Nat := (an_D T jj * an_Y T e jj + (x - an_A T e jj) * T.2.2 jj, an_Y T e jj)
section AA
variable (T : ct_S) (B : ct_B) (kd g pe : Nat) (v0 : Int32)
abbrev an_k19 : Prop := 0 ≤ v0.toInt ∧ v0.toInt ≤ an_D T T.1.2.1
def an_age : Int32 := if an_k19 T v0 then (if (an_E T B kd g pe 0).1 < bt_U then 1 else -3) else -2
def an_ageF : Option (Nat × Nat) := if an_k19 T v0 ∧ (an_E T B kd g pe 0).1 < bt_U then some (an_ag T (an_E T B kd g pe 0) v0.toInt.toNat (an_jd T v0.toInt.toNat)) else none
abbrev an_k20 : Prop := 0 ≤ v0.toInt ∧ v0.toInt ≤ 1584
abbrev an_r20 : Prop := (an_A T (an_E T B kd g pe 0) 0 : Int) ≤ v0.toInt ∧ v0.toInt ≤ (an_A T (an_E T B kd g pe 0) T.1.2.1 : Int)
def an_depth : Int32 := if an_k20 v0 then (if (an_E T B kd g pe 0).1 < bt_U then (if an_r20 T B kd g pe v0 then 1 else -1) else -3) else -2
def an_depthF : Option (Nat × Nat) := if an_k20 v0 ∧ (an_E T B kd g pe 0).1 < bt_U ∧ an_r20 T B kd g pe v0 then some (an_de T (an_E T B kd g pe 0) v0.toInt.toNat (an_jy T (an_E T B kd g pe 0) v0.toInt.toNat)) else none
abbrev an_k21 : Prop := 0 ≤ v0.toInt ∧ v0.toInt < T.1.2.1
def an_rate : Int32 := if an_k21 T v0 then (if (an_E T B kd g pe 0).1 < bt_U then 1 else -3) else -2
def an_rateF : Option (Nat × Nat) := if an_k21 T v0 ∧ (an_E T B kd g pe 0).1 < bt_U then some (T.2.2 v0.toInt.toNat, an_Y T (an_E T B kd g pe 0) v0.toInt.toNat) else none
/-- whether layer k lay down faster (slower) than layer b -/
def an_bt (T : ct_S) (e : bt_E) (w : Bool) (k b : Nat) : Bool := if w = true then decide (T.2.2 b * an_Y T e k < T.2.2 k * an_Y T e b) else decide (T.2.2 k * an_Y T e b < T.2.2 b * an_Y T e k)
def an_fa (T : ct_S) (e : bt_E) (w : Bool) : Nat → Nat
  | 0 => 0
  | k + 1 => if an_bt T e w k (an_fa T e w k) = true then k else an_fa T e w k
def an_fastest : Int32 := if kEi v0 then (if (an_E T B kd g pe 0).1 < bt_U then nI (an_fa T (an_E T B kd g pe 0) (decide (v0.toInt = 0)) T.1.2.1) else -3) else -2
end AA
section AB
variable {T : ct_S} {B : ct_B} {kd g pe : Nat} {v0 : Int32} {e : bt_E} {w : Bool}
theorem an_fal : ∀ k, k ≤ 8 → an_fa T e w k ≤ k ∧ (0 < k → an_fa T e w k < k)
  | 0, _ => ⟨Nat.le_refl 0, fun h => absurd h (Nat.lt_irrefl 0)⟩
  | k + 1, h => by
    have z := (an_fal k (by omega)).1
    unfold an_fa
    split
    · exact ⟨by omega, fun _ => by omega⟩
    · exact ⟨by omega, fun _ => by omega⟩
theorem an_fa1 : an_fa T e w 1 = 0 := by
  show (if an_bt T e w 0 0 = true then 0 else 0) = 0
  split <;> rfl
end AB
theorem x_ifa {ro : Nat → Nat × (Nat → Int32)} {Q : mPo} {d : Nat} {I : Nat → Nat → Int32} {L : Nat → Nat → Int64} {T : ct_S} {e : bt_E} {a b : Nat} (hT : ct_So T) (hS : cl_S T I) (hM : cl_M T.1.2.1 e I) (hv : bt_vl T.1.1 T.1.2.1 e.2) (ha : a < T.1.2.1) (hb : b < T.1.2.1) (q0 : ¬ T.2.2 b * an_Y T e a < T.2.2 a * an_Y T e b → Q (some (.int 0)) (mSH, I, L)) (q1 : T.2.2 b * an_Y T e a < T.2.2 a * an_Y T e b → Q (some (.int 1)) (mSH, I, L))   : mWP mTb_ mFT ro (d + 3, 26, 0, [some (.ref 22), some (.int (nI a)), some (.int (nI b))], [], 0, 0, (mSH, I, L)) Q := by
  have ya := (an_Yb hT hv ha).2
  have yb := (an_Yb hT hv hb).2
  have la := hT.2.2.2.2 a ha
  have lb := hT.2.2.2.2 b hb
  have m1 : T.2.2 a * an_Y T e b ≤ 999 * 1584 := Nat.mul_le_mul la.2 yb.2
  have m2 : T.2.2 b * an_Y T e a ≤ 999 * 1584 := Nat.mul_le_mul lb.2 ya.2
  have le : nI (T.2.2 a) * nI (an_Y T e b) ≤ nI (T.2.2 b) * nI (an_Y T e a) ↔ T.2.2 a * an_Y T e b ≤ T.2.2 b * an_Y T e a := by
    rw [nI_mul, nI_mul]
    exact nI_leI (by omega) (by omega)
  refine mB 4 (s2 := (d + 3, 26, 8, [some (.ref 22), some (.int (nI a)), some (.int (nI b))], [.int (nI a), .ref 4], 0, 0, (mSH, I, L))) rfl ?_
  refine mCall (s2 := (d + 2, 42, 0, [some (.ref 4), some (.int (nI a))], [], 0, 0, (mSH, I, L))) rfl ?_
  refine x_at4 rfl hT hS ha ?_
  show mWP mTb_ mFT ro (d + 3, 26, 11, [some (.ref 22), some (.int (nI a)), some (.int (nI b))], [.int (nI (T.2.2 a))], 0, 0, (mSH, I, L)) _
  refine mB 2 (s2 := (d + 3, 26, 13, [some (.ref 22), some (.int (nI a)), some (.int (nI b))], [.int (nI b), .ref 22, .int (nI (T.2.2 a))], 0, 0, (mSH, I, L))) rfl ?_
  refine mCall (s2 := (d + 2, 17, 0, [some (.ref 22), some (.int (nI b))], [], 0, 0, (mSH, I, L))) rfl ?_
  refine x_yof hT hS hM hv rfl hb ?_
  show mWP mTb_ mFT ro (d + 3, 26, 16, [some (.ref 22), some (.int (nI a)), some (.int (nI b))], [.int (nI (an_Y T e b)), .int (nI (T.2.2 a))], 0, 0, (mSH, I, L)) _
  refine mB 5 (s2 := (d + 3, 26, 25, [some (.ref 22), some (.int (nI a)), some (.int (nI b))], [.int (nI b), .ref 4, .int ((nI (T.2.2 a)) * (nI (an_Y T e b)))], 0, 0, (mSH, I, L))) rfl ?_
  refine mCall (s2 := (d + 2, 42, 0, [some (.ref 4), some (.int (nI b))], [], 0, 0, (mSH, I, L))) rfl ?_
  refine x_at4 rfl hT hS hb ?_
  show mWP mTb_ mFT ro (d + 3, 26, 28, [some (.ref 22), some (.int (nI a)), some (.int (nI b))], [.int (nI (T.2.2 b)), .int ((nI (T.2.2 a)) * (nI (an_Y T e b)))], 0, 0, (mSH, I, L)) _
  refine mB 2 (s2 := (d + 3, 26, 30, [some (.ref 22), some (.int (nI a)), some (.int (nI b))], [.int (nI a), .ref 22, .int (nI (T.2.2 b)), .int ((nI (T.2.2 a)) * (nI (an_Y T e b)))], 0, 0, (mSH, I, L))) rfl ?_
  refine mCall (s2 := (d + 2, 17, 0, [some (.ref 22), some (.int (nI a))], [], 0, 0, (mSH, I, L))) rfl ?_
  refine x_yof hT hS hM hv rfl ha ?_
  show mWP mTb_ mFT ro (d + 3, 26, 33, [some (.ref 22), some (.int (nI a)), some (.int (nI b))], [.int (nI (an_Y T e a)), .int (nI (T.2.2 b)), .int ((nI (T.2.2 a)) * (nI (an_Y T e b)))], 0, 0, (mSH, I, L)) _
  refine mB 1 (s2 := (d + 3, 26, 34, [some (.ref 22), some (.int (nI a)), some (.int (nI b))], [.int ((nI (T.2.2 b)) * (nI (an_Y T e a))), .int ((nI (T.2.2 a)) * (nI (an_Y T e b)))], 0, 0, (mSH, I, L))) rfl ?_
  refine mBr (s2 := (d + 3, 26, 41, [some (.ref 22), some (.int (nI a)), some (.int (nI b))], [], 0, 0, (mSH, I, L))) (s3 := (d + 3, 26, 37, [some (.ref 22), some (.int (nI a)), some (.int (nI b))], [], 0, 0, (mSH, I, L))) rfl (fun c0 => ?_) (fun c0 => ?_)
  · refine mB 1 (s2 := (d + 3, 26, 42, [some (.ref 22), some (.int (nI a)), some (.int (nI b))], [.int 0], 0, 0, (mSH, I, L))) rfl ?_
    refine mRt (r := (some (.int 0))) (h := (mSH, I, L)) rfl rfl ?_
    exact q0 (Nat.not_lt.mpr (le.mp (of_decide_eq_true c0)))
  · refine mB 2 (s2 := (d + 3, 26, 42, [some (.ref 22), some (.int (nI a)), some (.int (nI b))], [.int 1], 0, 0, (mSH, I, L))) rfl ?_
    refine mRt (r := (some (.int 1))) (h := (mSH, I, L)) rfl rfl ?_
    exact q1 (Nat.lt_of_not_le (mt le.mpr (of_decide_eq_false c0)))
theorem s_ex_1 {ro : Nat → Nat × (Nat → Int32)} {Q : mPo} {d : Nat} {I : Nat → Nat → Int32} {L : Nat → Nat → Int64} {T : ct_S} {e : bt_E} {b k : Nat} (hT : ct_So T) (hS : cl_S T I) (hM : cl_M T.1.2.1 e I) (hv : bt_vl T.1.1 T.1.2.1 e.2) (hb : b < T.1.2.1) (hk : ¬ (I 23 1 ≤ nI k) → k < T.1.2.1) (hq : I 23 1 ≤ nI k → Q (some (.int (nI b))) (mSH, I, L)) (ih0 : ¬ (T.2.2 b * an_Y T e k < T.2.2 k * an_Y T e b) → ¬ (I 23 1 ≤ nI k) → mWP mTb_ mFT ro (d + 4, 25, 4, [some (.ref 22), some (.int 1), some (.int (nI b)), some (.int (nI k + 1))], [], 0, 0, (mSH, I, L)) Q) (ih1 : T.2.2 b * an_Y T e k < T.2.2 k * an_Y T e b → ¬ (I 23 1 ≤ nI k) → mWP mTb_ mFT ro (d + 4, 25, 4, [some (.ref 22), some (.int 1), some (.int (nI k)), some (.int (nI k + 1))], [], 0, 0, (mSH, I, L)) Q)   : mWP mTb_ mFT ro (d + 4, 25, 4, [some (.ref 22), some (.int 1), some (.int (nI b)), some (.int (nI k))], [], 0, 0, (mSH, I, L)) Q := by
  refine mB 3 (s2 := (d + 4, 25, 9, [some (.ref 22), some (.int 1), some (.int (nI b)), some (.int (nI k))], [.ref 23, .int (nI k)], 0, 0, (mSH, I, L))) rfl ?_
  refine mCall (s2 := (d + 3, 39, 0, [some (.ref 23)], [], 0, 0, (mSH, I, L))) rfl ?_
  refine mB 2 (s2 := (d + 3, 39, 4, [some (.ref 23)], [.int (I 23 1)], 0, 0, (mSH, I, L))) rfl ?_
  refine mRt (r := (some (.int (I 23 1)))) (h := (mSH, I, L)) rfl (mRet_int rfl) ?_
  show mWP mTb_ mFT ro (d + 4, 25, 12, [some (.ref 22), some (.int 1), some (.int (nI b)), some (.int (nI k))], [.int (I 23 1), .int (nI k)], 0, 0, (mSH, I, L)) _
  refine mBr (s2 := (d + 4, 25, 48, [some (.ref 22), some (.int 1), some (.int (nI b)), some (.int (nI k))], [], 0, 0, (mSH, I, L))) (s3 := (d + 4, 25, 15, [some (.ref 22), some (.int 1), some (.int (nI b)), some (.int (nI k))], [], 0, 0, (mSH, I, L))) rfl (fun c0 => ?_) (fun c0 => ?_)
  · refine mB 1 (s2 := (d + 4, 25, 49, [some (.ref 22), some (.int 1), some (.int (nI b)), some (.int (nI k))], [.int (nI b)], 0, 0, (mSH, I, L))) rfl ?_
    refine mRt (r := (some (.int (nI b)))) (h := (mSH, I, L)) rfl (mRet_int rfl) ?_
    exact hq (of_decide_eq_true c0)
  · refine mB 1 (s2 := (d + 4, 25, 16, [some (.ref 22), some (.int 1), some (.int (nI b)), some (.int (nI k))], [.int 1], 0, 0, (mSH, I, L))) rfl ?_
    refine mBF (s3 := (d + 4, 25, 19, [some (.ref 22), some (.int 1), some (.int (nI b)), some (.int (nI k))], [], 0, 0, (mSH, I, L))) rfl (by decide) ?_
    refine mB 3 (s2 := (d + 4, 25, 22, [some (.ref 22), some (.int 1), some (.int (nI b)), some (.int (nI k))], [.int (nI b), .int (nI k), .ref 22], 0, 0, (mSH, I, L))) rfl ?_
    refine mCall (s2 := (d + 3, 26, 0, [some (.ref 22), some (.int (nI k)), some (.int (nI b))], [], 0, 0, (mSH, I, L))) rfl ?_
    refine x_ifa hT hS hM hv (hk (of_decide_eq_false c0)) hb ?_ ?_
    · intro n1
      show mWP mTb_ mFT ro (d + 4, 25, 25, [some (.ref 22), some (.int 1), some (.int (nI b)), some (.int (nI k))], [.int 0], 0, 0, (mSH, I, L)) _
      refine mBT (s2 := (d + 4, 25, 42, [some (.ref 22), some (.int 1), some (.int (nI b)), some (.int (nI k))], [], 0, 0, (mSH, I, L))) rfl (by decide) ?_
      refine mB 2 (s2 := (d + 4, 25, 4, [some (.ref 22), some (.int 1), some (.int (nI b)), some (.int ((nI k) + 1))], [], 0, 0, (mSH, I, L))) rfl ?_
      exact ih0 n1 (of_decide_eq_false c0)
    · intro y1
      show mWP mTb_ mFT ro (d + 4, 25, 25, [some (.ref 22), some (.int 1), some (.int (nI b)), some (.int (nI k))], [.int 1], 0, 0, (mSH, I, L)) _
      refine mBF (s3 := (d + 4, 25, 28, [some (.ref 22), some (.int 1), some (.int (nI b)), some (.int (nI k))], [], 0, 0, (mSH, I, L))) rfl (by decide) ?_
      refine mB 5 (s2 := (d + 4, 25, 4, [some (.ref 22), some (.int 1), some (.int (nI k)), some (.int ((nI k) + 1))], [], 0, 0, (mSH, I, L))) rfl ?_
      exact ih1 y1 (of_decide_eq_false c0)
theorem l_ex_1 {ro : Nat → Nat × (Nat → Int32)} {Q : mPo} {d : Nat} {I : Nat → Nat → Int32} {L : Nat → Nat → Int64} {T : ct_S} {e : bt_E} (hT : ct_So T) (hS : cl_S T I) (hM : cl_M T.1.2.1 e I) (hv : bt_vl T.1.1 T.1.2.1 e.2) (hq : Q (some (.int (nI (an_fa T e true T.1.2.1)))) (mSH, I, L)) : ∀ (f k : Nat), k + f = T.1.2.1 → 0 < k → mWP mTb_ mFT ro (d + 4, 25, 4, [some (.ref 22), some (.int 1), some (.int (nI (an_fa T e true k))), some (.int (nI k))], [], 0, 0, (mSH, I, L)) Q := by
  have n8 := hT.2.1
  intro f
  induction f with
  | zero =>
    intro k hk k0
    have ek : k = T.1.2.1 := by omega
    subst ek
    have z : I 23 1 ≤ nI T.1.2.1 := by
      rw [hM.2.1]
      exact nI_le (Nat.le_refl _) (by omega)
    exact s_ex_1 hT hS hM hv ((an_fal _ n8).2 k0) (fun c => absurd z c) (fun _ => hq) (fun _ c => absurd z c) (fun _ c => absurd z c)
  | succ f ih =>
    intro k hk k0
    have z : ¬ I 23 1 ≤ nI k := by
      rw [hM.2.1]
      exact nI_ge (by omega) (by omega)
    have l := (an_fal (T := T) (e := e) (w := true) k (by omega)).2 k0
    have nx := ih (k + 1) (by omega) (by omega)
    refine s_ex_1 hT hS hM hv (by omega) (fun _ => by omega) (fun c => absurd c z) (fun c _ => ?_) (fun c _ => ?_)
    · have y : an_fa T e true (k + 1) = an_fa T e true k := if_neg (fun y => c (of_decide_eq_true y))
      rw [y] at nx
      rw [nI_1]
      exact nx
    · have y : an_fa T e true (k + 1) = k := if_pos (decide_eq_true c)
      rw [y] at nx
      rw [nI_1]
      exact nx
theorem x_ext_1 {ro : Nat → Nat × (Nat → Int32)} {Q : mPo} {d : Nat} {I : Nat → Nat → Int32} {L : Nat → Nat → Int64} {T : ct_S} {e : bt_E} (hT : ct_So T) (hS : cl_S T I) (hM : cl_M T.1.2.1 e I) (hv : bt_vl T.1.1 T.1.2.1 e.2) (hn : 0 < T.1.2.1) (hq : Q (some (.int (nI (an_fa T e true T.1.2.1)))) (mSH, I, L)) : mWP mTb_ mFT ro (d + 4, 25, 0, [some (.ref 22), some (.int 1), none, none], [], 0, 0, (mSH, I, L)) Q := by
  have z := l_ex_1 (ro := ro) (d := d) (L := L) hT hS hM hv hq (T.1.2.1 - 1) 1 (by omega) (by omega)
  rw [an_fa1] at z
  exact mB 4 (s2 := (d + 4, 25, 4, [some (.ref 22), some (.int 1), some (.int (nI 0)), some (.int (nI 1))], [], 0, 0, (mSH, I, L))) rfl z
theorem s_ex_0 {ro : Nat → Nat × (Nat → Int32)} {Q : mPo} {d : Nat} {I : Nat → Nat → Int32} {L : Nat → Nat → Int64} {T : ct_S} {e : bt_E} {b k : Nat} (hT : ct_So T) (hS : cl_S T I) (hM : cl_M T.1.2.1 e I) (hv : bt_vl T.1.1 T.1.2.1 e.2) (hb : b < T.1.2.1) (hk : ¬ (I 23 1 ≤ nI k) → k < T.1.2.1) (hq : I 23 1 ≤ nI k → Q (some (.int (nI b))) (mSH, I, L)) (ih0 : ¬ (T.2.2 k * an_Y T e b < T.2.2 b * an_Y T e k) → ¬ (I 23 1 ≤ nI k) → mWP mTb_ mFT ro (d + 4, 25, 4, [some (.ref 22), some (.int 0), some (.int (nI b)), some (.int (nI k + 1))], [], 0, 0, (mSH, I, L)) Q) (ih1 : T.2.2 k * an_Y T e b < T.2.2 b * an_Y T e k → ¬ (I 23 1 ≤ nI k) → mWP mTb_ mFT ro (d + 4, 25, 4, [some (.ref 22), some (.int 0), some (.int (nI k)), some (.int (nI k + 1))], [], 0, 0, (mSH, I, L)) Q)   : mWP mTb_ mFT ro (d + 4, 25, 4, [some (.ref 22), some (.int 0), some (.int (nI b)), some (.int (nI k))], [], 0, 0, (mSH, I, L)) Q := by
  refine mB 3 (s2 := (d + 4, 25, 9, [some (.ref 22), some (.int 0), some (.int (nI b)), some (.int (nI k))], [.ref 23, .int (nI k)], 0, 0, (mSH, I, L))) rfl ?_
  refine mCall (s2 := (d + 3, 39, 0, [some (.ref 23)], [], 0, 0, (mSH, I, L))) rfl ?_
  refine mB 2 (s2 := (d + 3, 39, 4, [some (.ref 23)], [.int (I 23 1)], 0, 0, (mSH, I, L))) rfl ?_
  refine mRt (r := (some (.int (I 23 1)))) (h := (mSH, I, L)) rfl (mRet_int rfl) ?_
  show mWP mTb_ mFT ro (d + 4, 25, 12, [some (.ref 22), some (.int 0), some (.int (nI b)), some (.int (nI k))], [.int (I 23 1), .int (nI k)], 0, 0, (mSH, I, L)) _
  refine mBr (s2 := (d + 4, 25, 48, [some (.ref 22), some (.int 0), some (.int (nI b)), some (.int (nI k))], [], 0, 0, (mSH, I, L))) (s3 := (d + 4, 25, 15, [some (.ref 22), some (.int 0), some (.int (nI b)), some (.int (nI k))], [], 0, 0, (mSH, I, L))) rfl (fun c0 => ?_) (fun c0 => ?_)
  · refine mB 1 (s2 := (d + 4, 25, 49, [some (.ref 22), some (.int 0), some (.int (nI b)), some (.int (nI k))], [.int (nI b)], 0, 0, (mSH, I, L))) rfl ?_
    refine mRt (r := (some (.int (nI b)))) (h := (mSH, I, L)) rfl (mRet_int rfl) ?_
    exact hq (of_decide_eq_true c0)
  · refine mB 1 (s2 := (d + 4, 25, 16, [some (.ref 22), some (.int 0), some (.int (nI b)), some (.int (nI k))], [.int 0], 0, 0, (mSH, I, L))) rfl ?_
    refine mBT (s2 := (d + 4, 25, 31, [some (.ref 22), some (.int 0), some (.int (nI b)), some (.int (nI k))], [], 0, 0, (mSH, I, L))) rfl (by decide) ?_
    refine mB 3 (s2 := (d + 4, 25, 34, [some (.ref 22), some (.int 0), some (.int (nI b)), some (.int (nI k))], [.int (nI k), .int (nI b), .ref 22], 0, 0, (mSH, I, L))) rfl ?_
    refine mCall (s2 := (d + 3, 26, 0, [some (.ref 22), some (.int (nI b)), some (.int (nI k))], [], 0, 0, (mSH, I, L))) rfl ?_
    refine x_ifa hT hS hM hv hb (hk (of_decide_eq_false c0)) ?_ ?_
    · intro n1
      show mWP mTb_ mFT ro (d + 4, 25, 37, [some (.ref 22), some (.int 0), some (.int (nI b)), some (.int (nI k))], [.int 0], 0, 0, (mSH, I, L)) _
      refine mBT (s2 := (d + 4, 25, 42, [some (.ref 22), some (.int 0), some (.int (nI b)), some (.int (nI k))], [], 0, 0, (mSH, I, L))) rfl (by decide) ?_
      refine mB 2 (s2 := (d + 4, 25, 4, [some (.ref 22), some (.int 0), some (.int (nI b)), some (.int ((nI k) + 1))], [], 0, 0, (mSH, I, L))) rfl ?_
      exact ih0 n1 (of_decide_eq_false c0)
    · intro y1
      show mWP mTb_ mFT ro (d + 4, 25, 37, [some (.ref 22), some (.int 0), some (.int (nI b)), some (.int (nI k))], [.int 1], 0, 0, (mSH, I, L)) _
      refine mBF (s3 := (d + 4, 25, 40, [some (.ref 22), some (.int 0), some (.int (nI b)), some (.int (nI k))], [], 0, 0, (mSH, I, L))) rfl (by decide) ?_
      refine mB 4 (s2 := (d + 4, 25, 4, [some (.ref 22), some (.int 0), some (.int (nI k)), some (.int ((nI k) + 1))], [], 0, 0, (mSH, I, L))) rfl ?_
      exact ih1 y1 (of_decide_eq_false c0)
theorem l_ex_0 {ro : Nat → Nat × (Nat → Int32)} {Q : mPo} {d : Nat} {I : Nat → Nat → Int32} {L : Nat → Nat → Int64} {T : ct_S} {e : bt_E} (hT : ct_So T) (hS : cl_S T I) (hM : cl_M T.1.2.1 e I) (hv : bt_vl T.1.1 T.1.2.1 e.2) (hq : Q (some (.int (nI (an_fa T e false T.1.2.1)))) (mSH, I, L)) : ∀ (f k : Nat), k + f = T.1.2.1 → 0 < k → mWP mTb_ mFT ro (d + 4, 25, 4, [some (.ref 22), some (.int 0), some (.int (nI (an_fa T e false k))), some (.int (nI k))], [], 0, 0, (mSH, I, L)) Q := by
  have n8 := hT.2.1
  intro f
  induction f with
  | zero =>
    intro k hk k0
    have ek : k = T.1.2.1 := by omega
    subst ek
    have z : I 23 1 ≤ nI T.1.2.1 := by
      rw [hM.2.1]
      exact nI_le (Nat.le_refl _) (by omega)
    exact s_ex_0 hT hS hM hv ((an_fal _ n8).2 k0) (fun c => absurd z c) (fun _ => hq) (fun _ c => absurd z c) (fun _ c => absurd z c)
  | succ f ih =>
    intro k hk k0
    have z : ¬ I 23 1 ≤ nI k := by
      rw [hM.2.1]
      exact nI_ge (by omega) (by omega)
    have l := (an_fal (T := T) (e := e) (w := false) k (by omega)).2 k0
    have nx := ih (k + 1) (by omega) (by omega)
    refine s_ex_0 hT hS hM hv (by omega) (fun _ => by omega) (fun c => absurd c z) (fun c _ => ?_) (fun c _ => ?_)
    · have y : an_fa T e false (k + 1) = an_fa T e false k := if_neg (fun y => c (of_decide_eq_true y))
      rw [y] at nx
      rw [nI_1]
      exact nx
    · have y : an_fa T e false (k + 1) = k := if_pos (decide_eq_true c)
      rw [y] at nx
      rw [nI_1]
      exact nx
theorem x_ext_0 {ro : Nat → Nat × (Nat → Int32)} {Q : mPo} {d : Nat} {I : Nat → Nat → Int32} {L : Nat → Nat → Int64} {T : ct_S} {e : bt_E} (hT : ct_So T) (hS : cl_S T I) (hM : cl_M T.1.2.1 e I) (hv : bt_vl T.1.1 T.1.2.1 e.2) (hn : 0 < T.1.2.1) (hq : Q (some (.int (nI (an_fa T e false T.1.2.1)))) (mSH, I, L)) : mWP mTb_ mFT ro (d + 4, 25, 0, [some (.ref 22), some (.int 0), none, none], [], 0, 0, (mSH, I, L)) Q := by
  have z := l_ex_0 (ro := ro) (d := d) (L := L) hT hS hM hv hq (T.1.2.1 - 1) 1 (by omega) (by omega)
  rw [an_fa1] at z
  exact mB 4 (s2 := (d + 4, 25, 4, [some (.ref 22), some (.int 0), some (.int (nI 0)), some (.int (nI 1))], [], 0, 0, (mSH, I, L))) rfl z
theorem v_ageF {ro : Nat → Nat × (Nat → Int32)} {Q : mPo} {d : Nat} {I : Nat → Nat → Int32} {L : Nat → Nat → Int64} {T : ct_S} {B : ct_B} {kd g pe : Nat} {v0 : Int32} (hI : mIC I) (hO : pm_O T B kd g pe) (hC : pm_C T B kd g pe I) (hq : ∀ r I1, mFr mSQ I I1 → mIC I1 → r = an_age T B kd g pe v0 → cF (an_ageF T B kd g pe v0) I I1 → Q (some (.int r)) (mSH, I1, L))   : mWP mTb_ mFT ro (d + 7, 93, 0, [some (.ref 0), some (.int v0)], [], 0, 0, (mSH, I, L)) Q := by
  refine mB 1 (s2 := (d + 7, 93, 1, [some (.ref 0), some (.int v0)], [.int v0], 0, 0, (mSH, I, L))) rfl ?_
  refine mBr (s2 := (d + 7, 93, 18, [some (.ref 0), some (.int v0)], [], 0, 0, (mSH, I, L))) (s3 := (d + 7, 93, 4, [some (.ref 0), some (.int v0)], [], 0, 0, (mSH, I, L))) rfl (fun c0 => ?_) (fun c0 => ?_)
  · refine mB 2 (s2 := (d + 7, 93, 21, [some (.ref 0), some (.int v0)], [.int (-2), .ref 0], 0, 0, (mSH, I, L))) rfl ?_
    refine mCall (s2 := (d + 6, 103, 0, [some (.ref 0), some (.int (-2))], [], 0, 0, (mSH, I, L))) rfl ?_
    refine mB 2 (s2 := (d + 6, 103, 3, [some (.ref 0), some (.int (-2))], [.int (-2), .int (-2)], 0, 0, (mSH, I, L))) rfl ?_
    refine mBT (s2 := (d + 6, 103, 6, [some (.ref 0), some (.int (-2))], [], 0, 0, (mSH, I, L))) rfl (by decide) ?_
    refine mB 8 (s2 := (d + 6, 103, 49, [some (.ref 0), some (.int (-2))], [.int (-2)], 0, 0, (mSH, (mUp I 0 9 ((I 0 9) + 1)), L))) rfl ?_
    refine mRt (r := (some (.int (-2)))) (h := (mSH, (mUp I 0 9 ((I 0 9) + 1)), L)) rfl (mRet_int rfl) ?_
    show mWP mTb_ mFT ro (d + 7, 93, 24, [some (.ref 0), some (.int v0)], [.int (-2)], 0, 0, (mSH, (mUp I 0 9 ((I 0 9) + 1)), L)) _
    refine mRt (r := (some (.int (-2)))) (h := (mSH, (mUp I 0 9 ((I 0 9) + 1)), L)) rfl (mRet_int rfl) ?_
    exact hq _ _ (mFr.up (by rfl) mFr.rf) (mIC.u0 hI) (if_neg (c := an_k19 T v0) (by have a0 := of_decide_eq_true c0; have e9 := nI_toInt (n := an_D T T.1.2.1) (by have := an_Db hO.1 T.1.2.1 (Nat.le_refl _); have := hO.1.2.1; omega); simp only [Int32.lt_iff_toInt_lt, Int32.le_iff_toInt_le, mLi0, e9] at a0 <;> omega)).symm (cF_n (if_neg (fun z => absurd z.1 (by have a0 := of_decide_eq_true c0; have e9 := nI_toInt (n := an_D T T.1.2.1) (by have := an_Db hO.1 T.1.2.1 (Nat.le_refl _); have := hO.1.2.1; omega); simp only [Int32.lt_iff_toInt_lt, Int32.le_iff_toInt_le, mLi0, e9] at a0 <;> omega))) rfl)
  · refine mB 4 (s2 := (d + 7, 93, 12, [some (.ref 0), some (.int v0)], [.ref 4, .int v0], 0, 0, (mSH, I, L))) rfl ?_
    refine mCall (s2 := (d + 6, 48, 0, [some (.ref 4)], [], 0, 0, (mSH, I, L))) rfl ?_
    refine mB 3 (s2 := (d + 6, 48, 5, [some (.ref 4)], [.int (I 4 1), .ref 4], 0, 0, (mSH, I, L))) rfl ?_
    refine mCall (s2 := (d + 5, 47, 0, [some (.ref 4), some (.int (I 4 1)), none, none], [], 0, 0, (mSH, I, L))) rfl ?_
    refine x_t4 (j := T.1.2.1) hC.1.2.1 hO.1 hC.1 (Nat.le_refl _) ?_
    show mWP mTb_ mFT ro (d + 6, 48, 8, [some (.ref 4)], [.int (nI (an_D T T.1.2.1))], 0, 0, (mSH, I, L)) _
    refine mRt (r := (some (.int (nI (an_D T T.1.2.1))))) (h := (mSH, I, L)) rfl (mRet_int rfl) ?_
    show mWP mTb_ mFT ro (d + 7, 93, 15, [some (.ref 0), some (.int v0)], [.int (nI (an_D T T.1.2.1)), .int v0], 0, 0, (mSH, I, L)) _
    refine mBr (s2 := (d + 7, 93, 25, [some (.ref 0), some (.int v0)], [], 0, 0, (mSH, I, L))) (s3 := (d + 7, 93, 18, [some (.ref 0), some (.int v0)], [], 0, 0, (mSH, I, L))) rfl (fun c1 => ?_) (fun c1 => ?_)
    · refine mB 2 (s2 := (d + 7, 93, 27, [some (.ref 0), some (.int v0)], [.int 0, .ref 0], 0, 0, (mSH, I, L))) rfl ?_
      refine mCall (s2 := (d + 6, 106, 0, [some (.ref 0), some (.int 0)], [], 0, 0, (mSH, I, L))) rfl ?_
      refine x_finds hI hO hC (Or.inl rfl) ?_ ?_
      · intro hn K fK rK cK
        show mWP mTb_ mFT ro (d + 7, 93, 30, [some (.ref 0), some (.int v0)], [.int 0], 0, 0, (mSH, K, L)) _
        refine mBT (s2 := (d + 7, 93, 33, [some (.ref 0), some (.int v0)], [], 0, 0, (mSH, K, L))) rfl (by decide) ?_
        refine mB 2 (s2 := (d + 7, 93, 36, [some (.ref 0), some (.int v0)], [.int (-3), .ref 0], 0, 0, (mSH, K, L))) rfl ?_
        refine mCall (s2 := (d + 6, 103, 0, [some (.ref 0), some (.int (-3))], [], 0, 0, (mSH, K, L))) rfl ?_
        refine mB 2 (s2 := (d + 6, 103, 3, [some (.ref 0), some (.int (-3))], [.int (-2), .int (-3)], 0, 0, (mSH, K, L))) rfl ?_
        refine mBF (s3 := (d + 6, 103, 19, [some (.ref 0), some (.int (-3))], [], 0, 0, (mSH, K, L))) rfl (by decide) ?_
        refine mB 2 (s2 := (d + 6, 103, 22, [some (.ref 0), some (.int (-3))], [.int (-3), .int (-3)], 0, 0, (mSH, K, L))) rfl ?_
        refine mBT (s2 := (d + 6, 103, 25, [some (.ref 0), some (.int (-3))], [], 0, 0, (mSH, K, L))) rfl (by decide) ?_
        refine mB 8 (s2 := (d + 6, 103, 49, [some (.ref 0), some (.int (-3))], [.int (-3)], 0, 0, (mSH, (mUp K 0 10 ((K 0 10) + 1)), L))) rfl ?_
        refine mRt (r := (some (.int (-3)))) (h := (mSH, (mUp K 0 10 ((K 0 10) + 1)), L)) rfl (mRet_int rfl) ?_
        show mWP mTb_ mFT ro (d + 7, 93, 39, [some (.ref 0), some (.int v0)], [.int (-3)], 0, 0, (mSH, (mUp K 0 10 ((K 0 10) + 1)), L)) _
        refine mRt (r := (some (.int (-3)))) (h := (mSH, (mUp K 0 10 ((K 0 10) + 1)), L)) rfl (mRet_int rfl) ?_
        exact hq _ _ (mFr.up (by rfl) (mFr.sub (by decide) fK)) (mIC.u0 (hI.sx fK rK cK)) ((if_neg hn).symm.trans (if_pos (c := an_k19 T v0) (by have a0 := of_decide_eq_false c0; have a1 := of_decide_eq_true c1; have e9 := nI_toInt (n := an_D T T.1.2.1) (by have := an_Db hO.1 T.1.2.1 (Nat.le_refl _); have := hO.1.2.1; omega); simp only [Int32.lt_iff_toInt_lt, Int32.le_iff_toInt_le, mLi0, e9] at a0 a1 <;> omega)).symm) (cF_n (if_neg (fun z => hn z.2)) (fK 25 rfl))
      · intro hy K fK rK cK mK
        show mWP mTb_ mFT ro (d + 7, 93, 30, [some (.ref 0), some (.int v0)], [.int 1], 0, 0, (mSH, K, L)) _
        refine mBF (s3 := (d + 7, 93, 40, [some (.ref 0), some (.int v0)], [], 0, 0, (mSH, K, L))) rfl (by decide) ?_
        refine mB 5 (s2 := (d + 7, 93, 49, [some (.ref 0), some (.int v0)], [.ref 25, .int v0, .ref 22], 0, 0, (mSH, K, L))) rfl ?_
        refine mCall (s2 := (d + 6, 23, 0, [some (.ref 22), some (.int v0), some (.ref 25), none, none, none], [], 0, 0, (mSH, K, L))) rfl ?_
        have n0 := (an_v hO hy).2; obtain ⟨jj, ejj⟩ : ∃ jj, an_jd T v0.toInt.toNat = jj := ⟨_, rfl⟩; have jp := an_jd_p (T := T) (x := v0.toInt.toNat) n0; rw [ejj] at jp; have k19 : an_k19 T v0 := (by have a0 := of_decide_eq_false c0; have a1 := of_decide_eq_true c1; have e9 := nI_toInt (n := an_D T T.1.2.1) (by have := an_Db hO.1 T.1.2.1 (Nat.le_refl _); have := hO.1.2.1; omega); simp only [Int32.lt_iff_toInt_lt, Int32.le_iff_toInt_le, mLi0, e9] at a0 a1 <;> omega); refine x_tage (e := (an_E T B kd g pe 0)) hO.1 ((hC.fr fK (by decide)).1) mK (an_v hO hy).1 n0 (pm_n k19.1) (by have := k19.2; have := an_Db hO.1 T.1.2.1 (Nat.le_refl _); have := hO.1.2.1; omega) ejj jp.1 jp.2 ?_
        show mWP mTb_ mFT ro (d + 7, 93, 52, [some (.ref 0), some (.int v0)], [], 0, 0, (mSH, (mUp (mUp K 25 0 (nI (fr_a (an_ag T (an_E T B kd g pe 0) v0.toInt.toNat jj).1 (an_ag T (an_E T B kd g pe 0) v0.toInt.toNat jj).2))) 25 1 (nI (fr_b (an_ag T (an_E T B kd g pe 0) v0.toInt.toNat jj).1 (an_ag T (an_E T B kd g pe 0) v0.toInt.toNat jj).2))), L)) _
        refine mB 1 (s2 := (d + 7, 93, 53, [some (.ref 0), some (.int v0)], [.int 1], 0, 0, (mSH, (mUp (mUp K 25 0 (nI (fr_a (an_ag T (an_E T B kd g pe 0) v0.toInt.toNat jj).1 (an_ag T (an_E T B kd g pe 0) v0.toInt.toNat jj).2))) 25 1 (nI (fr_b (an_ag T (an_E T B kd g pe 0) v0.toInt.toNat jj).1 (an_ag T (an_E T B kd g pe 0) v0.toInt.toNat jj).2))), L))) rfl ?_
        refine mRt (r := (some (.int 1))) (h := (mSH, (mUp (mUp K 25 0 (nI (fr_a (an_ag T (an_E T B kd g pe 0) v0.toInt.toNat jj).1 (an_ag T (an_E T B kd g pe 0) v0.toInt.toNat jj).2))) 25 1 (nI (fr_b (an_ag T (an_E T B kd g pe 0) v0.toInt.toNat jj).1 (an_ag T (an_E T B kd g pe 0) v0.toInt.toNat jj).2))), L)) rfl (mRet_int rfl) ?_
        exact hq _ _ (mFr.up (by rfl) (mFr.up (by rfl) (mFr.sub (by decide) fK))) (mIC.u25 (mIC.u25 (hI.sx fK rK cK))) ((if_pos hy).symm.trans (if_pos (c := an_k19 T v0) (by have a0 := of_decide_eq_false c0; have a1 := of_decide_eq_true c1; have e9 := nI_toInt (n := an_D T T.1.2.1) (by have := an_Db hO.1 T.1.2.1 (Nat.le_refl _); have := hO.1.2.1; omega); simp only [Int32.lt_iff_toInt_lt, Int32.le_iff_toInt_le, mLi0, e9] at a0 a1 <;> omega)).symm) (cF_y (a := (an_ag T (an_E T B kd g pe 0) v0.toInt.toNat jj).1) (b := (an_ag T (an_E T B kd g pe 0) v0.toInt.toNat jj).2) (by unfold an_ageF; rw [if_pos ⟨k19, hy⟩, ejj]) rfl rfl)
    · refine mB 2 (s2 := (d + 7, 93, 21, [some (.ref 0), some (.int v0)], [.int (-2), .ref 0], 0, 0, (mSH, I, L))) rfl ?_
      refine mCall (s2 := (d + 6, 103, 0, [some (.ref 0), some (.int (-2))], [], 0, 0, (mSH, I, L))) rfl ?_
      refine mB 2 (s2 := (d + 6, 103, 3, [some (.ref 0), some (.int (-2))], [.int (-2), .int (-2)], 0, 0, (mSH, I, L))) rfl ?_
      refine mBT (s2 := (d + 6, 103, 6, [some (.ref 0), some (.int (-2))], [], 0, 0, (mSH, I, L))) rfl (by decide) ?_
      refine mB 8 (s2 := (d + 6, 103, 49, [some (.ref 0), some (.int (-2))], [.int (-2)], 0, 0, (mSH, (mUp I 0 9 ((I 0 9) + 1)), L))) rfl ?_
      refine mRt (r := (some (.int (-2)))) (h := (mSH, (mUp I 0 9 ((I 0 9) + 1)), L)) rfl (mRet_int rfl) ?_
      show mWP mTb_ mFT ro (d + 7, 93, 24, [some (.ref 0), some (.int v0)], [.int (-2)], 0, 0, (mSH, (mUp I 0 9 ((I 0 9) + 1)), L)) _
      refine mRt (r := (some (.int (-2)))) (h := (mSH, (mUp I 0 9 ((I 0 9) + 1)), L)) rfl (mRet_int rfl) ?_
      exact hq _ _ (mFr.up (by rfl) mFr.rf) (mIC.u0 hI) (if_neg (c := an_k19 T v0) (by have a0 := of_decide_eq_false c0; have a1 := of_decide_eq_false c1; have e9 := nI_toInt (n := an_D T T.1.2.1) (by have := an_Db hO.1 T.1.2.1 (Nat.le_refl _); have := hO.1.2.1; omega); simp only [Int32.lt_iff_toInt_lt, Int32.le_iff_toInt_le, mLi0, e9] at a0 a1 <;> omega)).symm (cF_n (if_neg (fun z => absurd z.1 (by have a0 := of_decide_eq_false c0; have a1 := of_decide_eq_false c1; have e9 := nI_toInt (n := an_D T T.1.2.1) (by have := an_Db hO.1 T.1.2.1 (Nat.le_refl _); have := hO.1.2.1; omega); simp only [Int32.lt_iff_toInt_lt, Int32.le_iff_toInt_le, mLi0, e9] at a0 a1 <;> omega))) rfl)
theorem v_age {ro : Nat → Nat × (Nat → Int32)} {Q : mPo} {d : Nat} {I : Nat → Nat → Int32} {L : Nat → Nat → Int64} {T : ct_S} {B : ct_B} {kd g pe : Nat} {v0 : Int32} (hI : mIC I) (hO : pm_O T B kd g pe) (hC : pm_C T B kd g pe I) (hq : ∀ r I1, mFr mSQ I I1 → mIC I1 → r = an_age T B kd g pe v0 → Q (some (.int r)) (mSH, I1, L)) : mWP mTb_ mFT ro (d + 7, 93, 0, [some (.ref 0), some (.int v0)], [], 0, 0, (mSH, I, L)) Q := v_ageF hI hO hC (fun r I1 a b c _ => hq r I1 a b c)
theorem v_depthF {ro : Nat → Nat × (Nat → Int32)} {Q : mPo} {d : Nat} {I : Nat → Nat → Int32} {L : Nat → Nat → Int64} {T : ct_S} {B : ct_B} {kd g pe : Nat} {v0 : Int32} (hI : mIC I) (hO : pm_O T B kd g pe) (hC : pm_C T B kd g pe I) (hq : ∀ r I1, mFr mSQ I I1 → mIC I1 → r = an_depth T B kd g pe v0 → cF (an_depthF T B kd g pe v0) I I1 → Q (some (.int r)) (mSH, I1, L))   : mWP mTb_ mFT ro (d + 7, 94, 0, [some (.ref 0), some (.int v0)], [], 0, 0, (mSH, I, L)) Q := by
  refine mB 1 (s2 := (d + 7, 94, 1, [some (.ref 0), some (.int v0)], [.int v0], 0, 0, (mSH, I, L))) rfl ?_
  refine mBr (s2 := (d + 7, 94, 11, [some (.ref 0), some (.int v0)], [], 0, 0, (mSH, I, L))) (s3 := (d + 7, 94, 4, [some (.ref 0), some (.int v0)], [], 0, 0, (mSH, I, L))) rfl (fun c0 => ?_) (fun c0 => ?_)
  · refine mB 2 (s2 := (d + 7, 94, 14, [some (.ref 0), some (.int v0)], [.int (-2), .ref 0], 0, 0, (mSH, I, L))) rfl ?_
    refine mCall (s2 := (d + 6, 103, 0, [some (.ref 0), some (.int (-2))], [], 0, 0, (mSH, I, L))) rfl ?_
    refine mB 2 (s2 := (d + 6, 103, 3, [some (.ref 0), some (.int (-2))], [.int (-2), .int (-2)], 0, 0, (mSH, I, L))) rfl ?_
    refine mBT (s2 := (d + 6, 103, 6, [some (.ref 0), some (.int (-2))], [], 0, 0, (mSH, I, L))) rfl (by decide) ?_
    refine mB 8 (s2 := (d + 6, 103, 49, [some (.ref 0), some (.int (-2))], [.int (-2)], 0, 0, (mSH, (mUp I 0 9 ((I 0 9) + 1)), L))) rfl ?_
    refine mRt (r := (some (.int (-2)))) (h := (mSH, (mUp I 0 9 ((I 0 9) + 1)), L)) rfl (mRet_int rfl) ?_
    show mWP mTb_ mFT ro (d + 7, 94, 17, [some (.ref 0), some (.int v0)], [.int (-2)], 0, 0, (mSH, (mUp I 0 9 ((I 0 9) + 1)), L)) _
    refine mRt (r := (some (.int (-2)))) (h := (mSH, (mUp I 0 9 ((I 0 9) + 1)), L)) rfl (mRet_int rfl) ?_
    exact hq _ _ (mFr.up (by rfl) mFr.rf) (mIC.u0 hI) (if_neg (c := an_k20 v0) (by have a0 := of_decide_eq_true c0; simp only [Int32.lt_iff_toInt_lt, mLi0] at a0 <;> omega)).symm (cF_n (if_neg (fun z => absurd z.1 (by have a0 := of_decide_eq_true c0; simp only [Int32.lt_iff_toInt_lt, mLi0] at a0 <;> omega))) rfl)
  · refine mB 2 (s2 := (d + 7, 94, 8, [some (.ref 0), some (.int v0)], [.int 1584, .int v0], 0, 0, (mSH, I, L))) rfl ?_
    refine mBr (s2 := (d + 7, 94, 18, [some (.ref 0), some (.int v0)], [], 0, 0, (mSH, I, L))) (s3 := (d + 7, 94, 11, [some (.ref 0), some (.int v0)], [], 0, 0, (mSH, I, L))) rfl (fun c1 => ?_) (fun c1 => ?_)
    · refine mB 2 (s2 := (d + 7, 94, 20, [some (.ref 0), some (.int v0)], [.int 0, .ref 0], 0, 0, (mSH, I, L))) rfl ?_
      refine mCall (s2 := (d + 6, 106, 0, [some (.ref 0), some (.int 0)], [], 0, 0, (mSH, I, L))) rfl ?_
      refine x_finds hI hO hC (Or.inl rfl) ?_ ?_
      · intro hn K fK rK cK
        show mWP mTb_ mFT ro (d + 7, 94, 23, [some (.ref 0), some (.int v0)], [.int 0], 0, 0, (mSH, K, L)) _
        refine mBT (s2 := (d + 7, 94, 26, [some (.ref 0), some (.int v0)], [], 0, 0, (mSH, K, L))) rfl (by decide) ?_
        refine mB 2 (s2 := (d + 7, 94, 29, [some (.ref 0), some (.int v0)], [.int (-3), .ref 0], 0, 0, (mSH, K, L))) rfl ?_
        refine mCall (s2 := (d + 6, 103, 0, [some (.ref 0), some (.int (-3))], [], 0, 0, (mSH, K, L))) rfl ?_
        refine mB 2 (s2 := (d + 6, 103, 3, [some (.ref 0), some (.int (-3))], [.int (-2), .int (-3)], 0, 0, (mSH, K, L))) rfl ?_
        refine mBF (s3 := (d + 6, 103, 19, [some (.ref 0), some (.int (-3))], [], 0, 0, (mSH, K, L))) rfl (by decide) ?_
        refine mB 2 (s2 := (d + 6, 103, 22, [some (.ref 0), some (.int (-3))], [.int (-3), .int (-3)], 0, 0, (mSH, K, L))) rfl ?_
        refine mBT (s2 := (d + 6, 103, 25, [some (.ref 0), some (.int (-3))], [], 0, 0, (mSH, K, L))) rfl (by decide) ?_
        refine mB 8 (s2 := (d + 6, 103, 49, [some (.ref 0), some (.int (-3))], [.int (-3)], 0, 0, (mSH, (mUp K 0 10 ((K 0 10) + 1)), L))) rfl ?_
        refine mRt (r := (some (.int (-3)))) (h := (mSH, (mUp K 0 10 ((K 0 10) + 1)), L)) rfl (mRet_int rfl) ?_
        show mWP mTb_ mFT ro (d + 7, 94, 32, [some (.ref 0), some (.int v0)], [.int (-3)], 0, 0, (mSH, (mUp K 0 10 ((K 0 10) + 1)), L)) _
        refine mRt (r := (some (.int (-3)))) (h := (mSH, (mUp K 0 10 ((K 0 10) + 1)), L)) rfl (mRet_int rfl) ?_
        exact hq _ _ (mFr.up (by rfl) (mFr.sub (by decide) fK)) (mIC.u0 (hI.sx fK rK cK)) ((if_neg hn).symm.trans (if_pos (c := an_k20 v0) (by have a0 := of_decide_eq_false c0; have a1 := of_decide_eq_true c1; simp only [Int32.lt_iff_toInt_lt, Int32.le_iff_toInt_le, mLi0, mLi1584] at a0 a1 <;> omega)).symm) (cF_n (if_neg (fun z => hn z.2.1)) (fK 25 rfl))
      · intro hy K fK rK cK mK
        show mWP mTb_ mFT ro (d + 7, 94, 23, [some (.ref 0), some (.int v0)], [.int 1], 0, 0, (mSH, K, L)) _
        refine mBF (s3 := (d + 7, 94, 33, [some (.ref 0), some (.int v0)], [], 0, 0, (mSH, K, L))) rfl (by decide) ?_
        refine mB 3 (s2 := (d + 7, 94, 38, [some (.ref 0), some (.int v0)], [.ref 22, .int v0], 0, 0, (mSH, K, L))) rfl ?_
        refine mCall (s2 := (d + 6, 18, 0, [some (.ref 22)], [], 0, 0, (mSH, K, L))) rfl ?_
        refine x_top (e := (an_E T B kd g pe 0)) hO.1 ((hC.fr fK (by decide)).1) mK (an_v hO hy).1 ?_
        show mWP mTb_ mFT ro (d + 7, 94, 41, [some (.ref 0), some (.int v0)], [.int (nI (an_A T (an_E T B kd g pe 0) 0)), .int v0], 0, 0, (mSH, K, L)) _
        refine mBr (s2 := (d + 7, 94, 55, [some (.ref 0), some (.int v0)], [], 0, 0, (mSH, K, L))) (s3 := (d + 7, 94, 44, [some (.ref 0), some (.int v0)], [], 0, 0, (mSH, K, L))) rfl (fun c2 => ?_) (fun c2 => ?_)
        · refine mB 1 (s2 := (d + 7, 94, 56, [some (.ref 0), some (.int v0)], [.int (-1)], 0, 0, (mSH, K, L))) rfl ?_
          refine mRt (r := (some (.int (-1)))) (h := (mSH, K, L)) rfl (mRet_int rfl) ?_
          exact hq _ _ (mFr.sub (by decide) fK) (hI.sx fK rK cK) (((if_neg (c := an_r20 T B kd g pe v0) (by have a0 := of_decide_eq_true c2; have e8 := nI_toInt (n := an_A T (an_E T B kd g pe 0) 0) (by have := (an_Ab hO.1 (an_v hO hy).1 (Nat.zero_le _)).2; omega); have e9 := nI_toInt (n := an_A T (an_E T B kd g pe 0) T.1.2.1) (by have := (an_Ab hO.1 (an_v hO hy).1 (Nat.le_refl _)).2; omega); simp only [Int32.lt_iff_toInt_lt, Int32.le_iff_toInt_le, e8, e9] at a0 <;> omega)).symm.trans (if_pos hy).symm).trans (if_pos (c := an_k20 v0) (by have a0 := of_decide_eq_false c0; have a1 := of_decide_eq_true c1; simp only [Int32.lt_iff_toInt_lt, Int32.le_iff_toInt_le, mLi0, mLi1584] at a0 a1 <;> omega)).symm) (cF_n (if_neg (fun z => absurd z.2.2 (by have a0 := of_decide_eq_true c2; have e8 := nI_toInt (n := an_A T (an_E T B kd g pe 0) 0) (by have := (an_Ab hO.1 (an_v hO hy).1 (Nat.zero_le _)).2; omega); have e9 := nI_toInt (n := an_A T (an_E T B kd g pe 0) T.1.2.1) (by have := (an_Ab hO.1 (an_v hO hy).1 (Nat.le_refl _)).2; omega); simp only [Int32.lt_iff_toInt_lt, Int32.le_iff_toInt_le, e8, e9] at a0 <;> omega))) (fK 25 rfl))
        · refine mB 3 (s2 := (d + 7, 94, 49, [some (.ref 0), some (.int v0)], [.ref 22, .int v0], 0, 0, (mSH, K, L))) rfl ?_
          refine mCall (s2 := (d + 6, 19, 0, [some (.ref 22)], [], 0, 0, (mSH, K, L))) rfl ?_
          refine x_bot (e := (an_E T B kd g pe 0)) hO.1 ((hC.fr fK (by decide)).1) mK (an_v hO hy).1 ?_
          show mWP mTb_ mFT ro (d + 7, 94, 52, [some (.ref 0), some (.int v0)], [.int (nI (an_A T (an_E T B kd g pe 0) T.1.2.1)), .int v0], 0, 0, (mSH, K, L)) _
          refine mBr (s2 := (d + 7, 94, 57, [some (.ref 0), some (.int v0)], [], 0, 0, (mSH, K, L))) (s3 := (d + 7, 94, 55, [some (.ref 0), some (.int v0)], [], 0, 0, (mSH, K, L))) rfl (fun c3 => ?_) (fun c3 => ?_)
          · refine mB 5 (s2 := (d + 7, 94, 66, [some (.ref 0), some (.int v0)], [.ref 25, .int v0, .ref 22], 0, 0, (mSH, K, L))) rfl ?_
            refine mCall (s2 := (d + 6, 24, 0, [some (.ref 22), some (.int v0), some (.ref 25), none, none, none], [], 0, 0, (mSH, K, L))) rfl ?_
            have n0 := (an_v hO hy).2; have k20 : an_k20 v0 := (by have a0 := of_decide_eq_false c0; have a1 := of_decide_eq_true c1; simp only [Int32.lt_iff_toInt_lt, Int32.le_iff_toInt_le, mLi0, mLi1584] at a0 a1 <;> omega); have r20 : an_r20 T B kd g pe v0 := (by have a0 := of_decide_eq_false c2; have a1 := of_decide_eq_true c3; have e8 := nI_toInt (n := an_A T (an_E T B kd g pe 0) 0) (by have := (an_Ab hO.1 (an_v hO hy).1 (Nat.zero_le _)).2; omega); have e9 := nI_toInt (n := an_A T (an_E T B kd g pe 0) T.1.2.1) (by have := (an_Ab hO.1 (an_v hO hy).1 (Nat.le_refl _)).2; omega); simp only [Int32.lt_iff_toInt_lt, Int32.le_iff_toInt_le, e8, e9] at a0 a1 <;> omega); obtain ⟨jj, ejj⟩ : ∃ jj, an_jy T (an_E T B kd g pe 0) v0.toInt.toNat = jj := ⟨_, rfl⟩; have jp := an_jy_p (T := T) (e := (an_E T B kd g pe 0)) (x := v0.toInt.toNat) n0 (by have := r20.1; omega); rw [ejj] at jp; refine x_tdep (e := (an_E T B kd g pe 0)) hO.1 ((hC.fr fK (by decide)).1) mK (an_v hO hy).1 n0 (pm_n k20.1) (by have := k20.2; omega) ejj jp.1 jp.2 ?_
            show mWP mTb_ mFT ro (d + 7, 94, 69, [some (.ref 0), some (.int v0)], [], 0, 0, (mSH, (mUp (mUp K 25 0 (nI (fr_a (an_de T (an_E T B kd g pe 0) v0.toInt.toNat jj).1 (an_de T (an_E T B kd g pe 0) v0.toInt.toNat jj).2))) 25 1 (nI (fr_b (an_de T (an_E T B kd g pe 0) v0.toInt.toNat jj).1 (an_de T (an_E T B kd g pe 0) v0.toInt.toNat jj).2))), L)) _
            refine mB 1 (s2 := (d + 7, 94, 70, [some (.ref 0), some (.int v0)], [.int 1], 0, 0, (mSH, (mUp (mUp K 25 0 (nI (fr_a (an_de T (an_E T B kd g pe 0) v0.toInt.toNat jj).1 (an_de T (an_E T B kd g pe 0) v0.toInt.toNat jj).2))) 25 1 (nI (fr_b (an_de T (an_E T B kd g pe 0) v0.toInt.toNat jj).1 (an_de T (an_E T B kd g pe 0) v0.toInt.toNat jj).2))), L))) rfl ?_
            refine mRt (r := (some (.int 1))) (h := (mSH, (mUp (mUp K 25 0 (nI (fr_a (an_de T (an_E T B kd g pe 0) v0.toInt.toNat jj).1 (an_de T (an_E T B kd g pe 0) v0.toInt.toNat jj).2))) 25 1 (nI (fr_b (an_de T (an_E T B kd g pe 0) v0.toInt.toNat jj).1 (an_de T (an_E T B kd g pe 0) v0.toInt.toNat jj).2))), L)) rfl (mRet_int rfl) ?_
            exact hq _ _ (mFr.up (by rfl) (mFr.up (by rfl) (mFr.sub (by decide) fK))) (mIC.u25 (mIC.u25 (hI.sx fK rK cK))) (((if_pos (c := an_r20 T B kd g pe v0) r20).symm.trans (if_pos hy).symm).trans (if_pos (c := an_k20 v0) (by have a0 := of_decide_eq_false c0; have a1 := of_decide_eq_true c1; simp only [Int32.lt_iff_toInt_lt, Int32.le_iff_toInt_le, mLi0, mLi1584] at a0 a1 <;> omega)).symm) (cF_y (a := (an_de T (an_E T B kd g pe 0) v0.toInt.toNat jj).1) (b := (an_de T (an_E T B kd g pe 0) v0.toInt.toNat jj).2) (by unfold an_depthF; rw [if_pos ⟨k20, hy, r20⟩, ejj]) rfl rfl)
          · refine mB 1 (s2 := (d + 7, 94, 56, [some (.ref 0), some (.int v0)], [.int (-1)], 0, 0, (mSH, K, L))) rfl ?_
            refine mRt (r := (some (.int (-1)))) (h := (mSH, K, L)) rfl (mRet_int rfl) ?_
            exact hq _ _ (mFr.sub (by decide) fK) (hI.sx fK rK cK) (((if_neg (c := an_r20 T B kd g pe v0) (by have a0 := of_decide_eq_false c2; have a1 := of_decide_eq_false c3; have e8 := nI_toInt (n := an_A T (an_E T B kd g pe 0) 0) (by have := (an_Ab hO.1 (an_v hO hy).1 (Nat.zero_le _)).2; omega); have e9 := nI_toInt (n := an_A T (an_E T B kd g pe 0) T.1.2.1) (by have := (an_Ab hO.1 (an_v hO hy).1 (Nat.le_refl _)).2; omega); simp only [Int32.lt_iff_toInt_lt, Int32.le_iff_toInt_le, e8, e9] at a0 a1 <;> omega)).symm.trans (if_pos hy).symm).trans (if_pos (c := an_k20 v0) (by have a0 := of_decide_eq_false c0; have a1 := of_decide_eq_true c1; simp only [Int32.lt_iff_toInt_lt, Int32.le_iff_toInt_le, mLi0, mLi1584] at a0 a1 <;> omega)).symm) (cF_n (if_neg (fun z => absurd z.2.2 (by have a0 := of_decide_eq_false c2; have a1 := of_decide_eq_false c3; have e8 := nI_toInt (n := an_A T (an_E T B kd g pe 0) 0) (by have := (an_Ab hO.1 (an_v hO hy).1 (Nat.zero_le _)).2; omega); have e9 := nI_toInt (n := an_A T (an_E T B kd g pe 0) T.1.2.1) (by have := (an_Ab hO.1 (an_v hO hy).1 (Nat.le_refl _)).2; omega); simp only [Int32.lt_iff_toInt_lt, Int32.le_iff_toInt_le, e8, e9] at a0 a1 <;> omega))) (fK 25 rfl))
    · refine mB 2 (s2 := (d + 7, 94, 14, [some (.ref 0), some (.int v0)], [.int (-2), .ref 0], 0, 0, (mSH, I, L))) rfl ?_
      refine mCall (s2 := (d + 6, 103, 0, [some (.ref 0), some (.int (-2))], [], 0, 0, (mSH, I, L))) rfl ?_
      refine mB 2 (s2 := (d + 6, 103, 3, [some (.ref 0), some (.int (-2))], [.int (-2), .int (-2)], 0, 0, (mSH, I, L))) rfl ?_
      refine mBT (s2 := (d + 6, 103, 6, [some (.ref 0), some (.int (-2))], [], 0, 0, (mSH, I, L))) rfl (by decide) ?_
      refine mB 8 (s2 := (d + 6, 103, 49, [some (.ref 0), some (.int (-2))], [.int (-2)], 0, 0, (mSH, (mUp I 0 9 ((I 0 9) + 1)), L))) rfl ?_
      refine mRt (r := (some (.int (-2)))) (h := (mSH, (mUp I 0 9 ((I 0 9) + 1)), L)) rfl (mRet_int rfl) ?_
      show mWP mTb_ mFT ro (d + 7, 94, 17, [some (.ref 0), some (.int v0)], [.int (-2)], 0, 0, (mSH, (mUp I 0 9 ((I 0 9) + 1)), L)) _
      refine mRt (r := (some (.int (-2)))) (h := (mSH, (mUp I 0 9 ((I 0 9) + 1)), L)) rfl (mRet_int rfl) ?_
      exact hq _ _ (mFr.up (by rfl) mFr.rf) (mIC.u0 hI) (if_neg (c := an_k20 v0) (by have a0 := of_decide_eq_false c0; have a1 := of_decide_eq_false c1; simp only [Int32.lt_iff_toInt_lt, Int32.le_iff_toInt_le, mLi0, mLi1584] at a0 a1 <;> omega)).symm (cF_n (if_neg (fun z => absurd z.1 (by have a0 := of_decide_eq_false c0; have a1 := of_decide_eq_false c1; simp only [Int32.lt_iff_toInt_lt, Int32.le_iff_toInt_le, mLi0, mLi1584] at a0 a1 <;> omega))) rfl)
theorem v_depth {ro : Nat → Nat × (Nat → Int32)} {Q : mPo} {d : Nat} {I : Nat → Nat → Int32} {L : Nat → Nat → Int64} {T : ct_S} {B : ct_B} {kd g pe : Nat} {v0 : Int32} (hI : mIC I) (hO : pm_O T B kd g pe) (hC : pm_C T B kd g pe I) (hq : ∀ r I1, mFr mSQ I I1 → mIC I1 → r = an_depth T B kd g pe v0 → Q (some (.int r)) (mSH, I1, L)) : mWP mTb_ mFT ro (d + 7, 94, 0, [some (.ref 0), some (.int v0)], [], 0, 0, (mSH, I, L)) Q := v_depthF hI hO hC (fun r I1 a b c _ => hq r I1 a b c)
theorem v_rateF {ro : Nat → Nat × (Nat → Int32)} {Q : mPo} {d : Nat} {I : Nat → Nat → Int32} {L : Nat → Nat → Int64} {T : ct_S} {B : ct_B} {kd g pe : Nat} {v0 : Int32} (hI : mIC I) (hO : pm_O T B kd g pe) (hC : pm_C T B kd g pe I) (hq : ∀ r I1, mFr mSQ I I1 → mIC I1 → r = an_rate T B kd g pe v0 → cF (an_rateF T B kd g pe v0) I I1 → Q (some (.int r)) (mSH, I1, L))   : mWP mTb_ mFT ro (d + 7, 95, 0, [some (.ref 0), some (.int v0)], [], 0, 0, (mSH, I, L)) Q := by
  refine mB 4 (s2 := (d + 7, 95, 8, [some (.ref 0), some (.int v0)], [.int v0, .ref 4], 0, 0, (mSH, I, L))) rfl ?_
  refine mCall (s2 := (d + 6, 41, 0, [some (.ref 4), some (.int v0)], [], 0, 0, (mSH, I, L))) rfl ?_
  refine mB 1 (s2 := (d + 6, 41, 1, [some (.ref 4), some (.int v0)], [.int v0], 0, 0, (mSH, I, L))) rfl ?_
  refine mBr (s2 := (d + 6, 41, 16, [some (.ref 4), some (.int v0)], [], 0, 0, (mSH, I, L))) (s3 := (d + 6, 41, 4, [some (.ref 4), some (.int v0)], [], 0, 0, (mSH, I, L))) rfl (fun c0 => ?_) (fun c0 => ?_)
  · refine mB 1 (s2 := (d + 6, 41, 17, [some (.ref 4), some (.int v0)], [.int 0], 0, 0, (mSH, I, L))) rfl ?_
    refine mRt (r := (some (.int 0))) (h := (mSH, I, L)) rfl rfl ?_
    show mWP mTb_ mFT ro (d + 7, 95, 11, [some (.ref 0), some (.int v0)], [.int 0], 0, 0, (mSH, I, L)) _
    refine mBT (s2 := (d + 7, 95, 14, [some (.ref 0), some (.int v0)], [], 0, 0, (mSH, I, L))) rfl (by decide) ?_
    refine mB 2 (s2 := (d + 7, 95, 17, [some (.ref 0), some (.int v0)], [.int (-2), .ref 0], 0, 0, (mSH, I, L))) rfl ?_
    refine mCall (s2 := (d + 6, 103, 0, [some (.ref 0), some (.int (-2))], [], 0, 0, (mSH, I, L))) rfl ?_
    refine mB 2 (s2 := (d + 6, 103, 3, [some (.ref 0), some (.int (-2))], [.int (-2), .int (-2)], 0, 0, (mSH, I, L))) rfl ?_
    refine mBT (s2 := (d + 6, 103, 6, [some (.ref 0), some (.int (-2))], [], 0, 0, (mSH, I, L))) rfl (by decide) ?_
    refine mB 8 (s2 := (d + 6, 103, 49, [some (.ref 0), some (.int (-2))], [.int (-2)], 0, 0, (mSH, (mUp I 0 9 ((I 0 9) + 1)), L))) rfl ?_
    refine mRt (r := (some (.int (-2)))) (h := (mSH, (mUp I 0 9 ((I 0 9) + 1)), L)) rfl (mRet_int rfl) ?_
    show mWP mTb_ mFT ro (d + 7, 95, 20, [some (.ref 0), some (.int v0)], [.int (-2)], 0, 0, (mSH, (mUp I 0 9 ((I 0 9) + 1)), L)) _
    refine mRt (r := (some (.int (-2)))) (h := (mSH, (mUp I 0 9 ((I 0 9) + 1)), L)) rfl (mRet_int rfl) ?_
    exact hq _ _ (mFr.up (by rfl) mFr.rf) (mIC.u0 hI) (if_neg (c := an_k21 T v0) (by have e1 := pm_ti hC.1.1 (by have := hO.1.1; omega); have e2 := pm_ti hC.1.2.1 (by have := hO.1.2.1; omega); have a0 := of_decide_eq_true c0; simp only [Int32.lt_iff_toInt_lt, Int32.le_iff_toInt_le, ← Int32.toInt_inj, mLi0, mLi1, mLi2, mLi3, mLi4, mLi5, mLi6, mLi7, mLi8, mLi9, mLi10, mLi16, mLi32, mLi48, mLi57, mLi59, mLi65, mLi90, mLi97, mLi99, mLi120, mLi122, mLi127, mLi1584, mLi999999, mLim] at a0 <;> omega)).symm (cF_n (if_neg (fun z => absurd z.1 (by have e1 := pm_ti hC.1.1 (by have := hO.1.1; omega); have e2 := pm_ti hC.1.2.1 (by have := hO.1.2.1; omega); have a0 := of_decide_eq_true c0; simp only [Int32.lt_iff_toInt_lt, Int32.le_iff_toInt_le, ← Int32.toInt_inj, mLi0, mLi1, mLi2, mLi3, mLi4, mLi5, mLi6, mLi7, mLi8, mLi9, mLi10, mLi16, mLi32, mLi48, mLi57, mLi59, mLi65, mLi90, mLi97, mLi99, mLi120, mLi122, mLi127, mLi1584, mLi999999, mLim] at a0 <;> omega))) rfl)
  · refine mB 3 (s2 := (d + 6, 41, 9, [some (.ref 4), some (.int v0)], [.int (I 4 1), .int v0], 0, 0, (mSH, I, L))) rfl ?_
    refine mBr (s2 := (d + 6, 41, 16, [some (.ref 4), some (.int v0)], [], 0, 0, (mSH, I, L))) (s3 := (d + 6, 41, 12, [some (.ref 4), some (.int v0)], [], 0, 0, (mSH, I, L))) rfl (fun c1 => ?_) (fun c1 => ?_)
    · refine mB 1 (s2 := (d + 6, 41, 17, [some (.ref 4), some (.int v0)], [.int 0], 0, 0, (mSH, I, L))) rfl ?_
      refine mRt (r := (some (.int 0))) (h := (mSH, I, L)) rfl rfl ?_
      show mWP mTb_ mFT ro (d + 7, 95, 11, [some (.ref 0), some (.int v0)], [.int 0], 0, 0, (mSH, I, L)) _
      refine mBT (s2 := (d + 7, 95, 14, [some (.ref 0), some (.int v0)], [], 0, 0, (mSH, I, L))) rfl (by decide) ?_
      refine mB 2 (s2 := (d + 7, 95, 17, [some (.ref 0), some (.int v0)], [.int (-2), .ref 0], 0, 0, (mSH, I, L))) rfl ?_
      refine mCall (s2 := (d + 6, 103, 0, [some (.ref 0), some (.int (-2))], [], 0, 0, (mSH, I, L))) rfl ?_
      refine mB 2 (s2 := (d + 6, 103, 3, [some (.ref 0), some (.int (-2))], [.int (-2), .int (-2)], 0, 0, (mSH, I, L))) rfl ?_
      refine mBT (s2 := (d + 6, 103, 6, [some (.ref 0), some (.int (-2))], [], 0, 0, (mSH, I, L))) rfl (by decide) ?_
      refine mB 8 (s2 := (d + 6, 103, 49, [some (.ref 0), some (.int (-2))], [.int (-2)], 0, 0, (mSH, (mUp I 0 9 ((I 0 9) + 1)), L))) rfl ?_
      refine mRt (r := (some (.int (-2)))) (h := (mSH, (mUp I 0 9 ((I 0 9) + 1)), L)) rfl (mRet_int rfl) ?_
      show mWP mTb_ mFT ro (d + 7, 95, 20, [some (.ref 0), some (.int v0)], [.int (-2)], 0, 0, (mSH, (mUp I 0 9 ((I 0 9) + 1)), L)) _
      refine mRt (r := (some (.int (-2)))) (h := (mSH, (mUp I 0 9 ((I 0 9) + 1)), L)) rfl (mRet_int rfl) ?_
      exact hq _ _ (mFr.up (by rfl) mFr.rf) (mIC.u0 hI) (if_neg (c := an_k21 T v0) (by have e1 := pm_ti hC.1.1 (by have := hO.1.1; omega); have e2 := pm_ti hC.1.2.1 (by have := hO.1.2.1; omega); have a0 := of_decide_eq_false c0; have a1 := of_decide_eq_true c1; simp only [Int32.lt_iff_toInt_lt, Int32.le_iff_toInt_le, ← Int32.toInt_inj, mLi0, mLi1, mLi2, mLi3, mLi4, mLi5, mLi6, mLi7, mLi8, mLi9, mLi10, mLi16, mLi32, mLi48, mLi57, mLi59, mLi65, mLi90, mLi97, mLi99, mLi120, mLi122, mLi127, mLi1584, mLi999999, mLim] at a0 a1 <;> omega)).symm (cF_n (if_neg (fun z => absurd z.1 (by have e1 := pm_ti hC.1.1 (by have := hO.1.1; omega); have e2 := pm_ti hC.1.2.1 (by have := hO.1.2.1; omega); have a0 := of_decide_eq_false c0; have a1 := of_decide_eq_true c1; simp only [Int32.lt_iff_toInt_lt, Int32.le_iff_toInt_le, ← Int32.toInt_inj, mLi0, mLi1, mLi2, mLi3, mLi4, mLi5, mLi6, mLi7, mLi8, mLi9, mLi10, mLi16, mLi32, mLi48, mLi57, mLi59, mLi65, mLi90, mLi97, mLi99, mLi120, mLi122, mLi127, mLi1584, mLi999999, mLim] at a0 a1 <;> omega))) rfl)
    · refine mB 2 (s2 := (d + 6, 41, 17, [some (.ref 4), some (.int v0)], [.int 1], 0, 0, (mSH, I, L))) rfl ?_
      refine mRt (r := (some (.int 1))) (h := (mSH, I, L)) rfl rfl ?_
      show mWP mTb_ mFT ro (d + 7, 95, 11, [some (.ref 0), some (.int v0)], [.int 1], 0, 0, (mSH, I, L)) _
      refine mBF (s3 := (d + 7, 95, 21, [some (.ref 0), some (.int v0)], [], 0, 0, (mSH, I, L))) rfl (by decide) ?_
      refine mB 2 (s2 := (d + 7, 95, 23, [some (.ref 0), some (.int v0)], [.int 0, .ref 0], 0, 0, (mSH, I, L))) rfl ?_
      refine mCall (s2 := (d + 6, 106, 0, [some (.ref 0), some (.int 0)], [], 0, 0, (mSH, I, L))) rfl ?_
      refine x_finds hI hO hC (Or.inl rfl) ?_ ?_
      · intro hn K fK rK cK
        show mWP mTb_ mFT ro (d + 7, 95, 26, [some (.ref 0), some (.int v0)], [.int 0], 0, 0, (mSH, K, L)) _
        refine mBT (s2 := (d + 7, 95, 29, [some (.ref 0), some (.int v0)], [], 0, 0, (mSH, K, L))) rfl (by decide) ?_
        refine mB 2 (s2 := (d + 7, 95, 32, [some (.ref 0), some (.int v0)], [.int (-3), .ref 0], 0, 0, (mSH, K, L))) rfl ?_
        refine mCall (s2 := (d + 6, 103, 0, [some (.ref 0), some (.int (-3))], [], 0, 0, (mSH, K, L))) rfl ?_
        refine mB 2 (s2 := (d + 6, 103, 3, [some (.ref 0), some (.int (-3))], [.int (-2), .int (-3)], 0, 0, (mSH, K, L))) rfl ?_
        refine mBF (s3 := (d + 6, 103, 19, [some (.ref 0), some (.int (-3))], [], 0, 0, (mSH, K, L))) rfl (by decide) ?_
        refine mB 2 (s2 := (d + 6, 103, 22, [some (.ref 0), some (.int (-3))], [.int (-3), .int (-3)], 0, 0, (mSH, K, L))) rfl ?_
        refine mBT (s2 := (d + 6, 103, 25, [some (.ref 0), some (.int (-3))], [], 0, 0, (mSH, K, L))) rfl (by decide) ?_
        refine mB 8 (s2 := (d + 6, 103, 49, [some (.ref 0), some (.int (-3))], [.int (-3)], 0, 0, (mSH, (mUp K 0 10 ((K 0 10) + 1)), L))) rfl ?_
        refine mRt (r := (some (.int (-3)))) (h := (mSH, (mUp K 0 10 ((K 0 10) + 1)), L)) rfl (mRet_int rfl) ?_
        show mWP mTb_ mFT ro (d + 7, 95, 35, [some (.ref 0), some (.int v0)], [.int (-3)], 0, 0, (mSH, (mUp K 0 10 ((K 0 10) + 1)), L)) _
        refine mRt (r := (some (.int (-3)))) (h := (mSH, (mUp K 0 10 ((K 0 10) + 1)), L)) rfl (mRet_int rfl) ?_
        exact hq _ _ (mFr.up (by rfl) (mFr.sub (by decide) fK)) (mIC.u0 (hI.sx fK rK cK)) ((if_neg hn).symm.trans (if_pos (c := an_k21 T v0) (by have e1 := pm_ti hC.1.1 (by have := hO.1.1; omega); have e2 := pm_ti hC.1.2.1 (by have := hO.1.2.1; omega); have a0 := of_decide_eq_false c0; have a1 := of_decide_eq_false c1; simp only [Int32.lt_iff_toInt_lt, Int32.le_iff_toInt_le, ← Int32.toInt_inj, mLi0, mLi1, mLi2, mLi3, mLi4, mLi5, mLi6, mLi7, mLi8, mLi9, mLi10, mLi16, mLi32, mLi48, mLi57, mLi59, mLi65, mLi90, mLi97, mLi99, mLi120, mLi122, mLi127, mLi1584, mLi999999, mLim] at a0 a1 <;> omega)).symm) (cF_n (if_neg (fun z => hn z.2)) (fK 25 rfl))
      · intro hy K fK rK cK mK
        show mWP mTb_ mFT ro (d + 7, 95, 26, [some (.ref 0), some (.int v0)], [.int 1], 0, 0, (mSH, K, L)) _
        refine mBF (s3 := (d + 7, 95, 36, [some (.ref 0), some (.int v0)], [], 0, 0, (mSH, K, L))) rfl (by decide) ?_
        refine mB 6 (s2 := (d + 7, 95, 48, [some (.ref 0), some (.int v0)], [.int v0, .ref 4, .ref 25], 0, 0, (mSH, K, L))) rfl ?_
        refine mCall (s2 := (d + 6, 42, 0, [some (.ref 4), some (.int v0)], [], 0, 0, (mSH, K, L))) rfl ?_
        have k21 : an_k21 T v0 := (by have e1 := pm_ti hC.1.1 (by have := hO.1.1; omega); have e2 := pm_ti hC.1.2.1 (by have := hO.1.2.1; omega); have a0 := of_decide_eq_false c0; have a1 := of_decide_eq_false c1; simp only [Int32.lt_iff_toInt_lt, Int32.le_iff_toInt_le, ← Int32.toInt_inj, mLi0, mLi1, mLi2, mLi3, mLi4, mLi5, mLi6, mLi7, mLi8, mLi9, mLi10, mLi16, mLi32, mLi48, mLi57, mLi59, mLi65, mLi90, mLi97, mLi99, mLi120, mLi122, mLi127, mLi1584, mLi999999, mLim] at a0 a1 <;> omega); have hj : v0.toInt.toNat < T.1.2.1 := (by have := k21.1; have := k21.2; omega); refine x_at4 (pm_n k21.1) hO.1 ((hC.fr fK (by decide)).1) hj ?_
        show mWP mTb_ mFT ro (d + 7, 95, 51, [some (.ref 0), some (.int v0)], [.int (nI (T.2.2 v0.toInt.toNat)), .ref 25], 0, 0, (mSH, K, L)) _
        refine mB 3 (s2 := (d + 7, 95, 56, [some (.ref 0), some (.int v0)], [.int v0, .ref 22, .int (nI (T.2.2 v0.toInt.toNat)), .ref 25], 0, 0, (mSH, K, L))) rfl ?_
        refine mCall (s2 := (d + 6, 17, 0, [some (.ref 22), some (.int v0)], [], 0, 0, (mSH, K, L))) rfl ?_
        refine x_yof (e := (an_E T B kd g pe 0)) hO.1 ((hC.fr fK (by decide)).1) mK (an_v hO hy).1 (pm_n k21.1) hj ?_
        show mWP mTb_ mFT ro (d + 7, 95, 59, [some (.ref 0), some (.int v0)], [.int (nI (an_Y T (an_E T B kd g pe 0) v0.toInt.toNat)), .int (nI (T.2.2 v0.toInt.toNat)), .ref 25], 0, 0, (mSH, K, L)) _
        refine mCall (s2 := (d + 6, 5, 0, [some (.ref 25), some (.int (nI (T.2.2 v0.toInt.toNat))), some (.int (nI (an_Y T (an_E T B kd g pe 0) v0.toInt.toNat))), none], [], 0, 0, (mSH, K, L))) rfl ?_
        have lb := hO.1.2.2.2.2 _ hj; have yb := (an_Yb hO.1 (an_v hO hy).1 hj).2; refine x_frac (a := T.2.2 v0.toInt.toNat) (b := an_Y T (an_E T B kd g pe 0) v0.toInt.toNat) rfl rfl (by omega) yb.1 (by omega) ?_
        show mWP mTb_ mFT ro (d + 7, 95, 62, [some (.ref 0), some (.int v0)], [], 0, 0, (mSH, (mUp (mUp K 25 0 (nI (fr_a ((T.2.2 v0.toInt.toNat, an_Y T (an_E T B kd g pe 0) v0.toInt.toNat)).1 ((T.2.2 v0.toInt.toNat, an_Y T (an_E T B kd g pe 0) v0.toInt.toNat)).2))) 25 1 (nI (fr_b ((T.2.2 v0.toInt.toNat, an_Y T (an_E T B kd g pe 0) v0.toInt.toNat)).1 ((T.2.2 v0.toInt.toNat, an_Y T (an_E T B kd g pe 0) v0.toInt.toNat)).2))), L)) _
        refine mB 1 (s2 := (d + 7, 95, 63, [some (.ref 0), some (.int v0)], [.int 1], 0, 0, (mSH, (mUp (mUp K 25 0 (nI (fr_a ((T.2.2 v0.toInt.toNat, an_Y T (an_E T B kd g pe 0) v0.toInt.toNat)).1 ((T.2.2 v0.toInt.toNat, an_Y T (an_E T B kd g pe 0) v0.toInt.toNat)).2))) 25 1 (nI (fr_b ((T.2.2 v0.toInt.toNat, an_Y T (an_E T B kd g pe 0) v0.toInt.toNat)).1 ((T.2.2 v0.toInt.toNat, an_Y T (an_E T B kd g pe 0) v0.toInt.toNat)).2))), L))) rfl ?_
        refine mRt (r := (some (.int 1))) (h := (mSH, (mUp (mUp K 25 0 (nI (fr_a ((T.2.2 v0.toInt.toNat, an_Y T (an_E T B kd g pe 0) v0.toInt.toNat)).1 ((T.2.2 v0.toInt.toNat, an_Y T (an_E T B kd g pe 0) v0.toInt.toNat)).2))) 25 1 (nI (fr_b ((T.2.2 v0.toInt.toNat, an_Y T (an_E T B kd g pe 0) v0.toInt.toNat)).1 ((T.2.2 v0.toInt.toNat, an_Y T (an_E T B kd g pe 0) v0.toInt.toNat)).2))), L)) rfl (mRet_int rfl) ?_
        exact hq _ _ (mFr.up (by rfl) (mFr.up (by rfl) (mFr.sub (by decide) fK))) (mIC.u25 (mIC.u25 (hI.sx fK rK cK))) ((if_pos hy).symm.trans (if_pos (c := an_k21 T v0) (by have e1 := pm_ti hC.1.1 (by have := hO.1.1; omega); have e2 := pm_ti hC.1.2.1 (by have := hO.1.2.1; omega); have a0 := of_decide_eq_false c0; have a1 := of_decide_eq_false c1; simp only [Int32.lt_iff_toInt_lt, Int32.le_iff_toInt_le, ← Int32.toInt_inj, mLi0, mLi1, mLi2, mLi3, mLi4, mLi5, mLi6, mLi7, mLi8, mLi9, mLi10, mLi16, mLi32, mLi48, mLi57, mLi59, mLi65, mLi90, mLi97, mLi99, mLi120, mLi122, mLi127, mLi1584, mLi999999, mLim] at a0 a1 <;> omega)).symm) (cF_y (a := ((T.2.2 v0.toInt.toNat, an_Y T (an_E T B kd g pe 0) v0.toInt.toNat)).1) (b := ((T.2.2 v0.toInt.toNat, an_Y T (an_E T B kd g pe 0) v0.toInt.toNat)).2) (by unfold an_rateF; rw [if_pos ⟨k21, hy⟩]) rfl rfl)
theorem v_rate {ro : Nat → Nat × (Nat → Int32)} {Q : mPo} {d : Nat} {I : Nat → Nat → Int32} {L : Nat → Nat → Int64} {T : ct_S} {B : ct_B} {kd g pe : Nat} {v0 : Int32} (hI : mIC I) (hO : pm_O T B kd g pe) (hC : pm_C T B kd g pe I) (hq : ∀ r I1, mFr mSQ I I1 → mIC I1 → r = an_rate T B kd g pe v0 → Q (some (.int r)) (mSH, I1, L)) : mWP mTb_ mFT ro (d + 7, 95, 0, [some (.ref 0), some (.int v0)], [], 0, 0, (mSH, I, L)) Q := v_rateF hI hO hC (fun r I1 a b c _ => hq r I1 a b c)
theorem v_fastest {ro : Nat → Nat × (Nat → Int32)} {Q : mPo} {d : Nat} {I : Nat → Nat → Int32} {L : Nat → Nat → Int64} {T : ct_S} {B : ct_B} {kd g pe : Nat} {v0 : Int32} (hI : mIC I) (hO : pm_O T B kd g pe) (hC : pm_C T B kd g pe I) (hq : ∀ r I1, mFr mSQ I I1 → mIC I1 → r = an_fastest T B kd g pe v0 → Q (some (.int r)) (mSH, I1, L))   : mWP mTb_ mFT ro (d + 7, 96, 0, [some (.ref 0), some (.int v0)], [], 0, 0, (mSH, I, L)) Q := by
  refine mB 1 (s2 := (d + 7, 96, 1, [some (.ref 0), some (.int v0)], [.int v0], 0, 0, (mSH, I, L))) rfl ?_
  refine mCall (s2 := (d + 6, 108, 0, [some (.int v0)], [], 0, 0, (mSH, I, L))) rfl ?_
  refine mB 1 (s2 := (d + 6, 108, 1, [some (.int v0)], [.int v0], 0, 0, (mSH, I, L))) rfl ?_
  refine mBr (s2 := (d + 6, 108, 9, [some (.int v0)], [], 0, 0, (mSH, I, L))) (s3 := (d + 6, 108, 4, [some (.int v0)], [], 0, 0, (mSH, I, L))) rfl (fun c0 => ?_) (fun c0 => ?_)
  · refine mB 2 (s2 := (d + 6, 108, 14, [some (.int v0)], [.int 1], 0, 0, (mSH, I, L))) rfl ?_
    refine mRt (r := (some (.int 1))) (h := (mSH, I, L)) rfl rfl ?_
    show mWP mTb_ mFT ro (d + 7, 96, 4, [some (.ref 0), some (.int v0)], [.int 1], 0, 0, (mSH, I, L)) _
    refine mBF (s3 := (d + 7, 96, 14, [some (.ref 0), some (.int v0)], [], 0, 0, (mSH, I, L))) rfl (by decide) ?_
    refine mB 2 (s2 := (d + 7, 96, 16, [some (.ref 0), some (.int v0)], [.int 0, .ref 0], 0, 0, (mSH, I, L))) rfl ?_
    refine mCall (s2 := (d + 6, 106, 0, [some (.ref 0), some (.int 0)], [], 0, 0, (mSH, I, L))) rfl ?_
    refine x_finds hI hO hC (Or.inl rfl) ?_ ?_
    · intro hn K fK rK cK
      show mWP mTb_ mFT ro (d + 7, 96, 19, [some (.ref 0), some (.int v0)], [.int 0], 0, 0, (mSH, K, L)) _
      refine mBT (s2 := (d + 7, 96, 22, [some (.ref 0), some (.int v0)], [], 0, 0, (mSH, K, L))) rfl (by decide) ?_
      refine mB 2 (s2 := (d + 7, 96, 25, [some (.ref 0), some (.int v0)], [.int (-3), .ref 0], 0, 0, (mSH, K, L))) rfl ?_
      refine mCall (s2 := (d + 6, 103, 0, [some (.ref 0), some (.int (-3))], [], 0, 0, (mSH, K, L))) rfl ?_
      refine mB 2 (s2 := (d + 6, 103, 3, [some (.ref 0), some (.int (-3))], [.int (-2), .int (-3)], 0, 0, (mSH, K, L))) rfl ?_
      refine mBF (s3 := (d + 6, 103, 19, [some (.ref 0), some (.int (-3))], [], 0, 0, (mSH, K, L))) rfl (by decide) ?_
      refine mB 2 (s2 := (d + 6, 103, 22, [some (.ref 0), some (.int (-3))], [.int (-3), .int (-3)], 0, 0, (mSH, K, L))) rfl ?_
      refine mBT (s2 := (d + 6, 103, 25, [some (.ref 0), some (.int (-3))], [], 0, 0, (mSH, K, L))) rfl (by decide) ?_
      refine mB 8 (s2 := (d + 6, 103, 49, [some (.ref 0), some (.int (-3))], [.int (-3)], 0, 0, (mSH, (mUp K 0 10 ((K 0 10) + 1)), L))) rfl ?_
      refine mRt (r := (some (.int (-3)))) (h := (mSH, (mUp K 0 10 ((K 0 10) + 1)), L)) rfl (mRet_int rfl) ?_
      show mWP mTb_ mFT ro (d + 7, 96, 28, [some (.ref 0), some (.int v0)], [.int (-3)], 0, 0, (mSH, (mUp K 0 10 ((K 0 10) + 1)), L)) _
      refine mRt (r := (some (.int (-3)))) (h := (mSH, (mUp K 0 10 ((K 0 10) + 1)), L)) rfl (mRet_int rfl) ?_
      exact hq _ _ (mFr.up (by rfl) (mFr.sub (by decide) fK)) (mIC.u0 (hI.sx fK rK cK)) ((if_neg hn).symm.trans (if_pos (c := kEi v0) (by have b0 : (v0).toInt = 0 := (by have z := of_decide_eq_true c0; rw [z]; rfl); omega)).symm)
    · intro hy K fK rK cK mK
      show mWP mTb_ mFT ro (d + 7, 96, 19, [some (.ref 0), some (.int v0)], [.int 1], 0, 0, (mSH, K, L)) _
      refine mBF (s3 := (d + 7, 96, 29, [some (.ref 0), some (.int v0)], [], 0, 0, (mSH, K, L))) rfl (by decide) ?_
      refine mB 3 (s2 := (d + 7, 96, 34, [some (.ref 0), some (.int v0)], [.int v0, .ref 22], 0, 0, (mSH, K, L))) rfl ?_
      refine mBT (s2 := (d + 7, 96, 37, [some (.ref 0), some (.int v0)], [.ref 22], 0, 0, (mSH, K, L))) rfl (by first | (simp only [of_decide_eq_true c0]; first | decide | rfl) | decide | rfl) ?_
      refine mB 2 (s2 := (d + 7, 96, 42, [some (.ref 0), some (.int v0)], [.int 1, .ref 22], 0, 0, (mSH, K, L))) rfl ?_
      refine mCall (s2 := (d + 6, 25, 0, [some (.ref 22), some (.int 1), none, none], [], 0, 0, (mSH, K, L))) rfl ?_
      refine x_ext_1 (e := (an_E T B kd g pe 0)) hO.1 ((hC.fr fK (by decide)).1) mK (an_v hO hy).1 (an_v hO hy).2 ?_
      show mWP mTb_ mFT ro (d + 7, 96, 45, [some (.ref 0), some (.int v0)], [.int (nI (an_fa T (an_E T B kd g pe 0) true T.1.2.1))], 0, 0, (mSH, K, L)) _
      refine mRt (r := (some (.int (nI (an_fa T (an_E T B kd g pe 0) true T.1.2.1))))) (h := (mSH, K, L)) rfl (mRet_int rfl) ?_
      exact hq _ _ (mFr.sub (by decide) fK) (hI.sx fK rK cK) (((congrArg (fun w => nI (an_fa T (an_E T B kd g pe 0) w T.1.2.1)) (show decide (v0.toInt = 0) = true from (decide_eq_true (by rw [of_decide_eq_true c0]; rfl))).symm).trans (if_pos hy).symm).trans (if_pos (c := kEi v0) (by have b0 : (v0).toInt = 0 := (by have z := of_decide_eq_true c0; rw [z]; rfl); omega)).symm)
  · refine mB 2 (s2 := (d + 6, 108, 6, [some (.int v0)], [.int 1, .int v0], 0, 0, (mSH, I, L))) rfl ?_
    refine mBr (s2 := (d + 6, 108, 9, [some (.int v0)], [], 0, 0, (mSH, I, L))) (s3 := (d + 6, 108, 13, [some (.int v0)], [], 0, 0, (mSH, I, L))) rfl (fun c1 => ?_) (fun c1 => ?_)
    · refine mB 2 (s2 := (d + 6, 108, 14, [some (.int v0)], [.int 1], 0, 0, (mSH, I, L))) rfl ?_
      refine mRt (r := (some (.int 1))) (h := (mSH, I, L)) rfl rfl ?_
      show mWP mTb_ mFT ro (d + 7, 96, 4, [some (.ref 0), some (.int v0)], [.int 1], 0, 0, (mSH, I, L)) _
      refine mBF (s3 := (d + 7, 96, 14, [some (.ref 0), some (.int v0)], [], 0, 0, (mSH, I, L))) rfl (by decide) ?_
      refine mB 2 (s2 := (d + 7, 96, 16, [some (.ref 0), some (.int v0)], [.int 0, .ref 0], 0, 0, (mSH, I, L))) rfl ?_
      refine mCall (s2 := (d + 6, 106, 0, [some (.ref 0), some (.int 0)], [], 0, 0, (mSH, I, L))) rfl ?_
      refine x_finds hI hO hC (Or.inl rfl) ?_ ?_
      · intro hn K fK rK cK
        show mWP mTb_ mFT ro (d + 7, 96, 19, [some (.ref 0), some (.int v0)], [.int 0], 0, 0, (mSH, K, L)) _
        refine mBT (s2 := (d + 7, 96, 22, [some (.ref 0), some (.int v0)], [], 0, 0, (mSH, K, L))) rfl (by decide) ?_
        refine mB 2 (s2 := (d + 7, 96, 25, [some (.ref 0), some (.int v0)], [.int (-3), .ref 0], 0, 0, (mSH, K, L))) rfl ?_
        refine mCall (s2 := (d + 6, 103, 0, [some (.ref 0), some (.int (-3))], [], 0, 0, (mSH, K, L))) rfl ?_
        refine mB 2 (s2 := (d + 6, 103, 3, [some (.ref 0), some (.int (-3))], [.int (-2), .int (-3)], 0, 0, (mSH, K, L))) rfl ?_
        refine mBF (s3 := (d + 6, 103, 19, [some (.ref 0), some (.int (-3))], [], 0, 0, (mSH, K, L))) rfl (by decide) ?_
        refine mB 2 (s2 := (d + 6, 103, 22, [some (.ref 0), some (.int (-3))], [.int (-3), .int (-3)], 0, 0, (mSH, K, L))) rfl ?_
        refine mBT (s2 := (d + 6, 103, 25, [some (.ref 0), some (.int (-3))], [], 0, 0, (mSH, K, L))) rfl (by decide) ?_
        refine mB 8 (s2 := (d + 6, 103, 49, [some (.ref 0), some (.int (-3))], [.int (-3)], 0, 0, (mSH, (mUp K 0 10 ((K 0 10) + 1)), L))) rfl ?_
        refine mRt (r := (some (.int (-3)))) (h := (mSH, (mUp K 0 10 ((K 0 10) + 1)), L)) rfl (mRet_int rfl) ?_
        show mWP mTb_ mFT ro (d + 7, 96, 28, [some (.ref 0), some (.int v0)], [.int (-3)], 0, 0, (mSH, (mUp K 0 10 ((K 0 10) + 1)), L)) _
        refine mRt (r := (some (.int (-3)))) (h := (mSH, (mUp K 0 10 ((K 0 10) + 1)), L)) rfl (mRet_int rfl) ?_
        exact hq _ _ (mFr.up (by rfl) (mFr.sub (by decide) fK)) (mIC.u0 (hI.sx fK rK cK)) ((if_neg hn).symm.trans (if_pos (c := kEi v0) (by have b0 : (v0).toInt = 1 := (by have z := of_decide_eq_true c1; rw [z]; rfl); have a0 := of_decide_eq_false c0; simp only [Int32.lt_iff_toInt_lt, Int32.le_iff_toInt_le, ← Int32.toInt_inj, mLi0, mLi1, mLi2, mLi3, mLi4, mLi5, mLi6, mLi7, mLi8, mLi9, mLi10, mLi16, mLi32, mLi48, mLi57, mLi59, mLi65, mLi90, mLi97, mLi99, mLi120, mLi122, mLi127, mLi1584, mLi999999, mLim] at a0 <;> omega)).symm)
      · intro hy K fK rK cK mK
        show mWP mTb_ mFT ro (d + 7, 96, 19, [some (.ref 0), some (.int v0)], [.int 1], 0, 0, (mSH, K, L)) _
        refine mBF (s3 := (d + 7, 96, 29, [some (.ref 0), some (.int v0)], [], 0, 0, (mSH, K, L))) rfl (by decide) ?_
        refine mB 3 (s2 := (d + 7, 96, 34, [some (.ref 0), some (.int v0)], [.int v0, .ref 22], 0, 0, (mSH, K, L))) rfl ?_
        refine mBF (s3 := (d + 7, 96, 41, [some (.ref 0), some (.int v0)], [.ref 22], 0, 0, (mSH, K, L))) rfl (by first | (simp only [of_decide_eq_true c1]; first | decide | rfl) | decide | rfl) ?_
        refine mB 1 (s2 := (d + 7, 96, 42, [some (.ref 0), some (.int v0)], [.int 0, .ref 22], 0, 0, (mSH, K, L))) rfl ?_
        refine mCall (s2 := (d + 6, 25, 0, [some (.ref 22), some (.int 0), none, none], [], 0, 0, (mSH, K, L))) rfl ?_
        refine x_ext_0 (e := (an_E T B kd g pe 0)) hO.1 ((hC.fr fK (by decide)).1) mK (an_v hO hy).1 (an_v hO hy).2 ?_
        show mWP mTb_ mFT ro (d + 7, 96, 45, [some (.ref 0), some (.int v0)], [.int (nI (an_fa T (an_E T B kd g pe 0) false T.1.2.1))], 0, 0, (mSH, K, L)) _
        refine mRt (r := (some (.int (nI (an_fa T (an_E T B kd g pe 0) false T.1.2.1))))) (h := (mSH, K, L)) rfl (mRet_int rfl) ?_
        exact hq _ _ (mFr.sub (by decide) fK) (hI.sx fK rK cK) (((congrArg (fun w => nI (an_fa T (an_E T B kd g pe 0) w T.1.2.1)) (show decide (v0.toInt = 0) = false from (decide_eq_false (fun y => of_decide_eq_false c0 (Int32.toInt_inj.mp y)))).symm).trans (if_pos hy).symm).trans (if_pos (c := kEi v0) (by have b0 : (v0).toInt = 1 := (by have z := of_decide_eq_true c1; rw [z]; rfl); have a0 := of_decide_eq_false c0; simp only [Int32.lt_iff_toInt_lt, Int32.le_iff_toInt_le, ← Int32.toInt_inj, mLi0, mLi1, mLi2, mLi3, mLi4, mLi5, mLi6, mLi7, mLi8, mLi9, mLi10, mLi16, mLi32, mLi48, mLi57, mLi59, mLi65, mLi90, mLi97, mLi99, mLi120, mLi122, mLi127, mLi1584, mLi999999, mLim] at a0 <;> omega)).symm)
    · refine mB 1 (s2 := (d + 6, 108, 14, [some (.int v0)], [.int 0], 0, 0, (mSH, I, L))) rfl ?_
      refine mRt (r := (some (.int 0))) (h := (mSH, I, L)) rfl rfl ?_
      show mWP mTb_ mFT ro (d + 7, 96, 4, [some (.ref 0), some (.int v0)], [.int 0], 0, 0, (mSH, I, L)) _
      refine mBT (s2 := (d + 7, 96, 7, [some (.ref 0), some (.int v0)], [], 0, 0, (mSH, I, L))) rfl (by decide) ?_
      refine mB 2 (s2 := (d + 7, 96, 10, [some (.ref 0), some (.int v0)], [.int (-2), .ref 0], 0, 0, (mSH, I, L))) rfl ?_
      refine mCall (s2 := (d + 6, 103, 0, [some (.ref 0), some (.int (-2))], [], 0, 0, (mSH, I, L))) rfl ?_
      refine mB 2 (s2 := (d + 6, 103, 3, [some (.ref 0), some (.int (-2))], [.int (-2), .int (-2)], 0, 0, (mSH, I, L))) rfl ?_
      refine mBT (s2 := (d + 6, 103, 6, [some (.ref 0), some (.int (-2))], [], 0, 0, (mSH, I, L))) rfl (by decide) ?_
      refine mB 8 (s2 := (d + 6, 103, 49, [some (.ref 0), some (.int (-2))], [.int (-2)], 0, 0, (mSH, (mUp I 0 9 ((I 0 9) + 1)), L))) rfl ?_
      refine mRt (r := (some (.int (-2)))) (h := (mSH, (mUp I 0 9 ((I 0 9) + 1)), L)) rfl (mRet_int rfl) ?_
      show mWP mTb_ mFT ro (d + 7, 96, 13, [some (.ref 0), some (.int v0)], [.int (-2)], 0, 0, (mSH, (mUp I 0 9 ((I 0 9) + 1)), L)) _
      refine mRt (r := (some (.int (-2)))) (h := (mSH, (mUp I 0 9 ((I 0 9) + 1)), L)) rfl (mRet_int rfl) ?_
      exact hq _ _ (mFr.up (by rfl) mFr.rf) (mIC.u0 hI) (if_neg (c := kEi v0) (by have e1 := pm_ti hC.1.1 (by have := hO.1.1; omega); have e2 := pm_ti hC.1.2.1 (by have := hO.1.2.1; omega); have a0 := of_decide_eq_false c0; have a1 := of_decide_eq_false c1; simp only [Int32.lt_iff_toInt_lt, Int32.le_iff_toInt_le, ← Int32.toInt_inj, mLi0, mLi1, mLi2, mLi3, mLi4, mLi5, mLi6, mLi7, mLi8, mLi9, mLi10, mLi16, mLi32, mLi48, mLi57, mLi59, mLi65, mLi90, mLi97, mLi99, mLi120, mLi122, mLi127, mLi1584, mLi999999, mLim] at a0 a1 <;> omega)).symm
