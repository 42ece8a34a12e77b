/-! A cell of the search, exactly. Written by a program (wip/mk_c.py). -/
/-- the misfit, where there is a layer and a block -/
def ct_cc (T : ct_S) (B : ct_B) (kd g pe j i p : Nat) : Option Nat := if j < T.1.2.1 ∧ p ≤ 2 then ct_c T B kd g pe j i p else none
abbrev bt_V : Nat := 19847025
/-- a way of a cell: its step, and the rank behind it -/
def bs_L (nx : Nat → bt_T) (stp : Nat → Nat) (st rk : Int32) (e : List Nat) : Prop := ∃ a ps, e = a :: ps ∧ st = nI (stp a) ∧ ((rk = 0 ∧ (nx a).1.1 < bt_U ∧ ps = (nx a).1.2) ∨ (rk = 1 ∧ (nx a).2.1.1 < bt_U ∧ ps = (nx a).2.1.2))
def bs_nx (c : Nat → Nat → Nat → Option Nat) (r j i a : Nat) : bt_T := bt_top (bt_al c r (j + 1) (i + (2 * a + 1)))
def bs_st (a : Nat) : Nat := 2 * a + 1
def bs_id (a : Nat) : Nat := a
section FC
variable {T : ct_S} {B : ct_B} {kd g pe j i p r k x : Nat} {I J : Nat → Nat → Int32} {c : Nat → Nat → Nat → Option Nat} {V v : Nat} {t u : bt_T} {P : Int32 → Int32 → List Nat → Prop}
theorem ct_cce (hj : j < T.1.2.1) (hp : p ≤ 2) : ct_cc T B kd g pe j i p = ct_c T B kd g pe j i p := if_pos ⟨hj, hp⟩
theorem ct_ccb (hT : ct_So T) (hg : ct_Jo g pe) : ∀ j i p v, ct_cc T B kd g pe j i p = some v → v ≤ bt_V := fun j i p v h => by
  unfold ct_cc at h
  by_cases k : j < T.1.2.1 ∧ p ≤ 2
  · rw [if_pos k] at h
    exact (ct_cb hT hg k.1 k.2 h).1
  · rw [if_neg k] at h
    cases h
theorem ct_ccs (hT : ct_So T) (hg : ct_Jo g pe) (h : ct_cc T B kd g pe j i p = some v) : i + (2 * p + 1) ≤ T.1.1 ∧ j < T.1.2.1 := by
  unfold ct_cc at h
  by_cases k : j < T.1.2.1 ∧ p ≤ 2
  · rw [if_pos k] at h
    exact ⟨(ct_cb hT hg k.1 k.2 h).2, k.1⟩
  · rw [if_neg k] at h
    cases h
theorem ct_rs {o : Option Nat} (h : ¬ ct_r o = -1) : ∃ v, o = some v := by
  cases o with
  | none => exact absurd rfl h
  | some v => exact ⟨v, rfl⟩
theorem ct_rn {o : Option Nat} (hb : ∀ v, o = some v → v < 2 ^ 31) (h : ct_r o = -1) : o = none := by
  cases o with
  | none => rfl
  | some v =>
    exfalso
    have h : nI v = -1 := h
    have z := nI_toInt (hb v rfl)
    rw [h, show (-1 : Int32).toInt = -1 from rfl] at z
    omega
theorem ct_rv {o : Option Nat} (h : o = some v) : ct_r o = nI v := by
  rw [h]
  rfl
theorem bt_cpn (h : c j i p = none) : bt_cp c r j i t p = t := by
  unfold bt_cp
  rw [h]
theorem bt_cps (h : c j i p = some v) : bt_cp c r j i t p = bt_jn (bt_pre p v) t (bt_top (bt_al c r (j + 1) (i + (2 * p + 1)))) := by
  unfold bt_cp
  rw [h]
theorem bt_foldok : ∀ (X : List bt_E) (t : bt_T), bt_ok v t → (∀ x, x ∈ X → v + x.1 < bt_U) → bt_ok v (X.foldl bt_ins t)
  | [], _, h, _ => h
  | x :: X, t, h, hX => bt_foldok X _ (bt_insok h (hX x (List.mem_cons_self ..))) (fun y hy => hX y (List.mem_cons_of_mem _ hy))
theorem bt_cpk (hV : ∀ j i p v, c j i p = some v → v ≤ V) (hr : (r + 1) * V < bt_U) (ht : bt_ok 0 t) : bt_ok 0 (bt_cp c r j i t p) := by
  rw [← bt_cp_e hV hr ht.1]
  refine bt_foldok _ _ ht (fun x hx => ?_)
  cases e : c j i p with
  | none =>
    rw [bt_one_n e] at hx
    cases hx
  | some v =>
    rw [bt_one_s e, List.mem_map] at hx
    obtain ⟨y, hy, ex⟩ := hx
    have z := (bt_al_b hV r _ _ y hy).1
    have w := hV j i p v e
    subst ex
    show 0 + (v + y.1) < bt_U
    rw [Nat.succ_mul] at hr
    omega
theorem bt_ok.le1 (h : bt_ok v t) : t.1.1 ≤ bt_U := by rcases h.2.1 with e | e <;> omega
theorem bt_ok.le2 (h : bt_ok v t) : t.2.1.1 ≤ bt_U := by rcases h.2.2.1 with e | e <;> omega
theorem bt_uok (hV : ∀ j i p v, c j i p = some v → v ≤ V) (hr : (r + 1) * V < bt_U) (hv : v ≤ V) : bt_ok v (bt_top (bt_al c r j i)) := bt_topok (fun x hx => by
  have z := (bt_al_b hV r _ _ x hx).1
  rw [Nat.succ_mul] at hr
  omega)
theorem bs_N.fr (F : bs_F k I J) (hx : x ≠ k) (h : bs_N I x t) : bs_N J x t := by
  unfold bs_N
  rw [F.2 12 x hx, F.2 13 x hx, F.2 20 x hx, F.2 21 x hx]
  exact h
theorem bs_C.fr (F : bs_F k I J) (hx : x ≠ k) (h : bs_C P I x t) : bs_C P J x t := by
  unfold bs_C bs_P
  rw [F.2 12 x hx, F.2 13 x hx, F.2 15 x hx, F.2 16 x hx, F.2 18 x hx, F.2 19 x hx, F.2 20 x hx, F.2 21 x hx]
  exact h
theorem bs_C0 (h : bs_N I x bt_0) : bs_C P I x bt_0 := ⟨⟨h.1.1, h.1.2, fun z => absurd z (Nat.lt_irrefl _), fun z => absurd z (Nat.lt_irrefl _)⟩, h.2⟩
theorem cl_B.fr {S : List Nat} {q : Nat} (h : cl_B q B I) (f : mFr S I J) (hs : mMem S q = false) : cl_B q B J := by
  unfold cl_B
  rw [f q hs]
  exact h
theorem cl_J.fr {S : List Nat} {q : Nat} (h : cl_J q g pe I) (f : mFr S I J) (hs : mMem S q = false) : cl_J q g pe J := by
  unfold cl_J
  rw [f q hs]
  exact h
end FC
theorem x_joinN {ro : Nat → Nat × (Nat → Int32)} {Q : mPo} {d : Nat} {I : Nat → Nat → Int32} {L : Nat → Nat → Int64} {P : Int32 → Int32 → List Nat → Prop} {k m : Nat} {v2 v3 : Int32} {t u : bt_T} {f : bt_E → bt_E} {v : Nat} (hR : mRk I) (hk : k < 154) (hm : m < 154) (hkm : m ≠ k) (hf : ∀ y, (f y).1 = v + y.1) (hv : v3 = nI v) (hu : bt_ok v u) (t1 : t.1.1 ≤ bt_U) (t2 : t.2.1.1 ≤ bt_U) (hC : bs_C P I k t) (hN : bs_N I m u) (hy0 : u.1.1 < bt_U → P v2 0 (f u.1).2) (hy1 : u.2.1.1 < bt_U → P v2 1 (f u.2.1).2) (hq : ∀ J, bs_F k I J → mRk J → bs_C P J k (bt_jn f t u) → Q none (mSH, J, L)) : mWP mTb_ mFT ro (d + 2, 56, 0, [some (.ref 10), some (.int (nI k)), some (.int (nI m)), some (.int v2), some (.int v3), none], [], 0, 0, (mSH, I, L)) Q := by
  have ek : (nI k).toNatClampNeg = k := nI_clamp (by omega)
  have em : (nI m).toNatClampNeg = m := nI_clamp (by omega)
  refine x_join hR (vp_in_nI hk (by omega)) (vp_in_nI hm (by omega)) (by rw [ek, em]; exact hkm) hf hv hu t1 t2 (by rw [ek]; exact hC) (by rw [em]; exact hN) hy0 hy1 (fun J F R C => ?_)
  rw [ek] at F C
  exact hq J F R C
theorem x_cell {ro : Nat → Nat × (Nat → Int32)} {Q : mPo} {d : Nat} {I : Nat → Nat → Int32} {L : Nat → Nat → Int64} {v0 v1 : Int32} {a b : Nat} (e0 : v0 = nI a) (e1 : v1 = nI b) (ha : a ≤ 8) (hb : b ≤ 16) (hq : Q (some (.int (nI (a * 17 + b)))) (mSH, I, L))   : mWP mTb_ mFT ro (d, 59, 0, [some (.int v0), some (.int v1), none], [], 0, 0, (mSH, I, L)) Q := by
  refine mB 1 (s2 := (d, 59, 1, [some (.int v0), some (.int v1), none], [.int v0], 0, 0, (mSH, I, L))) rfl ?_
  refine mBr (s2 := (d, 59, 24, [some (.int v0), some (.int v1), none], [], 0, 0, (mSH, I, L))) (s3 := (d, 59, 4, [some (.int v0), some (.int v1), none], [], 0, 0, (mSH, I, L))) rfl (fun c0 => ?_) (fun c0 => ?_)
  · refine mB 3 (s2 := (d, 59, 27, [some (.int v0), some (.int v1), some (.int 0)], [.int 0], 0, 0, (mSH, I, L))) rfl ?_
    refine mBT (s2 := (d, 59, 39, [some (.int v0), some (.int v1), some (.int 0)], [], 0, 0, (mSH, I, L))) rfl (by decide) ?_
    refine mB 1 (s2 := (d, 59, 42, [some (.int v0), some (.int v1), some (.int 0)], [.int 153], 0, 0, (mSH, I, L))) rfl ?_
    refine mRt (r := (some (.int 153))) (h := (mSH, I, L)) rfl (mRet_int rfl) ?_
    exact absurd (of_decide_eq_true c0) (by rw [e0]; exact nI_pos (by omega))
  · refine mB 2 (s2 := (d, 59, 7, [some (.int v0), some (.int v1), none], [.int 8, .int v0], 0, 0, (mSH, I, L))) rfl ?_
    refine mBr (s2 := (d, 59, 24, [some (.int v0), some (.int v1), none], [], 0, 0, (mSH, I, L))) (s3 := (d, 59, 10, [some (.int v0), some (.int v1), none], [], 0, 0, (mSH, I, L))) rfl (fun c1 => ?_) (fun c1 => ?_)
    · refine mB 3 (s2 := (d, 59, 27, [some (.int v0), some (.int v1), some (.int 0)], [.int 0], 0, 0, (mSH, I, L))) rfl ?_
      refine mBT (s2 := (d, 59, 39, [some (.int v0), some (.int v1), some (.int 0)], [], 0, 0, (mSH, I, L))) rfl (by decide) ?_
      refine mB 1 (s2 := (d, 59, 42, [some (.int v0), some (.int v1), some (.int 0)], [.int 153], 0, 0, (mSH, I, L))) rfl ?_
      refine mRt (r := (some (.int 153))) (h := (mSH, I, L)) rfl (mRet_int rfl) ?_
      exact absurd (of_decide_eq_true c1) (by rw [e0]; exact nI_nlt (a := 8) (by omega) (by omega))
    · refine mB 1 (s2 := (d, 59, 11, [some (.int v0), some (.int v1), none], [.int v1], 0, 0, (mSH, I, L))) rfl ?_
      refine mBr (s2 := (d, 59, 24, [some (.int v0), some (.int v1), none], [], 0, 0, (mSH, I, L))) (s3 := (d, 59, 14, [some (.int v0), some (.int v1), none], [], 0, 0, (mSH, I, L))) rfl (fun c2 => ?_) (fun c2 => ?_)
      · refine mB 3 (s2 := (d, 59, 27, [some (.int v0), some (.int v1), some (.int 0)], [.int 0], 0, 0, (mSH, I, L))) rfl ?_
        refine mBT (s2 := (d, 59, 39, [some (.int v0), some (.int v1), some (.int 0)], [], 0, 0, (mSH, I, L))) rfl (by decide) ?_
        refine mB 1 (s2 := (d, 59, 42, [some (.int v0), some (.int v1), some (.int 0)], [.int 153], 0, 0, (mSH, I, L))) rfl ?_
        refine mRt (r := (some (.int 153))) (h := (mSH, I, L)) rfl (mRet_int rfl) ?_
        exact absurd (of_decide_eq_true c2) (by rw [e1]; exact nI_pos (by omega))
      · refine mB 2 (s2 := (d, 59, 17, [some (.int v0), some (.int v1), none], [.int 16, .int v1], 0, 0, (mSH, I, L))) rfl ?_
        refine mBr (s2 := (d, 59, 24, [some (.int v0), some (.int v1), none], [], 0, 0, (mSH, I, L))) (s3 := (d, 59, 20, [some (.int v0), some (.int v1), none], [], 0, 0, (mSH, I, L))) rfl (fun c3 => ?_) (fun c3 => ?_)
        · refine mB 3 (s2 := (d, 59, 27, [some (.int v0), some (.int v1), some (.int 0)], [.int 0], 0, 0, (mSH, I, L))) rfl ?_
          refine mBT (s2 := (d, 59, 39, [some (.int v0), some (.int v1), some (.int 0)], [], 0, 0, (mSH, I, L))) rfl (by decide) ?_
          refine mB 1 (s2 := (d, 59, 42, [some (.int v0), some (.int v1), some (.int 0)], [.int 153], 0, 0, (mSH, I, L))) rfl ?_
          refine mRt (r := (some (.int 153))) (h := (mSH, I, L)) rfl (mRet_int rfl) ?_
          exact absurd (of_decide_eq_true c3) (by rw [e1]; exact nI_nlt (a := 16) (by omega) (by omega))
        · refine mB 4 (s2 := (d, 59, 27, [some (.int v0), some (.int v1), some (.int 1)], [.int 1], 0, 0, (mSH, I, L))) rfl ?_
          refine mBF (s3 := (d, 59, 30, [some (.int v0), some (.int v1), some (.int 1)], [], 0, 0, (mSH, I, L))) rfl (by decide) ?_
          refine mB 6 (s2 := (d, 59, 42, [some (.int v0), some (.int v1), some (.int 1)], [.int ((v0 * 17) + v1)], 0, 0, (mSH, I, L))) rfl ?_
          refine mRt (r := (some (.int ((v0 * 17) + v1)))) (h := (mSH, I, L)) rfl (mRet_int rfl) ?_
          exact ct_fin hq (by rw [e0, e1, show nI a * 17 = nI (a * 17) from nI_mul a 17, nI_add])
theorem x_fc_6_0 {ro : Nat → Nat × (Nat → Int32)} {Q : mPo} {d : Nat} {I : Nat → Nat → Int32} {L : Nat → Nat → Int64} {T : ct_S} {B : ct_B} {kd g pe j i r : Nat} {t : bt_T} {o6 : Option Value} (hT : ct_So T) (hS : cl_S T I) (hB0 : cl_B 6 B I) (hBo : ct_Bo B) (hJ : cl_J 9 g pe I) (hg : ct_Jo g pe) (hk : kd < 2 ^ 31) (hj : j < T.1.2.1) (hi : i < T.1.1) (hr : (r + 1) * bt_V < bt_U) (hR : mRk I) (ht : bt_ok 0 t) (hC : bs_C (bs_L (bs_nx (ct_cc T B kd g pe) r j i) bs_st) I (j * 17 + i) t) (hX : i + 1 ≤ T.1.1 → bs_N I ((j + 1) * 17 + (i + 1)) (bt_top (bt_al (ct_cc T B kd g pe) r (j + 1) (i + 1)))) (hq : ∀ (J : Nat → Nat → Int32) (o6 : Option Value), bs_F (j * 17 + i) I J → mRk J → bs_C (bs_L (bs_nx (ct_cc T B kd g pe) r j i) bs_st) J (j * 17 + i) (bt_cp (ct_cc T B kd g pe) r j i t 0) → mWP mTb_ mFT ro (d + 3, 55, 3, [some (.ref 10), some (.ref 6), some (.int (nI kd)), some (.int (nI j)), some (.int (nI i)), some (.int 3), o6], [], 0, 0, (mSH, J, L)) Q)   : mWP mTb_ mFT ro (d + 3, 55, 3, [some (.ref 10), some (.ref 6), some (.int (nI kd)), some (.int (nI j)), some (.int (nI i)), some (.int 1), o6], [], 0, 0, (mSH, I, L)) Q := by
  have s16 := hT.1
  have n8 := hT.2.1
  have hV := ct_ccb (B := B) (kd := kd) hT hg
  have hL : ¬ (ct_r (ct_c T B kd g pe j i 0)) = (-1) → i + 1 ≤ T.1.1 := fun z => by
    obtain ⟨v, hv⟩ := ct_rs z
    exact (ct_cb hT hg hj (by omega) hv).2
  refine mB 2 (s2 := (d + 3, 55, 6, [some (.ref 10), some (.ref 6), some (.int (nI kd)), some (.int (nI j)), some (.int (nI i)), some (.int 1), o6], [.int 5, .int 1], 0, 0, (mSH, I, L))) rfl ?_
  refine mBF (s3 := (d + 3, 55, 9, [some (.ref 10), some (.ref 6), some (.int (nI kd)), some (.int (nI j)), some (.int (nI i)), some (.int 1), o6], [], 0, 0, (mSH, I, L))) rfl (by decide) ?_
  refine mB 6 (s2 := (d + 3, 55, 17, [some (.ref 10), some (.ref 6), some (.int (nI kd)), some (.int (nI j)), some (.int (nI i)), some (.int 1), o6], [.int 1, .int (nI i), .int (nI j), .int (nI kd), .ref 6, .ref 10], 0, 0, (mSH, I, L))) rfl ?_
  refine mCall (s2 := (d + 2, 51, 0, [some (.ref 10), some (.ref 6), some (.int (nI kd)), some (.int (nI j)), some (.int (nI i)), some (.int 1), none, none], [], 0, 0, (mSH, I, L))) rfl ?_
  refine x_cost_6_0 hT hS hB0 hBo hJ hg hk hj (Nat.le_of_lt hi) ?_
  show mWP mTb_ mFT ro (d + 3, 55, 20, [some (.ref 10), some (.ref 6), some (.int (nI kd)), some (.int (nI j)), some (.int (nI i)), some (.int 1), o6], [.int (ct_r (ct_c T B kd g pe j i 0))], 0, 0, (mSH, I, L)) _
  refine mB 3 (s2 := (d + 3, 55, 25, [some (.ref 10), some (.ref 6), some (.int (nI kd)), some (.int (nI j)), some (.int (nI i)), some (.int 1), some (.int (ct_r (ct_c T B kd g pe j i 0)))], [.int (-1), .int (ct_r (ct_c T B kd g pe j i 0))], 0, 0, (mSH, I, L))) rfl ?_
  refine mBr (s2 := (d + 3, 55, 53, [some (.ref 10), some (.ref 6), some (.int (nI kd)), some (.int (nI j)), some (.int (nI i)), some (.int 1), some (.int (ct_r (ct_c T B kd g pe j i 0)))], [], 0, 0, (mSH, I, L))) (s3 := (d + 3, 55, 28, [some (.ref 10), some (.ref 6), some (.int (nI kd)), some (.int (nI j)), some (.int (nI i)), some (.int 1), some (.int (ct_r (ct_c T B kd g pe j i 0)))], [], 0, 0, (mSH, I, L))) rfl (fun c0 => ?_) (fun c0 => ?_)
  · refine mB 2 (s2 := (d + 3, 55, 3, [some (.ref 10), some (.ref 6), some (.int (nI kd)), some (.int (nI j)), some (.int (nI i)), some (.int 3), some (.int (ct_r (ct_c T B kd g pe j i 0)))], [], 0, 0, (mSH, I, L))) rfl ?_
    exact hq _ _ bs_F.rf hR (by rw [bt_cpn ((ct_cce hj (by omega)).trans (ct_rn (fun v hv => by have w := (ct_cb hT hg hj (by omega) hv).1; omega) (of_decide_eq_true c0)))]; exact hC)
  · refine mB 3 (s2 := (d + 3, 55, 32, [some (.ref 10), some (.ref 6), some (.int (nI kd)), some (.int (nI j)), some (.int (nI i)), some (.int 1), some (.int (ct_r (ct_c T B kd g pe j i 0)))], [.int (nI i), .int (nI j), .ref 10], 0, 0, (mSH, I, L))) rfl ?_
    refine mCall (s2 := (d + 2, 59, 0, [some (.int (nI j)), some (.int (nI i)), none], [], 0, 0, (mSH, I, L))) rfl ?_
    refine x_cell (a := j) (b := i) rfl rfl (by omega) (by omega) ?_
    show mWP mTb_ mFT ro (d + 3, 55, 35, [some (.ref 10), some (.ref 6), some (.int (nI kd)), some (.int (nI j)), some (.int (nI i)), some (.int 1), some (.int (ct_r (ct_c T B kd g pe j i 0)))], [.int (nI (j * 17 + i)), .ref 10], 0, 0, (mSH, I, L)) _
    refine mB 6 (s2 := (d + 3, 55, 43, [some (.ref 10), some (.ref 6), some (.int (nI kd)), some (.int (nI j)), some (.int (nI i)), some (.int 1), some (.int (ct_r (ct_c T B kd g pe j i 0)))], [.int ((nI i) + 1), .int ((nI j) + 1), .int (nI (j * 17 + i)), .ref 10], 0, 0, (mSH, I, L))) rfl ?_
    refine mCall (s2 := (d + 2, 59, 0, [some (.int ((nI j) + 1)), some (.int ((nI i) + 1)), none], [], 0, 0, (mSH, I, L))) rfl ?_
    refine x_cell (a := (j + 1)) (b := (i + 1)) (nI_add j 1) (nI_add i 1) (by omega) (by have z := hL (of_decide_eq_false c0); omega) ?_
    show mWP mTb_ mFT ro (d + 3, 55, 46, [some (.ref 10), some (.ref 6), some (.int (nI kd)), some (.int (nI j)), some (.int (nI i)), some (.int 1), some (.int (ct_r (ct_c T B kd g pe j i 0)))], [.int (nI ((j + 1) * 17 + (i + 1))), .int (nI (j * 17 + i)), .ref 10], 0, 0, (mSH, I, L)) _
    refine mB 2 (s2 := (d + 3, 55, 50, [some (.ref 10), some (.ref 6), some (.int (nI kd)), some (.int (nI j)), some (.int (nI i)), some (.int 1), some (.int (ct_r (ct_c T B kd g pe j i 0)))], [.int (ct_r (ct_c T B kd g pe j i 0)), .int 1, .int (nI ((j + 1) * 17 + (i + 1))), .int (nI (j * 17 + i)), .ref 10], 0, 0, (mSH, I, L))) rfl ?_
    refine mCall (s2 := (d + 2, 56, 0, [some (.ref 10), some (.int (nI (j * 17 + i))), some (.int (nI ((j + 1) * 17 + (i + 1)))), some (.int 1), some (.int (ct_r (ct_c T B kd g pe j i 0))), none], [], 0, 0, (mSH, I, L))) rfl ?_
    (obtain ⟨v, hv⟩ := ct_rs (of_decide_eq_false c0)); have hv2 := (ct_cce hj (by omega)).trans hv; have hL1 := (ct_ccs hT hg hv2).1; refine x_joinN (v := v) (f := bt_pre 0 v) (u := bt_top (bt_al (ct_cc T B kd g pe) r (j + 1) (i + 1))) hR (by omega) (by omega) (by omega) (fun y => rfl) (ct_rv hv) (bt_uok hV hr (hV _ _ _ _ hv2)) ht.le1 ht.le2 hC (hX hL1) (fun h => ⟨0, _, rfl, rfl, Or.inl ⟨rfl, h, rfl⟩⟩) (fun h => ⟨0, _, rfl, rfl, Or.inr ⟨rfl, h, rfl⟩⟩) (fun K1 f1 r1 p1 => ?_)
    show mWP mTb_ mFT ro (d + 3, 55, 53, [some (.ref 10), some (.ref 6), some (.int (nI kd)), some (.int (nI j)), some (.int (nI i)), some (.int 1), some (.int (ct_r (ct_c T B kd g pe j i 0)))], [], 0, 0, (mSH, K1, L)) _
    refine mB 2 (s2 := (d + 3, 55, 3, [some (.ref 10), some (.ref 6), some (.int (nI kd)), some (.int (nI j)), some (.int (nI i)), some (.int 3), some (.int (ct_r (ct_c T B kd g pe j i 0)))], [], 0, 0, (mSH, K1, L))) rfl ?_
    exact hq _ _ f1 r1 (by rw [bt_cps hv2]; exact p1)
theorem x_fc_6_1 {ro : Nat → Nat × (Nat → Int32)} {Q : mPo} {d : Nat} {I : Nat → Nat → Int32} {L : Nat → Nat → Int64} {T : ct_S} {B : ct_B} {kd g pe j i r : Nat} {t : bt_T} {o6 : Option Value} (hT : ct_So T) (hS : cl_S T I) (hB0 : cl_B 6 B I) (hBo : ct_Bo B) (hJ : cl_J 9 g pe I) (hg : ct_Jo g pe) (hk : kd < 2 ^ 31) (hj : j < T.1.2.1) (hi : i < T.1.1) (hr : (r + 1) * bt_V < bt_U) (hR : mRk I) (ht : bt_ok 0 t) (hC : bs_C (bs_L (bs_nx (ct_cc T B kd g pe) r j i) bs_st) I (j * 17 + i) t) (hX : i + 3 ≤ T.1.1 → bs_N I ((j + 1) * 17 + (i + 3)) (bt_top (bt_al (ct_cc T B kd g pe) r (j + 1) (i + 3)))) (hq : ∀ (J : Nat → Nat → Int32) (o6 : Option Value), bs_F (j * 17 + i) I J → mRk J → bs_C (bs_L (bs_nx (ct_cc T B kd g pe) r j i) bs_st) J (j * 17 + i) (bt_cp (ct_cc T B kd g pe) r j i t 1) → mWP mTb_ mFT ro (d + 3, 55, 3, [some (.ref 10), some (.ref 6), some (.int (nI kd)), some (.int (nI j)), some (.int (nI i)), some (.int 5), o6], [], 0, 0, (mSH, J, L)) Q)   : mWP mTb_ mFT ro (d + 3, 55, 3, [some (.ref 10), some (.ref 6), some (.int (nI kd)), some (.int (nI j)), some (.int (nI i)), some (.int 3), o6], [], 0, 0, (mSH, I, L)) Q := by
  have s16 := hT.1
  have n8 := hT.2.1
  have hV := ct_ccb (B := B) (kd := kd) hT hg
  have hL : ¬ (ct_r (ct_c T B kd g pe j i 1)) = (-1) → i + 3 ≤ T.1.1 := fun z => by
    obtain ⟨v, hv⟩ := ct_rs z
    exact (ct_cb hT hg hj (by omega) hv).2
  refine mB 2 (s2 := (d + 3, 55, 6, [some (.ref 10), some (.ref 6), some (.int (nI kd)), some (.int (nI j)), some (.int (nI i)), some (.int 3), o6], [.int 5, .int 3], 0, 0, (mSH, I, L))) rfl ?_
  refine mBF (s3 := (d + 3, 55, 9, [some (.ref 10), some (.ref 6), some (.int (nI kd)), some (.int (nI j)), some (.int (nI i)), some (.int 3), o6], [], 0, 0, (mSH, I, L))) rfl (by decide) ?_
  refine mB 6 (s2 := (d + 3, 55, 17, [some (.ref 10), some (.ref 6), some (.int (nI kd)), some (.int (nI j)), some (.int (nI i)), some (.int 3), o6], [.int 3, .int (nI i), .int (nI j), .int (nI kd), .ref 6, .ref 10], 0, 0, (mSH, I, L))) rfl ?_
  refine mCall (s2 := (d + 2, 51, 0, [some (.ref 10), some (.ref 6), some (.int (nI kd)), some (.int (nI j)), some (.int (nI i)), some (.int 3), none, none], [], 0, 0, (mSH, I, L))) rfl ?_
  refine x_cost_6_1 hT hS hB0 hBo hJ hg hk hj (Nat.le_of_lt hi) ?_
  show mWP mTb_ mFT ro (d + 3, 55, 20, [some (.ref 10), some (.ref 6), some (.int (nI kd)), some (.int (nI j)), some (.int (nI i)), some (.int 3), o6], [.int (ct_r (ct_c T B kd g pe j i 1))], 0, 0, (mSH, I, L)) _
  refine mB 3 (s2 := (d + 3, 55, 25, [some (.ref 10), some (.ref 6), some (.int (nI kd)), some (.int (nI j)), some (.int (nI i)), some (.int 3), some (.int (ct_r (ct_c T B kd g pe j i 1)))], [.int (-1), .int (ct_r (ct_c T B kd g pe j i 1))], 0, 0, (mSH, I, L))) rfl ?_
  refine mBr (s2 := (d + 3, 55, 53, [some (.ref 10), some (.ref 6), some (.int (nI kd)), some (.int (nI j)), some (.int (nI i)), some (.int 3), some (.int (ct_r (ct_c T B kd g pe j i 1)))], [], 0, 0, (mSH, I, L))) (s3 := (d + 3, 55, 28, [some (.ref 10), some (.ref 6), some (.int (nI kd)), some (.int (nI j)), some (.int (nI i)), some (.int 3), some (.int (ct_r (ct_c T B kd g pe j i 1)))], [], 0, 0, (mSH, I, L))) rfl (fun c0 => ?_) (fun c0 => ?_)
  · refine mB 2 (s2 := (d + 3, 55, 3, [some (.ref 10), some (.ref 6), some (.int (nI kd)), some (.int (nI j)), some (.int (nI i)), some (.int 5), some (.int (ct_r (ct_c T B kd g pe j i 1)))], [], 0, 0, (mSH, I, L))) rfl ?_
    exact hq _ _ bs_F.rf hR (by rw [bt_cpn ((ct_cce hj (by omega)).trans (ct_rn (fun v hv => by have w := (ct_cb hT hg hj (by omega) hv).1; omega) (of_decide_eq_true c0)))]; exact hC)
  · refine mB 3 (s2 := (d + 3, 55, 32, [some (.ref 10), some (.ref 6), some (.int (nI kd)), some (.int (nI j)), some (.int (nI i)), some (.int 3), some (.int (ct_r (ct_c T B kd g pe j i 1)))], [.int (nI i), .int (nI j), .ref 10], 0, 0, (mSH, I, L))) rfl ?_
    refine mCall (s2 := (d + 2, 59, 0, [some (.int (nI j)), some (.int (nI i)), none], [], 0, 0, (mSH, I, L))) rfl ?_
    refine x_cell (a := j) (b := i) rfl rfl (by omega) (by omega) ?_
    show mWP mTb_ mFT ro (d + 3, 55, 35, [some (.ref 10), some (.ref 6), some (.int (nI kd)), some (.int (nI j)), some (.int (nI i)), some (.int 3), some (.int (ct_r (ct_c T B kd g pe j i 1)))], [.int (nI (j * 17 + i)), .ref 10], 0, 0, (mSH, I, L)) _
    refine mB 6 (s2 := (d + 3, 55, 43, [some (.ref 10), some (.ref 6), some (.int (nI kd)), some (.int (nI j)), some (.int (nI i)), some (.int 3), some (.int (ct_r (ct_c T B kd g pe j i 1)))], [.int ((nI i) + 3), .int ((nI j) + 1), .int (nI (j * 17 + i)), .ref 10], 0, 0, (mSH, I, L))) rfl ?_
    refine mCall (s2 := (d + 2, 59, 0, [some (.int ((nI j) + 1)), some (.int ((nI i) + 3)), none], [], 0, 0, (mSH, I, L))) rfl ?_
    refine x_cell (a := (j + 1)) (b := (i + 3)) (nI_add j 1) (nI_add i 3) (by omega) (by have z := hL (of_decide_eq_false c0); omega) ?_
    show mWP mTb_ mFT ro (d + 3, 55, 46, [some (.ref 10), some (.ref 6), some (.int (nI kd)), some (.int (nI j)), some (.int (nI i)), some (.int 3), some (.int (ct_r (ct_c T B kd g pe j i 1)))], [.int (nI ((j + 1) * 17 + (i + 3))), .int (nI (j * 17 + i)), .ref 10], 0, 0, (mSH, I, L)) _
    refine mB 2 (s2 := (d + 3, 55, 50, [some (.ref 10), some (.ref 6), some (.int (nI kd)), some (.int (nI j)), some (.int (nI i)), some (.int 3), some (.int (ct_r (ct_c T B kd g pe j i 1)))], [.int (ct_r (ct_c T B kd g pe j i 1)), .int 3, .int (nI ((j + 1) * 17 + (i + 3))), .int (nI (j * 17 + i)), .ref 10], 0, 0, (mSH, I, L))) rfl ?_
    refine mCall (s2 := (d + 2, 56, 0, [some (.ref 10), some (.int (nI (j * 17 + i))), some (.int (nI ((j + 1) * 17 + (i + 3)))), some (.int 3), some (.int (ct_r (ct_c T B kd g pe j i 1))), none], [], 0, 0, (mSH, I, L))) rfl ?_
    (obtain ⟨v, hv⟩ := ct_rs (of_decide_eq_false c0)); have hv2 := (ct_cce hj (by omega)).trans hv; have hL1 := (ct_ccs hT hg hv2).1; refine x_joinN (v := v) (f := bt_pre 1 v) (u := bt_top (bt_al (ct_cc T B kd g pe) r (j + 1) (i + 3))) hR (by omega) (by omega) (by omega) (fun y => rfl) (ct_rv hv) (bt_uok hV hr (hV _ _ _ _ hv2)) ht.le1 ht.le2 hC (hX hL1) (fun h => ⟨1, _, rfl, rfl, Or.inl ⟨rfl, h, rfl⟩⟩) (fun h => ⟨1, _, rfl, rfl, Or.inr ⟨rfl, h, rfl⟩⟩) (fun K1 f1 r1 p1 => ?_)
    show mWP mTb_ mFT ro (d + 3, 55, 53, [some (.ref 10), some (.ref 6), some (.int (nI kd)), some (.int (nI j)), some (.int (nI i)), some (.int 3), some (.int (ct_r (ct_c T B kd g pe j i 1)))], [], 0, 0, (mSH, K1, L)) _
    refine mB 2 (s2 := (d + 3, 55, 3, [some (.ref 10), some (.ref 6), some (.int (nI kd)), some (.int (nI j)), some (.int (nI i)), some (.int 5), some (.int (ct_r (ct_c T B kd g pe j i 1)))], [], 0, 0, (mSH, K1, L))) rfl ?_
    exact hq _ _ f1 r1 (by rw [bt_cps hv2]; exact p1)
theorem x_fc_6_2 {ro : Nat → Nat × (Nat → Int32)} {Q : mPo} {d : Nat} {I : Nat → Nat → Int32} {L : Nat → Nat → Int64} {T : ct_S} {B : ct_B} {kd g pe j i r : Nat} {t : bt_T} {o6 : Option Value} (hT : ct_So T) (hS : cl_S T I) (hB0 : cl_B 6 B I) (hBo : ct_Bo B) (hJ : cl_J 9 g pe I) (hg : ct_Jo g pe) (hk : kd < 2 ^ 31) (hj : j < T.1.2.1) (hi : i < T.1.1) (hr : (r + 1) * bt_V < bt_U) (hR : mRk I) (ht : bt_ok 0 t) (hC : bs_C (bs_L (bs_nx (ct_cc T B kd g pe) r j i) bs_st) I (j * 17 + i) t) (hX : i + 5 ≤ T.1.1 → bs_N I ((j + 1) * 17 + (i + 5)) (bt_top (bt_al (ct_cc T B kd g pe) r (j + 1) (i + 5)))) (hq : ∀ (J : Nat → Nat → Int32) (o6 : Option Value), bs_F (j * 17 + i) I J → mRk J → bs_C (bs_L (bs_nx (ct_cc T B kd g pe) r j i) bs_st) J (j * 17 + i) (bt_cp (ct_cc T B kd g pe) r j i t 2) → mWP mTb_ mFT ro (d + 3, 55, 3, [some (.ref 10), some (.ref 6), some (.int (nI kd)), some (.int (nI j)), some (.int (nI i)), some (.int 7), o6], [], 0, 0, (mSH, J, L)) Q)   : mWP mTb_ mFT ro (d + 3, 55, 3, [some (.ref 10), some (.ref 6), some (.int (nI kd)), some (.int (nI j)), some (.int (nI i)), some (.int 5), o6], [], 0, 0, (mSH, I, L)) Q := by
  have s16 := hT.1
  have n8 := hT.2.1
  have hV := ct_ccb (B := B) (kd := kd) hT hg
  have hL : ¬ (ct_r (ct_c T B kd g pe j i 2)) = (-1) → i + 5 ≤ T.1.1 := fun z => by
    obtain ⟨v, hv⟩ := ct_rs z
    exact (ct_cb hT hg hj (by omega) hv).2
  refine mB 2 (s2 := (d + 3, 55, 6, [some (.ref 10), some (.ref 6), some (.int (nI kd)), some (.int (nI j)), some (.int (nI i)), some (.int 5), o6], [.int 5, .int 5], 0, 0, (mSH, I, L))) rfl ?_
  refine mBF (s3 := (d + 3, 55, 9, [some (.ref 10), some (.ref 6), some (.int (nI kd)), some (.int (nI j)), some (.int (nI i)), some (.int 5), o6], [], 0, 0, (mSH, I, L))) rfl (by decide) ?_
  refine mB 6 (s2 := (d + 3, 55, 17, [some (.ref 10), some (.ref 6), some (.int (nI kd)), some (.int (nI j)), some (.int (nI i)), some (.int 5), o6], [.int 5, .int (nI i), .int (nI j), .int (nI kd), .ref 6, .ref 10], 0, 0, (mSH, I, L))) rfl ?_
  refine mCall (s2 := (d + 2, 51, 0, [some (.ref 10), some (.ref 6), some (.int (nI kd)), some (.int (nI j)), some (.int (nI i)), some (.int 5), none, none], [], 0, 0, (mSH, I, L))) rfl ?_
  refine x_cost_6_2 hT hS hB0 hBo hJ hg hk hj (Nat.le_of_lt hi) ?_
  show mWP mTb_ mFT ro (d + 3, 55, 20, [some (.ref 10), some (.ref 6), some (.int (nI kd)), some (.int (nI j)), some (.int (nI i)), some (.int 5), o6], [.int (ct_r (ct_c T B kd g pe j i 2))], 0, 0, (mSH, I, L)) _
  refine mB 3 (s2 := (d + 3, 55, 25, [some (.ref 10), some (.ref 6), some (.int (nI kd)), some (.int (nI j)), some (.int (nI i)), some (.int 5), some (.int (ct_r (ct_c T B kd g pe j i 2)))], [.int (-1), .int (ct_r (ct_c T B kd g pe j i 2))], 0, 0, (mSH, I, L))) rfl ?_
  refine mBr (s2 := (d + 3, 55, 53, [some (.ref 10), some (.ref 6), some (.int (nI kd)), some (.int (nI j)), some (.int (nI i)), some (.int 5), some (.int (ct_r (ct_c T B kd g pe j i 2)))], [], 0, 0, (mSH, I, L))) (s3 := (d + 3, 55, 28, [some (.ref 10), some (.ref 6), some (.int (nI kd)), some (.int (nI j)), some (.int (nI i)), some (.int 5), some (.int (ct_r (ct_c T B kd g pe j i 2)))], [], 0, 0, (mSH, I, L))) rfl (fun c0 => ?_) (fun c0 => ?_)
  · refine mB 2 (s2 := (d + 3, 55, 3, [some (.ref 10), some (.ref 6), some (.int (nI kd)), some (.int (nI j)), some (.int (nI i)), some (.int 7), some (.int (ct_r (ct_c T B kd g pe j i 2)))], [], 0, 0, (mSH, I, L))) rfl ?_
    exact hq _ _ bs_F.rf hR (by rw [bt_cpn ((ct_cce hj (by omega)).trans (ct_rn (fun v hv => by have w := (ct_cb hT hg hj (by omega) hv).1; omega) (of_decide_eq_true c0)))]; exact hC)
  · refine mB 3 (s2 := (d + 3, 55, 32, [some (.ref 10), some (.ref 6), some (.int (nI kd)), some (.int (nI j)), some (.int (nI i)), some (.int 5), some (.int (ct_r (ct_c T B kd g pe j i 2)))], [.int (nI i), .int (nI j), .ref 10], 0, 0, (mSH, I, L))) rfl ?_
    refine mCall (s2 := (d + 2, 59, 0, [some (.int (nI j)), some (.int (nI i)), none], [], 0, 0, (mSH, I, L))) rfl ?_
    refine x_cell (a := j) (b := i) rfl rfl (by omega) (by omega) ?_
    show mWP mTb_ mFT ro (d + 3, 55, 35, [some (.ref 10), some (.ref 6), some (.int (nI kd)), some (.int (nI j)), some (.int (nI i)), some (.int 5), some (.int (ct_r (ct_c T B kd g pe j i 2)))], [.int (nI (j * 17 + i)), .ref 10], 0, 0, (mSH, I, L)) _
    refine mB 6 (s2 := (d + 3, 55, 43, [some (.ref 10), some (.ref 6), some (.int (nI kd)), some (.int (nI j)), some (.int (nI i)), some (.int 5), some (.int (ct_r (ct_c T B kd g pe j i 2)))], [.int ((nI i) + 5), .int ((nI j) + 1), .int (nI (j * 17 + i)), .ref 10], 0, 0, (mSH, I, L))) rfl ?_
    refine mCall (s2 := (d + 2, 59, 0, [some (.int ((nI j) + 1)), some (.int ((nI i) + 5)), none], [], 0, 0, (mSH, I, L))) rfl ?_
    refine x_cell (a := (j + 1)) (b := (i + 5)) (nI_add j 1) (nI_add i 5) (by omega) (by have z := hL (of_decide_eq_false c0); omega) ?_
    show mWP mTb_ mFT ro (d + 3, 55, 46, [some (.ref 10), some (.ref 6), some (.int (nI kd)), some (.int (nI j)), some (.int (nI i)), some (.int 5), some (.int (ct_r (ct_c T B kd g pe j i 2)))], [.int (nI ((j + 1) * 17 + (i + 5))), .int (nI (j * 17 + i)), .ref 10], 0, 0, (mSH, I, L)) _
    refine mB 2 (s2 := (d + 3, 55, 50, [some (.ref 10), some (.ref 6), some (.int (nI kd)), some (.int (nI j)), some (.int (nI i)), some (.int 5), some (.int (ct_r (ct_c T B kd g pe j i 2)))], [.int (ct_r (ct_c T B kd g pe j i 2)), .int 5, .int (nI ((j + 1) * 17 + (i + 5))), .int (nI (j * 17 + i)), .ref 10], 0, 0, (mSH, I, L))) rfl ?_
    refine mCall (s2 := (d + 2, 56, 0, [some (.ref 10), some (.int (nI (j * 17 + i))), some (.int (nI ((j + 1) * 17 + (i + 5)))), some (.int 5), some (.int (ct_r (ct_c T B kd g pe j i 2))), none], [], 0, 0, (mSH, I, L))) rfl ?_
    (obtain ⟨v, hv⟩ := ct_rs (of_decide_eq_false c0)); have hv2 := (ct_cce hj (by omega)).trans hv; have hL1 := (ct_ccs hT hg hv2).1; refine x_joinN (v := v) (f := bt_pre 2 v) (u := bt_top (bt_al (ct_cc T B kd g pe) r (j + 1) (i + 5))) hR (by omega) (by omega) (by omega) (fun y => rfl) (ct_rv hv) (bt_uok hV hr (hV _ _ _ _ hv2)) ht.le1 ht.le2 hC (hX hL1) (fun h => ⟨2, _, rfl, rfl, Or.inl ⟨rfl, h, rfl⟩⟩) (fun h => ⟨2, _, rfl, rfl, Or.inr ⟨rfl, h, rfl⟩⟩) (fun K1 f1 r1 p1 => ?_)
    show mWP mTb_ mFT ro (d + 3, 55, 53, [some (.ref 10), some (.ref 6), some (.int (nI kd)), some (.int (nI j)), some (.int (nI i)), some (.int 5), some (.int (ct_r (ct_c T B kd g pe j i 2)))], [], 0, 0, (mSH, K1, L)) _
    refine mB 2 (s2 := (d + 3, 55, 3, [some (.ref 10), some (.ref 6), some (.int (nI kd)), some (.int (nI j)), some (.int (nI i)), some (.int 7), some (.int (ct_r (ct_c T B kd g pe j i 2)))], [], 0, 0, (mSH, K1, L))) rfl ?_
    exact hq _ _ f1 r1 (by rw [bt_cps hv2]; exact p1)
theorem x_fe_6 {ro : Nat → Nat × (Nat → Int32)} {Q : mPo} {d : Nat} {I : Nat → Nat → Int32} {L : Nat → Nat → Int64} {v0 v1 v2 : Int32} {o6 : Option Value} (hq : Q none (mSH, I, L))   : mWP mTb_ mFT ro (d + 3, 55, 3, [some (.ref 10), some (.ref 6), some (.int v0), some (.int v1), some (.int v2), some (.int 7), o6], [], 0, 0, (mSH, I, L)) Q := by
  refine mB 2 (s2 := (d + 3, 55, 6, [some (.ref 10), some (.ref 6), some (.int v0), some (.int v1), some (.int v2), some (.int 7), o6], [.int 5, .int 7], 0, 0, (mSH, I, L))) rfl ?_
  refine mBT (s2 := (d + 3, 55, 59, [some (.ref 10), some (.ref 6), some (.int v0), some (.int v1), some (.int v2), some (.int 7), o6], [], 0, 0, (mSH, I, L))) rfl (by decide) ?_
  refine mRt (r := none) (h := (mSH, I, L)) rfl rfl ?_
  exact hq
theorem x_fcell_6 {ro : Nat → Nat × (Nat → Int32)} {Q : mPo} {d : Nat} {I : Nat → Nat → Int32} {L : Nat → Nat → Int64} {T : ct_S} {B : ct_B} {kd g pe j i r : Nat} (hT : ct_So T) (hS : cl_S T I) (hB0 : cl_B 6 B I) (hBo : ct_Bo B) (hJ : cl_J 9 g pe I) (hg : ct_Jo g pe) (hk : kd < 2 ^ 31) (hj : j < T.1.2.1) (hi : i < T.1.1) (hr : (r + 1) * bt_V < bt_U) (hR : mRk I) (h0 : bs_N I (j * 17 + i) bt_0) (hX : ∀ p, i + (2 * p + 1) ≤ T.1.1 → bs_N I ((j + 1) * 17 + (i + (2 * p + 1))) (bt_top (bt_al (ct_cc T B kd g pe) r (j + 1) (i + (2 * p + 1))))) (hq : ∀ J, bs_F (j * 17 + i) I J → mRk J → bs_C (bs_L (bs_nx (ct_cc T B kd g pe) r j i) bs_st) J (j * 17 + i) (bt_top (bt_al (ct_cc T B kd g pe) (r + 1) j i)) → Q none (mSH, J, L)) : mWP mTb_ mFT ro (d + 3, 55, 0, [some (.ref 10), some (.ref 6), some (.int (nI kd)), some (.int (nI j)), some (.int (nI i)), none, none], [], 0, 0, (mSH, I, L)) Q := by
  have s16 := hT.1
  have hV := ct_ccb (B := B) (kd := kd) hT hg
  have ne : ∀ p, i + (2 * p + 1) ≤ T.1.1 → (j + 1) * 17 + (i + (2 * p + 1)) ≠ j * 17 + i := fun p hp => by omega
  have o0 : bt_ok 0 bt_0 := bt_0ok
  have o1 := bt_cpk (j := j) (i := i) (p := 0) hV hr o0
  have o2 := bt_cpk (j := j) (i := i) (p := 1) hV hr o1
  refine mB 2 (s2 := (d + 3, 55, 3, [some (.ref 10), some (.ref 6), some (.int (nI kd)), some (.int (nI j)), some (.int (nI i)), some (.int 1), none], [], 0, 0, (mSH, I, L))) rfl ?_
  refine x_fc_6_0 hT hS hB0 hBo hJ hg hk hj hi hr hR o0 (bs_C0 h0) (hX 0) (fun J1 a1 F1 R1 C1 => ?_)
  refine x_fc_6_1 hT (hS.fr F1.m rfl rfl rfl rfl rfl) (hB0.fr F1.m rfl) hBo (hJ.fr F1.m rfl) hg hk hj hi hr R1 o1 C1 (fun hp => (hX 1 hp).fr F1 (ne 1 hp)) (fun J2 a2 F2 R2 C2 => ?_)
  have F12 := F1.tr F2
  refine x_fc_6_2 hT (hS.fr F12.m rfl rfl rfl rfl rfl) (hB0.fr F12.m rfl) hBo (hJ.fr F12.m rfl) hg hk hj hi hr R2 o2 C2 (fun hp => (hX 2 hp).fr F12 (ne 2 hp)) (fun J3 a3 F3 R3 C3 => ?_)
  refine x_fe_6 (hq J3 (F12.tr F3) R3 ?_)
  rw [bt_cell hV hr]
  exact C3
theorem x_fc_7_0 {ro : Nat → Nat × (Nat → Int32)} {Q : mPo} {d : Nat} {I : Nat → Nat → Int32} {L : Nat → Nat → Int64} {T : ct_S} {B : ct_B} {kd g pe j i r : Nat} {t : bt_T} {o6 : Option Value} (hT : ct_So T) (hS : cl_S T I) (hB0 : cl_B 7 B I) (hBo : ct_Bo B) (hJ : cl_J 9 g pe I) (hg : ct_Jo g pe) (hk : kd < 2 ^ 31) (hj : j < T.1.2.1) (hi : i < T.1.1) (hr : (r + 1) * bt_V < bt_U) (hR : mRk I) (ht : bt_ok 0 t) (hC : bs_C (bs_L (bs_nx (ct_cc T B kd g pe) r j i) bs_st) I (j * 17 + i) t) (hX : i + 1 ≤ T.1.1 → bs_N I ((j + 1) * 17 + (i + 1)) (bt_top (bt_al (ct_cc T B kd g pe) r (j + 1) (i + 1)))) (hq : ∀ (J : Nat → Nat → Int32) (o6 : Option Value), bs_F (j * 17 + i) I J → mRk J → bs_C (bs_L (bs_nx (ct_cc T B kd g pe) r j i) bs_st) J (j * 17 + i) (bt_cp (ct_cc T B kd g pe) r j i t 0) → mWP mTb_ mFT ro (d + 3, 55, 3, [some (.ref 10), some (.ref 7), some (.int (nI kd)), some (.int (nI j)), some (.int (nI i)), some (.int 3), o6], [], 0, 0, (mSH, J, L)) Q)   : mWP mTb_ mFT ro (d + 3, 55, 3, [some (.ref 10), some (.ref 7), some (.int (nI kd)), some (.int (nI j)), some (.int (nI i)), some (.int 1), o6], [], 0, 0, (mSH, I, L)) Q := by
  have s16 := hT.1
  have n8 := hT.2.1
  have hV := ct_ccb (B := B) (kd := kd) hT hg
  have hL : ¬ (ct_r (ct_c T B kd g pe j i 0)) = (-1) → i + 1 ≤ T.1.1 := fun z => by
    obtain ⟨v, hv⟩ := ct_rs z
    exact (ct_cb hT hg hj (by omega) hv).2
  refine mB 2 (s2 := (d + 3, 55, 6, [some (.ref 10), some (.ref 7), some (.int (nI kd)), some (.int (nI j)), some (.int (nI i)), some (.int 1), o6], [.int 5, .int 1], 0, 0, (mSH, I, L))) rfl ?_
  refine mBF (s3 := (d + 3, 55, 9, [some (.ref 10), some (.ref 7), some (.int (nI kd)), some (.int (nI j)), some (.int (nI i)), some (.int 1), o6], [], 0, 0, (mSH, I, L))) rfl (by decide) ?_
  refine mB 6 (s2 := (d + 3, 55, 17, [some (.ref 10), some (.ref 7), some (.int (nI kd)), some (.int (nI j)), some (.int (nI i)), some (.int 1), o6], [.int 1, .int (nI i), .int (nI j), .int (nI kd), .ref 7, .ref 10], 0, 0, (mSH, I, L))) rfl ?_
  refine mCall (s2 := (d + 2, 51, 0, [some (.ref 10), some (.ref 7), some (.int (nI kd)), some (.int (nI j)), some (.int (nI i)), some (.int 1), none, none], [], 0, 0, (mSH, I, L))) rfl ?_
  refine x_cost_7_0 hT hS hB0 hBo hJ hg hk hj (Nat.le_of_lt hi) ?_
  show mWP mTb_ mFT ro (d + 3, 55, 20, [some (.ref 10), some (.ref 7), some (.int (nI kd)), some (.int (nI j)), some (.int (nI i)), some (.int 1), o6], [.int (ct_r (ct_c T B kd g pe j i 0))], 0, 0, (mSH, I, L)) _
  refine mB 3 (s2 := (d + 3, 55, 25, [some (.ref 10), some (.ref 7), some (.int (nI kd)), some (.int (nI j)), some (.int (nI i)), some (.int 1), some (.int (ct_r (ct_c T B kd g pe j i 0)))], [.int (-1), .int (ct_r (ct_c T B kd g pe j i 0))], 0, 0, (mSH, I, L))) rfl ?_
  refine mBr (s2 := (d + 3, 55, 53, [some (.ref 10), some (.ref 7), some (.int (nI kd)), some (.int (nI j)), some (.int (nI i)), some (.int 1), some (.int (ct_r (ct_c T B kd g pe j i 0)))], [], 0, 0, (mSH, I, L))) (s3 := (d + 3, 55, 28, [some (.ref 10), some (.ref 7), some (.int (nI kd)), some (.int (nI j)), some (.int (nI i)), some (.int 1), some (.int (ct_r (ct_c T B kd g pe j i 0)))], [], 0, 0, (mSH, I, L))) rfl (fun c0 => ?_) (fun c0 => ?_)
  · refine mB 2 (s2 := (d + 3, 55, 3, [some (.ref 10), some (.ref 7), some (.int (nI kd)), some (.int (nI j)), some (.int (nI i)), some (.int 3), some (.int (ct_r (ct_c T B kd g pe j i 0)))], [], 0, 0, (mSH, I, L))) rfl ?_
    exact hq _ _ bs_F.rf hR (by rw [bt_cpn ((ct_cce hj (by omega)).trans (ct_rn (fun v hv => by have w := (ct_cb hT hg hj (by omega) hv).1; omega) (of_decide_eq_true c0)))]; exact hC)
  · refine mB 3 (s2 := (d + 3, 55, 32, [some (.ref 10), some (.ref 7), some (.int (nI kd)), some (.int (nI j)), some (.int (nI i)), some (.int 1), some (.int (ct_r (ct_c T B kd g pe j i 0)))], [.int (nI i), .int (nI j), .ref 10], 0, 0, (mSH, I, L))) rfl ?_
    refine mCall (s2 := (d + 2, 59, 0, [some (.int (nI j)), some (.int (nI i)), none], [], 0, 0, (mSH, I, L))) rfl ?_
    refine x_cell (a := j) (b := i) rfl rfl (by omega) (by omega) ?_
    show mWP mTb_ mFT ro (d + 3, 55, 35, [some (.ref 10), some (.ref 7), some (.int (nI kd)), some (.int (nI j)), some (.int (nI i)), some (.int 1), some (.int (ct_r (ct_c T B kd g pe j i 0)))], [.int (nI (j * 17 + i)), .ref 10], 0, 0, (mSH, I, L)) _
    refine mB 6 (s2 := (d + 3, 55, 43, [some (.ref 10), some (.ref 7), some (.int (nI kd)), some (.int (nI j)), some (.int (nI i)), some (.int 1), some (.int (ct_r (ct_c T B kd g pe j i 0)))], [.int ((nI i) + 1), .int ((nI j) + 1), .int (nI (j * 17 + i)), .ref 10], 0, 0, (mSH, I, L))) rfl ?_
    refine mCall (s2 := (d + 2, 59, 0, [some (.int ((nI j) + 1)), some (.int ((nI i) + 1)), none], [], 0, 0, (mSH, I, L))) rfl ?_
    refine x_cell (a := (j + 1)) (b := (i + 1)) (nI_add j 1) (nI_add i 1) (by omega) (by have z := hL (of_decide_eq_false c0); omega) ?_
    show mWP mTb_ mFT ro (d + 3, 55, 46, [some (.ref 10), some (.ref 7), some (.int (nI kd)), some (.int (nI j)), some (.int (nI i)), some (.int 1), some (.int (ct_r (ct_c T B kd g pe j i 0)))], [.int (nI ((j + 1) * 17 + (i + 1))), .int (nI (j * 17 + i)), .ref 10], 0, 0, (mSH, I, L)) _
    refine mB 2 (s2 := (d + 3, 55, 50, [some (.ref 10), some (.ref 7), some (.int (nI kd)), some (.int (nI j)), some (.int (nI i)), some (.int 1), some (.int (ct_r (ct_c T B kd g pe j i 0)))], [.int (ct_r (ct_c T B kd g pe j i 0)), .int 1, .int (nI ((j + 1) * 17 + (i + 1))), .int (nI (j * 17 + i)), .ref 10], 0, 0, (mSH, I, L))) rfl ?_
    refine mCall (s2 := (d + 2, 56, 0, [some (.ref 10), some (.int (nI (j * 17 + i))), some (.int (nI ((j + 1) * 17 + (i + 1)))), some (.int 1), some (.int (ct_r (ct_c T B kd g pe j i 0))), none], [], 0, 0, (mSH, I, L))) rfl ?_
    (obtain ⟨v, hv⟩ := ct_rs (of_decide_eq_false c0)); have hv2 := (ct_cce hj (by omega)).trans hv; have hL1 := (ct_ccs hT hg hv2).1; refine x_joinN (v := v) (f := bt_pre 0 v) (u := bt_top (bt_al (ct_cc T B kd g pe) r (j + 1) (i + 1))) hR (by omega) (by omega) (by omega) (fun y => rfl) (ct_rv hv) (bt_uok hV hr (hV _ _ _ _ hv2)) ht.le1 ht.le2 hC (hX hL1) (fun h => ⟨0, _, rfl, rfl, Or.inl ⟨rfl, h, rfl⟩⟩) (fun h => ⟨0, _, rfl, rfl, Or.inr ⟨rfl, h, rfl⟩⟩) (fun K1 f1 r1 p1 => ?_)
    show mWP mTb_ mFT ro (d + 3, 55, 53, [some (.ref 10), some (.ref 7), some (.int (nI kd)), some (.int (nI j)), some (.int (nI i)), some (.int 1), some (.int (ct_r (ct_c T B kd g pe j i 0)))], [], 0, 0, (mSH, K1, L)) _
    refine mB 2 (s2 := (d + 3, 55, 3, [some (.ref 10), some (.ref 7), some (.int (nI kd)), some (.int (nI j)), some (.int (nI i)), some (.int 3), some (.int (ct_r (ct_c T B kd g pe j i 0)))], [], 0, 0, (mSH, K1, L))) rfl ?_
    exact hq _ _ f1 r1 (by rw [bt_cps hv2]; exact p1)
theorem x_fc_7_1 {ro : Nat → Nat × (Nat → Int32)} {Q : mPo} {d : Nat} {I : Nat → Nat → Int32} {L : Nat → Nat → Int64} {T : ct_S} {B : ct_B} {kd g pe j i r : Nat} {t : bt_T} {o6 : Option Value} (hT : ct_So T) (hS : cl_S T I) (hB0 : cl_B 7 B I) (hBo : ct_Bo B) (hJ : cl_J 9 g pe I) (hg : ct_Jo g pe) (hk : kd < 2 ^ 31) (hj : j < T.1.2.1) (hi : i < T.1.1) (hr : (r + 1) * bt_V < bt_U) (hR : mRk I) (ht : bt_ok 0 t) (hC : bs_C (bs_L (bs_nx (ct_cc T B kd g pe) r j i) bs_st) I (j * 17 + i) t) (hX : i + 3 ≤ T.1.1 → bs_N I ((j + 1) * 17 + (i + 3)) (bt_top (bt_al (ct_cc T B kd g pe) r (j + 1) (i + 3)))) (hq : ∀ (J : Nat → Nat → Int32) (o6 : Option Value), bs_F (j * 17 + i) I J → mRk J → bs_C (bs_L (bs_nx (ct_cc T B kd g pe) r j i) bs_st) J (j * 17 + i) (bt_cp (ct_cc T B kd g pe) r j i t 1) → mWP mTb_ mFT ro (d + 3, 55, 3, [some (.ref 10), some (.ref 7), some (.int (nI kd)), some (.int (nI j)), some (.int (nI i)), some (.int 5), o6], [], 0, 0, (mSH, J, L)) Q)   : mWP mTb_ mFT ro (d + 3, 55, 3, [some (.ref 10), some (.ref 7), some (.int (nI kd)), some (.int (nI j)), some (.int (nI i)), some (.int 3), o6], [], 0, 0, (mSH, I, L)) Q := by
  have s16 := hT.1
  have n8 := hT.2.1
  have hV := ct_ccb (B := B) (kd := kd) hT hg
  have hL : ¬ (ct_r (ct_c T B kd g pe j i 1)) = (-1) → i + 3 ≤ T.1.1 := fun z => by
    obtain ⟨v, hv⟩ := ct_rs z
    exact (ct_cb hT hg hj (by omega) hv).2
  refine mB 2 (s2 := (d + 3, 55, 6, [some (.ref 10), some (.ref 7), some (.int (nI kd)), some (.int (nI j)), some (.int (nI i)), some (.int 3), o6], [.int 5, .int 3], 0, 0, (mSH, I, L))) rfl ?_
  refine mBF (s3 := (d + 3, 55, 9, [some (.ref 10), some (.ref 7), some (.int (nI kd)), some (.int (nI j)), some (.int (nI i)), some (.int 3), o6], [], 0, 0, (mSH, I, L))) rfl (by decide) ?_
  refine mB 6 (s2 := (d + 3, 55, 17, [some (.ref 10), some (.ref 7), some (.int (nI kd)), some (.int (nI j)), some (.int (nI i)), some (.int 3), o6], [.int 3, .int (nI i), .int (nI j), .int (nI kd), .ref 7, .ref 10], 0, 0, (mSH, I, L))) rfl ?_
  refine mCall (s2 := (d + 2, 51, 0, [some (.ref 10), some (.ref 7), some (.int (nI kd)), some (.int (nI j)), some (.int (nI i)), some (.int 3), none, none], [], 0, 0, (mSH, I, L))) rfl ?_
  refine x_cost_7_1 hT hS hB0 hBo hJ hg hk hj (Nat.le_of_lt hi) ?_
  show mWP mTb_ mFT ro (d + 3, 55, 20, [some (.ref 10), some (.ref 7), some (.int (nI kd)), some (.int (nI j)), some (.int (nI i)), some (.int 3), o6], [.int (ct_r (ct_c T B kd g pe j i 1))], 0, 0, (mSH, I, L)) _
  refine mB 3 (s2 := (d + 3, 55, 25, [some (.ref 10), some (.ref 7), some (.int (nI kd)), some (.int (nI j)), some (.int (nI i)), some (.int 3), some (.int (ct_r (ct_c T B kd g pe j i 1)))], [.int (-1), .int (ct_r (ct_c T B kd g pe j i 1))], 0, 0, (mSH, I, L))) rfl ?_
  refine mBr (s2 := (d + 3, 55, 53, [some (.ref 10), some (.ref 7), some (.int (nI kd)), some (.int (nI j)), some (.int (nI i)), some (.int 3), some (.int (ct_r (ct_c T B kd g pe j i 1)))], [], 0, 0, (mSH, I, L))) (s3 := (d + 3, 55, 28, [some (.ref 10), some (.ref 7), some (.int (nI kd)), some (.int (nI j)), some (.int (nI i)), some (.int 3), some (.int (ct_r (ct_c T B kd g pe j i 1)))], [], 0, 0, (mSH, I, L))) rfl (fun c0 => ?_) (fun c0 => ?_)
  · refine mB 2 (s2 := (d + 3, 55, 3, [some (.ref 10), some (.ref 7), some (.int (nI kd)), some (.int (nI j)), some (.int (nI i)), some (.int 5), some (.int (ct_r (ct_c T B kd g pe j i 1)))], [], 0, 0, (mSH, I, L))) rfl ?_
    exact hq _ _ bs_F.rf hR (by rw [bt_cpn ((ct_cce hj (by omega)).trans (ct_rn (fun v hv => by have w := (ct_cb hT hg hj (by omega) hv).1; omega) (of_decide_eq_true c0)))]; exact hC)
  · refine mB 3 (s2 := (d + 3, 55, 32, [some (.ref 10), some (.ref 7), some (.int (nI kd)), some (.int (nI j)), some (.int (nI i)), some (.int 3), some (.int (ct_r (ct_c T B kd g pe j i 1)))], [.int (nI i), .int (nI j), .ref 10], 0, 0, (mSH, I, L))) rfl ?_
    refine mCall (s2 := (d + 2, 59, 0, [some (.int (nI j)), some (.int (nI i)), none], [], 0, 0, (mSH, I, L))) rfl ?_
    refine x_cell (a := j) (b := i) rfl rfl (by omega) (by omega) ?_
    show mWP mTb_ mFT ro (d + 3, 55, 35, [some (.ref 10), some (.ref 7), some (.int (nI kd)), some (.int (nI j)), some (.int (nI i)), some (.int 3), some (.int (ct_r (ct_c T B kd g pe j i 1)))], [.int (nI (j * 17 + i)), .ref 10], 0, 0, (mSH, I, L)) _
    refine mB 6 (s2 := (d + 3, 55, 43, [some (.ref 10), some (.ref 7), some (.int (nI kd)), some (.int (nI j)), some (.int (nI i)), some (.int 3), some (.int (ct_r (ct_c T B kd g pe j i 1)))], [.int ((nI i) + 3), .int ((nI j) + 1), .int (nI (j * 17 + i)), .ref 10], 0, 0, (mSH, I, L))) rfl ?_
    refine mCall (s2 := (d + 2, 59, 0, [some (.int ((nI j) + 1)), some (.int ((nI i) + 3)), none], [], 0, 0, (mSH, I, L))) rfl ?_
    refine x_cell (a := (j + 1)) (b := (i + 3)) (nI_add j 1) (nI_add i 3) (by omega) (by have z := hL (of_decide_eq_false c0); omega) ?_
    show mWP mTb_ mFT ro (d + 3, 55, 46, [some (.ref 10), some (.ref 7), some (.int (nI kd)), some (.int (nI j)), some (.int (nI i)), some (.int 3), some (.int (ct_r (ct_c T B kd g pe j i 1)))], [.int (nI ((j + 1) * 17 + (i + 3))), .int (nI (j * 17 + i)), .ref 10], 0, 0, (mSH, I, L)) _
    refine mB 2 (s2 := (d + 3, 55, 50, [some (.ref 10), some (.ref 7), some (.int (nI kd)), some (.int (nI j)), some (.int (nI i)), some (.int 3), some (.int (ct_r (ct_c T B kd g pe j i 1)))], [.int (ct_r (ct_c T B kd g pe j i 1)), .int 3, .int (nI ((j + 1) * 17 + (i + 3))), .int (nI (j * 17 + i)), .ref 10], 0, 0, (mSH, I, L))) rfl ?_
    refine mCall (s2 := (d + 2, 56, 0, [some (.ref 10), some (.int (nI (j * 17 + i))), some (.int (nI ((j + 1) * 17 + (i + 3)))), some (.int 3), some (.int (ct_r (ct_c T B kd g pe j i 1))), none], [], 0, 0, (mSH, I, L))) rfl ?_
    (obtain ⟨v, hv⟩ := ct_rs (of_decide_eq_false c0)); have hv2 := (ct_cce hj (by omega)).trans hv; have hL1 := (ct_ccs hT hg hv2).1; refine x_joinN (v := v) (f := bt_pre 1 v) (u := bt_top (bt_al (ct_cc T B kd g pe) r (j + 1) (i + 3))) hR (by omega) (by omega) (by omega) (fun y => rfl) (ct_rv hv) (bt_uok hV hr (hV _ _ _ _ hv2)) ht.le1 ht.le2 hC (hX hL1) (fun h => ⟨1, _, rfl, rfl, Or.inl ⟨rfl, h, rfl⟩⟩) (fun h => ⟨1, _, rfl, rfl, Or.inr ⟨rfl, h, rfl⟩⟩) (fun K1 f1 r1 p1 => ?_)
    show mWP mTb_ mFT ro (d + 3, 55, 53, [some (.ref 10), some (.ref 7), some (.int (nI kd)), some (.int (nI j)), some (.int (nI i)), some (.int 3), some (.int (ct_r (ct_c T B kd g pe j i 1)))], [], 0, 0, (mSH, K1, L)) _
    refine mB 2 (s2 := (d + 3, 55, 3, [some (.ref 10), some (.ref 7), some (.int (nI kd)), some (.int (nI j)), some (.int (nI i)), some (.int 5), some (.int (ct_r (ct_c T B kd g pe j i 1)))], [], 0, 0, (mSH, K1, L))) rfl ?_
    exact hq _ _ f1 r1 (by rw [bt_cps hv2]; exact p1)
theorem x_fc_7_2 {ro : Nat → Nat × (Nat → Int32)} {Q : mPo} {d : Nat} {I : Nat → Nat → Int32} {L : Nat → Nat → Int64} {T : ct_S} {B : ct_B} {kd g pe j i r : Nat} {t : bt_T} {o6 : Option Value} (hT : ct_So T) (hS : cl_S T I) (hB0 : cl_B 7 B I) (hBo : ct_Bo B) (hJ : cl_J 9 g pe I) (hg : ct_Jo g pe) (hk : kd < 2 ^ 31) (hj : j < T.1.2.1) (hi : i < T.1.1) (hr : (r + 1) * bt_V < bt_U) (hR : mRk I) (ht : bt_ok 0 t) (hC : bs_C (bs_L (bs_nx (ct_cc T B kd g pe) r j i) bs_st) I (j * 17 + i) t) (hX : i + 5 ≤ T.1.1 → bs_N I ((j + 1) * 17 + (i + 5)) (bt_top (bt_al (ct_cc T B kd g pe) r (j + 1) (i + 5)))) (hq : ∀ (J : Nat → Nat → Int32) (o6 : Option Value), bs_F (j * 17 + i) I J → mRk J → bs_C (bs_L (bs_nx (ct_cc T B kd g pe) r j i) bs_st) J (j * 17 + i) (bt_cp (ct_cc T B kd g pe) r j i t 2) → mWP mTb_ mFT ro (d + 3, 55, 3, [some (.ref 10), some (.ref 7), some (.int (nI kd)), some (.int (nI j)), some (.int (nI i)), some (.int 7), o6], [], 0, 0, (mSH, J, L)) Q)   : mWP mTb_ mFT ro (d + 3, 55, 3, [some (.ref 10), some (.ref 7), some (.int (nI kd)), some (.int (nI j)), some (.int (nI i)), some (.int 5), o6], [], 0, 0, (mSH, I, L)) Q := by
  have s16 := hT.1
  have n8 := hT.2.1
  have hV := ct_ccb (B := B) (kd := kd) hT hg
  have hL : ¬ (ct_r (ct_c T B kd g pe j i 2)) = (-1) → i + 5 ≤ T.1.1 := fun z => by
    obtain ⟨v, hv⟩ := ct_rs z
    exact (ct_cb hT hg hj (by omega) hv).2
  refine mB 2 (s2 := (d + 3, 55, 6, [some (.ref 10), some (.ref 7), some (.int (nI kd)), some (.int (nI j)), some (.int (nI i)), some (.int 5), o6], [.int 5, .int 5], 0, 0, (mSH, I, L))) rfl ?_
  refine mBF (s3 := (d + 3, 55, 9, [some (.ref 10), some (.ref 7), some (.int (nI kd)), some (.int (nI j)), some (.int (nI i)), some (.int 5), o6], [], 0, 0, (mSH, I, L))) rfl (by decide) ?_
  refine mB 6 (s2 := (d + 3, 55, 17, [some (.ref 10), some (.ref 7), some (.int (nI kd)), some (.int (nI j)), some (.int (nI i)), some (.int 5), o6], [.int 5, .int (nI i), .int (nI j), .int (nI kd), .ref 7, .ref 10], 0, 0, (mSH, I, L))) rfl ?_
  refine mCall (s2 := (d + 2, 51, 0, [some (.ref 10), some (.ref 7), some (.int (nI kd)), some (.int (nI j)), some (.int (nI i)), some (.int 5), none, none], [], 0, 0, (mSH, I, L))) rfl ?_
  refine x_cost_7_2 hT hS hB0 hBo hJ hg hk hj (Nat.le_of_lt hi) ?_
  show mWP mTb_ mFT ro (d + 3, 55, 20, [some (.ref 10), some (.ref 7), some (.int (nI kd)), some (.int (nI j)), some (.int (nI i)), some (.int 5), o6], [.int (ct_r (ct_c T B kd g pe j i 2))], 0, 0, (mSH, I, L)) _
  refine mB 3 (s2 := (d + 3, 55, 25, [some (.ref 10), some (.ref 7), some (.int (nI kd)), some (.int (nI j)), some (.int (nI i)), some (.int 5), some (.int (ct_r (ct_c T B kd g pe j i 2)))], [.int (-1), .int (ct_r (ct_c T B kd g pe j i 2))], 0, 0, (mSH, I, L))) rfl ?_
  refine mBr (s2 := (d + 3, 55, 53, [some (.ref 10), some (.ref 7), some (.int (nI kd)), some (.int (nI j)), some (.int (nI i)), some (.int 5), some (.int (ct_r (ct_c T B kd g pe j i 2)))], [], 0, 0, (mSH, I, L))) (s3 := (d + 3, 55, 28, [some (.ref 10), some (.ref 7), some (.int (nI kd)), some (.int (nI j)), some (.int (nI i)), some (.int 5), some (.int (ct_r (ct_c T B kd g pe j i 2)))], [], 0, 0, (mSH, I, L))) rfl (fun c0 => ?_) (fun c0 => ?_)
  · refine mB 2 (s2 := (d + 3, 55, 3, [some (.ref 10), some (.ref 7), some (.int (nI kd)), some (.int (nI j)), some (.int (nI i)), some (.int 7), some (.int (ct_r (ct_c T B kd g pe j i 2)))], [], 0, 0, (mSH, I, L))) rfl ?_
    exact hq _ _ bs_F.rf hR (by rw [bt_cpn ((ct_cce hj (by omega)).trans (ct_rn (fun v hv => by have w := (ct_cb hT hg hj (by omega) hv).1; omega) (of_decide_eq_true c0)))]; exact hC)
  · refine mB 3 (s2 := (d + 3, 55, 32, [some (.ref 10), some (.ref 7), some (.int (nI kd)), some (.int (nI j)), some (.int (nI i)), some (.int 5), some (.int (ct_r (ct_c T B kd g pe j i 2)))], [.int (nI i), .int (nI j), .ref 10], 0, 0, (mSH, I, L))) rfl ?_
    refine mCall (s2 := (d + 2, 59, 0, [some (.int (nI j)), some (.int (nI i)), none], [], 0, 0, (mSH, I, L))) rfl ?_
    refine x_cell (a := j) (b := i) rfl rfl (by omega) (by omega) ?_
    show mWP mTb_ mFT ro (d + 3, 55, 35, [some (.ref 10), some (.ref 7), some (.int (nI kd)), some (.int (nI j)), some (.int (nI i)), some (.int 5), some (.int (ct_r (ct_c T B kd g pe j i 2)))], [.int (nI (j * 17 + i)), .ref 10], 0, 0, (mSH, I, L)) _
    refine mB 6 (s2 := (d + 3, 55, 43, [some (.ref 10), some (.ref 7), some (.int (nI kd)), some (.int (nI j)), some (.int (nI i)), some (.int 5), some (.int (ct_r (ct_c T B kd g pe j i 2)))], [.int ((nI i) + 5), .int ((nI j) + 1), .int (nI (j * 17 + i)), .ref 10], 0, 0, (mSH, I, L))) rfl ?_
    refine mCall (s2 := (d + 2, 59, 0, [some (.int ((nI j) + 1)), some (.int ((nI i) + 5)), none], [], 0, 0, (mSH, I, L))) rfl ?_
    refine x_cell (a := (j + 1)) (b := (i + 5)) (nI_add j 1) (nI_add i 5) (by omega) (by have z := hL (of_decide_eq_false c0); omega) ?_
    show mWP mTb_ mFT ro (d + 3, 55, 46, [some (.ref 10), some (.ref 7), some (.int (nI kd)), some (.int (nI j)), some (.int (nI i)), some (.int 5), some (.int (ct_r (ct_c T B kd g pe j i 2)))], [.int (nI ((j + 1) * 17 + (i + 5))), .int (nI (j * 17 + i)), .ref 10], 0, 0, (mSH, I, L)) _
    refine mB 2 (s2 := (d + 3, 55, 50, [some (.ref 10), some (.ref 7), some (.int (nI kd)), some (.int (nI j)), some (.int (nI i)), some (.int 5), some (.int (ct_r (ct_c T B kd g pe j i 2)))], [.int (ct_r (ct_c T B kd g pe j i 2)), .int 5, .int (nI ((j + 1) * 17 + (i + 5))), .int (nI (j * 17 + i)), .ref 10], 0, 0, (mSH, I, L))) rfl ?_
    refine mCall (s2 := (d + 2, 56, 0, [some (.ref 10), some (.int (nI (j * 17 + i))), some (.int (nI ((j + 1) * 17 + (i + 5)))), some (.int 5), some (.int (ct_r (ct_c T B kd g pe j i 2))), none], [], 0, 0, (mSH, I, L))) rfl ?_
    (obtain ⟨v, hv⟩ := ct_rs (of_decide_eq_false c0)); have hv2 := (ct_cce hj (by omega)).trans hv; have hL1 := (ct_ccs hT hg hv2).1; refine x_joinN (v := v) (f := bt_pre 2 v) (u := bt_top (bt_al (ct_cc T B kd g pe) r (j + 1) (i + 5))) hR (by omega) (by omega) (by omega) (fun y => rfl) (ct_rv hv) (bt_uok hV hr (hV _ _ _ _ hv2)) ht.le1 ht.le2 hC (hX hL1) (fun h => ⟨2, _, rfl, rfl, Or.inl ⟨rfl, h, rfl⟩⟩) (fun h => ⟨2, _, rfl, rfl, Or.inr ⟨rfl, h, rfl⟩⟩) (fun K1 f1 r1 p1 => ?_)
    show mWP mTb_ mFT ro (d + 3, 55, 53, [some (.ref 10), some (.ref 7), some (.int (nI kd)), some (.int (nI j)), some (.int (nI i)), some (.int 5), some (.int (ct_r (ct_c T B kd g pe j i 2)))], [], 0, 0, (mSH, K1, L)) _
    refine mB 2 (s2 := (d + 3, 55, 3, [some (.ref 10), some (.ref 7), some (.int (nI kd)), some (.int (nI j)), some (.int (nI i)), some (.int 7), some (.int (ct_r (ct_c T B kd g pe j i 2)))], [], 0, 0, (mSH, K1, L))) rfl ?_
    exact hq _ _ f1 r1 (by rw [bt_cps hv2]; exact p1)
theorem x_fe_7 {ro : Nat → Nat × (Nat → Int32)} {Q : mPo} {d : Nat} {I : Nat → Nat → Int32} {L : Nat → Nat → Int64} {v0 v1 v2 : Int32} {o6 : Option Value} (hq : Q none (mSH, I, L))   : mWP mTb_ mFT ro (d + 3, 55, 3, [some (.ref 10), some (.ref 7), some (.int v0), some (.int v1), some (.int v2), some (.int 7), o6], [], 0, 0, (mSH, I, L)) Q := by
  refine mB 2 (s2 := (d + 3, 55, 6, [some (.ref 10), some (.ref 7), some (.int v0), some (.int v1), some (.int v2), some (.int 7), o6], [.int 5, .int 7], 0, 0, (mSH, I, L))) rfl ?_
  refine mBT (s2 := (d + 3, 55, 59, [some (.ref 10), some (.ref 7), some (.int v0), some (.int v1), some (.int v2), some (.int 7), o6], [], 0, 0, (mSH, I, L))) rfl (by decide) ?_
  refine mRt (r := none) (h := (mSH, I, L)) rfl rfl ?_
  exact hq
theorem x_fcell_7 {ro : Nat → Nat × (Nat → Int32)} {Q : mPo} {d : Nat} {I : Nat → Nat → Int32} {L : Nat → Nat → Int64} {T : ct_S} {B : ct_B} {kd g pe j i r : Nat} (hT : ct_So T) (hS : cl_S T I) (hB0 : cl_B 7 B I) (hBo : ct_Bo B) (hJ : cl_J 9 g pe I) (hg : ct_Jo g pe) (hk : kd < 2 ^ 31) (hj : j < T.1.2.1) (hi : i < T.1.1) (hr : (r + 1) * bt_V < bt_U) (hR : mRk I) (h0 : bs_N I (j * 17 + i) bt_0) (hX : ∀ p, i + (2 * p + 1) ≤ T.1.1 → bs_N I ((j + 1) * 17 + (i + (2 * p + 1))) (bt_top (bt_al (ct_cc T B kd g pe) r (j + 1) (i + (2 * p + 1))))) (hq : ∀ J, bs_F (j * 17 + i) I J → mRk J → bs_C (bs_L (bs_nx (ct_cc T B kd g pe) r j i) bs_st) J (j * 17 + i) (bt_top (bt_al (ct_cc T B kd g pe) (r + 1) j i)) → Q none (mSH, J, L)) : mWP mTb_ mFT ro (d + 3, 55, 0, [some (.ref 10), some (.ref 7), some (.int (nI kd)), some (.int (nI j)), some (.int (nI i)), none, none], [], 0, 0, (mSH, I, L)) Q := by
  have s16 := hT.1
  have hV := ct_ccb (B := B) (kd := kd) hT hg
  have ne : ∀ p, i + (2 * p + 1) ≤ T.1.1 → (j + 1) * 17 + (i + (2 * p + 1)) ≠ j * 17 + i := fun p hp => by omega
  have o0 : bt_ok 0 bt_0 := bt_0ok
  have o1 := bt_cpk (j := j) (i := i) (p := 0) hV hr o0
  have o2 := bt_cpk (j := j) (i := i) (p := 1) hV hr o1
  refine mB 2 (s2 := (d + 3, 55, 3, [some (.ref 10), some (.ref 7), some (.int (nI kd)), some (.int (nI j)), some (.int (nI i)), some (.int 1), none], [], 0, 0, (mSH, I, L))) rfl ?_
  refine x_fc_7_0 hT hS hB0 hBo hJ hg hk hj hi hr hR o0 (bs_C0 h0) (hX 0) (fun J1 a1 F1 R1 C1 => ?_)
  refine x_fc_7_1 hT (hS.fr F1.m rfl rfl rfl rfl rfl) (hB0.fr F1.m rfl) hBo (hJ.fr F1.m rfl) hg hk hj hi hr R1 o1 C1 (fun hp => (hX 1 hp).fr F1 (ne 1 hp)) (fun J2 a2 F2 R2 C2 => ?_)
  have F12 := F1.tr F2
  refine x_fc_7_2 hT (hS.fr F12.m rfl rfl rfl rfl rfl) (hB0.fr F12.m rfl) hBo (hJ.fr F12.m rfl) hg hk hj hi hr R2 o2 C2 (fun hp => (hX 2 hp).fr F12 (ne 2 hp)) (fun J3 a3 F3 R3 C3 => ?_)
  refine x_fe_7 (hq J3 (F12.tr F3) R3 ?_)
  rw [bt_cell hV hr]
  exact C3
