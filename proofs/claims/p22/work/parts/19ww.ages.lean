/-! The reference's answers of ages, exactly. Written by a program (wip/mk_c.py). -/
/-- THE FRACTION of the reference -/
def mF (o : Option (Nat × Nat)) (L L1 : Nat → Nat → Int64) : Prop := match o with
  | none => L1 = L
  | some (a, b) => L1 34 7 = lN (fr_a a b) ∧ L1 34 8 = lN (fr_b a b)
theorem mF_n {o : Option (Nat × Nat)} {L : Nat → Nat → Int64} (h : o = none) : mF o L L := by
  rw [h]
  exact rfl
theorem mF_y {o : Option (Nat × Nat)} {a b : Nat} {L : Nat → Nat → Int64} (h : o = some (a, b)) : mF o L (mUpL (mUpL L 34 7 (lN (fr_a a b))) 34 8 (lN (fr_b a b))) := by
  rw [h]
  exact ⟨rfl, rfl⟩
/-- the reference holds the match e -/
def cm_M (n : Nat) (e : bt_E) (I : Nat → Nat → Int32) : Prop := I 46 1 = nI (e.2.headD 0) ∧ ∀ k, k < n → I 46 (2 + k) = nI (bt_bl e.2.tail k)
theorem cm_M.of {n : Nat} {e : bt_E} {I : Nat → Nat → Int32} (h : bm_P n 0 I e) (lt : e.1 < bt_U) : cm_M n e I := by
  obtain ⟨_, f, ps, e1, e2, _, e4⟩ := h.2 lt
  unfold cm_M
  rw [e1]
  exact ⟨e2, fun k hk => (by have z := e4 k hk; rw [Nat.zero_add] at z; exact z)⟩
theorem mLs_e {I : Nat → Nat → Int32} {T : ct_S} (h : cm_S T I) : ∀ m, m ≤ T.1.2.1 → mLs I m = nI (an_D T m)
  | 0, _ => rfl
  | m + 1, hm => by
    show mLs I m + I 36 m = _
    rw [mLs_e h m (by omega), h.2.2.2.2 m (by omega), nI_add, an_D1]
theorem x_deep {ro : Nat → Nat × (Nat → Int32)} {Q : mPo} {d : Nat} {I : Nat → Nat → Int32} {L : Nat → Nat → Int64} {T : ct_S} (hT : ct_So T) (hS : cm_S T I) (hq : Q (some (.int (nI (an_D T T.1.2.1)))) (mSH, I, L)) : mWP mTb_ mFT ro (d, 142, 0, [some (.ref 34), none, none], [], 0, 0, (mSH, I, L)) Q :=
  mB 4 (s2 := (d, 142, 4, [some (.ref 34), some (.int (mLs I 0)), some (.int (nI 0))], [], 0, 0, (mSH, I, L))) rfl (l_deep hT.2.1 hS.2.1 (by rw [mLs_e hS _ (Nat.le_refl _)]; exact hq) T.1.2.1 0 (by omega))
section MW
variable {ro : Nat → Nat × (Nat → Int32)} {Q : mPo} {d : Nat} {I : Nat → Nat → Int32} {L : Nat → Nat → Int64} {T : ct_S} {e : bt_E} {j i m x : Nat} {v0 : Int32}
theorem x_myr (hT : ct_So T) (hS : cm_S T I) (h : i + m ≤ T.1.1) (hq : Q (some (.int (nI (ct_ys T.2.1 i m)))) (mSH, I, L)) : mWP mTb_ mFT ro (d, 124, 0, [some (.ref 34), some (.int (nI (i))), some (.int (nI (m))), none, none], [], 0, 0, (mSH, I, L)) Q := by
  have := hT.1
  refine w_my (by omega) ?_
  rw [mYs_e hS m h]
  exact hq
theorem xm_ag3 (hT : ct_So T) (hS : cm_S T I) (hM : cm_M T.1.2.1 e I) (hv : bt_vl T.1.1 T.1.2.1 e.2) (e0 : v0 = nI x) (hx : x ≤ 7992) (hj : j < T.1.2.1) (hd : an_D T j ≤ x) {o6 : Option Value} (hq : Q (some (.int 1)) (mSH, I, mUpL (mUpL L 34 7 (lN (fr_a (an_ag T e x (j)).1 (an_ag T e x (j)).2))) 34 8 (lN (fr_b (an_ag T e x (j)).1 (an_ag T e x (j)).2)))) : mWP mTb_ mFT ro (d + 1, 143, 114, [some (.ref 34), some (.int v0), some (.int (nI (an_p e j))), some (.int (nI (an_A T e j))), some (.int (nI (an_D T j))), some (.int (nI j)), o6], [], 0, 0, (mSH, I, L)) Q := by
  have n8 := hT.2.1
  have e22 : ∀ k, (2 : Int32) + nI k = nI (2 + k) := fun k => nI_add 2 k
  have c22 : ∀ k, k < 8 → ((2 : Int32) + nI k).toNatClampNeg = 2 + k := fun k hk => by rw [e22, nI_clamp (by omega)]
  have v22 : ∀ k, k < 8 → vp_in ((2 : Int32) + nI k) 20 := fun k hk => by rw [e22]; exact vp_in_nI (by omega) (by omega)
  have v8 : ∀ k, k < 8 → vp_in (nI k) 8 := fun k hk => vp_in_nI (by omega) (by omega)
  have c8 : ∀ k, k < 8 → (nI k).toNatClampNeg = k := fun k hk => nI_clamp (by omega)
  have yb := (an_Yb hT hv hj).2
  have pb := (an_Yb hT hv hj).1
  have ab := (an_Ab hT hv (Nat.le_of_lt hj)).2
  have db := an_Db hT j (Nat.le_of_lt hj)
  have lb := hT.2.2.2.2 j hj
  have m1 : an_A T e j * T.2.2 j ≤ 1584 * 999 := Nat.mul_le_mul ab lb.2
  have m2 : (x - an_D T j) * an_Y T e j ≤ 7992 * 1584 := Nat.mul_le_mul (by omega) yb.2
  have m3 : an_D T j * an_Y T e j ≤ 7992 * 1584 := Nat.mul_le_mul (by omega) yb.2
  have m4 : (x - an_A T e j) * T.2.2 j ≤ 7992 * 999 := Nat.mul_le_mul (by omega) lb.2
  refine s_ag3 (v22 j (by omega)) ?_
  rw [c22 j (by omega), hM.2 j hj]
  refine mCall (s2 := (d, 124, 0, [some (.ref 34), some (.int (nI (an_p e j))), some (.int (nI (bt_bl e.2.tail j))), none, none], [], 0, 0, (mSH, I, L))) rfl ?_
  refine x_myr hT hS pb ?_
  show mWP mTb_ mFT ro (d + 1, 143, 128, [some (.ref 34), some (.int v0), some (.int (nI (an_p e j))), some (.int (nI (an_A T e j))), some (.int (nI (an_D T j))), some (.int (nI j)), o6], [.int (nI (ct_ys T.2.1 (an_p e j) (bt_bl e.2.tail j)))], 0, 0, (mSH, I, L)) _
  refine s_ag4 (v8 j (by omega)) (v8 j (by omega)) ?_
  rw [c8 j (by omega), hS.2.2.2.2 j hj, e0, pk_sub hd, nI_l (by omega), nI_l (by omega), nI_l (by omega), nI_l (show ct_ys T.2.1 (an_p e j) (bt_bl e.2.tail j) < 2 ^ 31 from (by have z : ct_ys T.2.1 (an_p e j) (bt_bl e.2.tail j) ≤ 1584 := yb.2; omega)), lN_mul, lN_mul, lN_add]
  refine mCall (s2 := (d, 141, 0, [some (.ref 34), some (.long (lN (an_ag T e x j).1)), none, some (.long (lN (an_ag T e x j).2)), none, none, none, none, none, none, none], [], 0, 0, (mSH, I, L))) rfl ?_
  refine x_bec (a := (an_ag T e x (j)).1) (b := (an_ag T e x (j)).2) rfl rfl (by show an_A T e j * T.2.2 j + (x - an_D T j) * an_Y T e j < _; omega) (by show T.2.2 j < _; omega) lb.1 ?_
  exact mRt (r := some (.int 1)) rfl (mRet_int rfl) hq
theorem xm_agl (hT : ct_So T) (hS : cm_S T I) (hM : cm_M T.1.2.1 e I) (hv : bt_vl T.1.1 T.1.2.1 e.2) (e0 : v0 = nI x) (hx : x ≤ an_D T T.1.2.1) {J : Nat} (hq : Q (some (.int 1)) (mSH, I, mUpL (mUpL L 34 7 (lN (fr_a (an_ag T e x (J)).1 (an_ag T e x (J)).2))) 34 8 (lN (fr_b (an_ag T e x (J)).1 (an_ag T e x (J)).2)))) : ∀ (f j : Nat), j + f + 1 = T.1.2.1 → an_js (an_pd T x) f j = J → an_D T j ≤ x → ∀ o6, mWP mTb_ mFT ro (d + 1, 143, 53, [some (.ref 34), some (.int v0), some (.int (nI (an_p e j))), some (.int (nI (an_A T e j))), some (.int (nI (an_D T j))), some (.int (nI j)), o6], [], 0, 0, (mSH, I, L)) Q := by
  have n8 := hT.2.1
  have e22 : ∀ k, (2 : Int32) + nI k = nI (2 + k) := fun k => nI_add 2 k
  have c22 : ∀ k, k < 8 → ((2 : Int32) + nI k).toNatClampNeg = 2 + k := fun k hk => by rw [e22, nI_clamp (by omega)]
  have v22 : ∀ k, k < 8 → vp_in ((2 : Int32) + nI k) 20 := fun k hk => by rw [e22]; exact vp_in_nI (by omega) (by omega)
  have v8 : ∀ k, k < 8 → vp_in (nI k) 8 := fun k hk => vp_in_nI (by omega) (by omega)
  have c8 : ∀ k, k < 8 → (nI k).toNatClampNeg = k := fun k hk => nI_clamp (by omega)
  have dn := an_Db hT T.1.2.1 (Nat.le_refl _)
  intro f
  induction f with
  | zero =>
    intro j hj eJ hd o6
    have eJ : j = J := eJ
    subst eJ
    have hjn : j < T.1.2.1 := by omega
    have lb := hT.2.2.2.2 j hjn
    have db := an_Db hT j (by omega)
    have z : v0 ≤ nI (an_D T j) + I 36 (nI j).toNatClampNeg := by
      rw [c8 j (by omega), hS.2.2.2.2 j hjn, nI_add, e0]
      refine nI_le ?_ (by omega)
      have : an_D T (j + 1) = an_D T j + T.2.2 j := an_D1
      rw [← this, show j + 1 = T.1.2.1 by omega]
      exact hx
    exact s_ag1 (v8 j (by omega)) (fun _ => xm_ag3 hT hS hM hv e0 (by omega) hjn hd hq) (fun c => absurd z c) (fun c => absurd z c)
  | succ f ih =>
    intro j hj eJ hd o6
    have hjn : j < T.1.2.1 := by omega
    have lb := hT.2.2.2.2 j hjn
    have db := an_Db hT j (by omega)
    have pb := (an_Yb hT hv hjn).1
    have d1 : an_D T (j + 1) = an_D T j + T.2.2 j := an_D1
    have le : v0 ≤ nI (an_D T j) + I 36 (nI j).toNatClampNeg ↔ x ≤ an_D T (j + 1) := by
      rw [c8 j (by omega), hS.2.2.2.2 j hjn, nI_add, e0, d1]
      exact nI_leI (by omega) (by omega)
    refine s_ag1 (v8 j (by omega)) (fun c => ?_) (fun _ => v22 j (by omega)) (fun c => ?_)
    · have y : an_js (an_pd T x) (f + 1) j = j := if_neg (fun y => by have y := of_decide_eq_true y; have := le.mp c; omega)
      rw [y] at eJ
      subst eJ
      exact xm_ag3 hT hS hM hv e0 (by omega) hjn hd hq
    · have gt := mt le.mpr c
      have y : an_js (an_pd T x) (f + 1) j = an_js (an_pd T x) f (j + 1) := if_pos (decide_eq_true (by omega))
      rw [y] at eJ
      rw [c22 j (by omega), hM.2 j hjn]
      refine mCall (s2 := (d, 124, 0, [some (.ref 34), some (.int (nI (an_p e j))), some (.int (nI (bt_bl e.2.tail j))), none, none], [], 0, 0, (mSH, I, L))) rfl ?_
      refine x_myr hT hS pb ?_
      show mWP mTb_ mFT ro (d + 1, 143, 82, [some (.ref 34), some (.int v0), some (.int (nI (an_p e j))), some (.int (nI (an_A T e j))), some (.int (nI (an_D T j))), some (.int (nI j)), o6], [.int (nI (an_Y T e j)), .int (nI (an_A T e j))], 0, 0, (mSH, I, L)) _
      refine s_ag2 (v22 j (by omega)) (v8 j (by omega)) ?_
      rw [c22 j (by omega), hM.2 j hjn, c8 j (by omega), hS.2.2.2.2 j hjn, nI_add, nI_add, nI_add, nI_1]
      have z := ih (j + 1) (by omega) eJ (by omega) o6
      rw [an_p1, an_A1, an_D1] at z
      exact z
theorem xm_age (hT : ct_So T) (hS : cm_S T I) (hM : cm_M T.1.2.1 e I) (hv : bt_vl T.1.1 T.1.2.1 e.2) (hn : 0 < T.1.2.1) (e0 : v0 = nI x) (hx : x ≤ an_D T T.1.2.1) (hq : Q (some (.int 1)) (mSH, I, mUpL (mUpL L 34 7 (lN (fr_a (an_ag T e x (an_jd T x)).1 (an_ag T e x (an_jd T x)).2))) 34 8 (lN (fr_b (an_ag T e x (an_jd T x)).1 (an_ag T e x (an_jd T x)).2)))) : mWP mTb_ mFT ro (d + 1, 143, 33, [some (.ref 34), some (.int v0), none, none, none, none, none], [], 0, 0, (mSH, I, L)) Q := by
  refine s_ag0 ?_
  rw [hM.1]
  have p0 := (an_Ab hT hv (Nat.zero_le _)).1
  refine mCall (s2 := (d, 124, 0, [some (.ref 34), some (.int (nI (0))), some (.int (nI (an_p e 0))), none, none], [], 0, 0, (mSH, I, L))) rfl ?_
  refine x_myr hT hS (i := 0) (m := an_p e 0) (by omega) ?_
  show mWP mTb_ mFT ro (d + 1, 143, 46, [some (.ref 34), some (.int v0), some (.int (nI (an_p e 0))), none, none, none, none], [.int (nI (an_A T e 0))], 0, 0, (mSH, I, L)) _
  refine s_ag0b ?_
  exact xm_agl hT hS hM hv e0 hx hq (T.1.2.1 - 1) 0 (by omega) rfl (Nat.zero_le _) _
theorem xm_del (hT : ct_So T) (hS : cm_S T I) (hM : cm_M T.1.2.1 e I) (hv : bt_vl T.1.1 T.1.2.1 e.2) (hn : 0 < T.1.2.1) (e0 : v0 = nI x) (hx : x ≤ 1584) {J : Nat} (q0 : ¬ x ≤ an_A T e T.1.2.1 → Q (some (.int (-1))) (mSH, I, L)) (q1 : x ≤ an_A T e T.1.2.1 → Q (some (.int 1)) (mSH, I, mUpL (mUpL L 34 7 (lN (fr_a (an_de T e x (J)).1 (an_de T e x (J)).2))) 34 8 (lN (fr_b (an_de T e x (J)).1 (an_de T e x (J)).2)))) : ∀ (f j : Nat), j + f = T.1.2.1 → (0 < f → an_js (an_py T e x) (f - 1) j = J) → an_A T e j ≤ x → (0 < j → an_A T e j < x) → ∀ o6, mWP mTb_ mFT ro (d + 1, 144, 59, [some (.ref 34), some (.int v0), some (.int (nI (an_p e j))), some (.int (nI (an_A T e j))), some (.int (nI (an_D T j))), some (.int (nI j)), o6], [], 0, 0, (mSH, I, L)) Q := by
  have n8 := hT.2.1
  have e22 : ∀ k, (2 : Int32) + nI k = nI (2 + k) := fun k => nI_add 2 k
  have c22 : ∀ k, k < 8 → ((2 : Int32) + nI k).toNatClampNeg = 2 + k := fun k hk => by rw [e22, nI_clamp (by omega)]
  have v22 : ∀ k, k < 8 → vp_in ((2 : Int32) + nI k) 20 := fun k hk => by rw [e22]; exact vp_in_nI (by omega) (by omega)
  have v8 : ∀ k, k < 8 → vp_in (nI k) 8 := fun k hk => vp_in_nI (by omega) (by omega)
  have c8 : ∀ k, k < 8 → (nI k).toNatClampNeg = k := fun k hk => nI_clamp (by omega)
  intro f
  induction f with
  | zero =>
    intro j hj eJ hd hd2 o6
    have ej : j = T.1.2.1 := by omega
    subst ej
    have z : I 34 3 ≤ nI T.1.2.1 := by
      rw [hS.2.1]
      exact nI_le (Nat.le_refl _) (by omega)
    exact s_de1 (fun _ => q0 (by have := hd2 hn; omega)) (fun c => absurd z c) (fun c => absurd z c)
  | succ f ih =>
    intro j hjf eJ hd hd2 o6
    have hj : j < T.1.2.1 := by omega
    have eJ : an_js (an_py T e x) f j = J := eJ (by omega)
    have yb := (an_Yb hT hv hj).2
    have pb := (an_Yb hT hv hj).1
    have ab := (an_Ab hT hv (Nat.le_of_lt hj)).2
    have db := an_Db hT j (Nat.le_of_lt hj)
    have lb := hT.2.2.2.2 j hj
    have m1 : an_A T e j * T.2.2 j ≤ 1584 * 999 := Nat.mul_le_mul ab lb.2
    have m2 : (x - an_D T j) * an_Y T e j ≤ 7992 * 1584 := Nat.mul_le_mul (by omega) yb.2
    have m3 : an_D T j * an_Y T e j ≤ 7992 * 1584 := Nat.mul_le_mul (by omega) yb.2
    have m4 : (x - an_A T e j) * T.2.2 j ≤ 7992 * 999 := Nat.mul_le_mul (by omega) lb.2
    have a1 : an_A T e (j + 1) = an_A T e j + an_Y T e j := an_A1
    have z : ¬ I 34 3 ≤ nI j := by
      rw [hS.2.1]
      exact nI_ge (by omega) (by omega)
    refine s_de1 (fun c => absurd c z) (fun _ => v22 j (by omega)) (fun _ => ?_)
    rw [c22 j (by omega), hM.2 j hj]
    refine mCall (s2 := (d, 124, 0, [some (.ref 34), some (.int (nI (an_p e j))), some (.int (nI (bt_bl e.2.tail j))), none, none], [], 0, 0, (mSH, I, L))) rfl ?_
    refine x_myr hT hS pb ?_
    show mWP mTb_ mFT ro (d + 1, 144, 82, [some (.ref 34), some (.int v0), some (.int (nI (an_p e j))), some (.int (nI (an_A T e j))), some (.int (nI (an_D T j))), some (.int (nI j)), o6], [.int (nI (an_Y T e j))], 0, 0, (mSH, I, L)) _
    have lt : nI (an_A T e j) + nI (an_Y T e j) < v0 ↔ an_A T e (j + 1) < x := by
      rw [nI_add, e0, a1]
      exact nI_ltI (by omega) (by omega)
    refine s_de2 (fun _ => v22 j (by omega)) (fun _ => v8 j (by omega)) (fun c => ?_) (fun _ => v8 j (by omega)) (fun c => ?_)
    · have gt := lt.mp c
      rw [c22 j (by omega), hM.2 j hj, c8 j (by omega), hS.2.2.2.2 j hj, nI_add, nI_add, nI_add, nI_1]
      have y := ih (j + 1) (by omega) (fun f0 => by
        obtain ⟨f2, rfl⟩ : ∃ f2, f = f2 + 1 := ⟨f - 1, by omega⟩
        have y : an_js (an_py T e x) (f2 + 1) j = an_js (an_py T e x) f2 (j + 1) := if_pos (decide_eq_true gt)
        rw [y] at eJ
        exact eJ) (by omega) (fun _ => gt) (some (.int (nI (an_Y T e j))))
      rw [an_p1, an_A1, an_D1] at y
      exact y
    · have le := mt lt.mpr c
      have ej : j = J := by
        rw [← eJ]
        cases f with
        | zero => rfl
        | succ f2 => exact (if_neg (fun y => le (of_decide_eq_true y))).symm
      subst ej
      have xn : x ≤ an_A T e T.1.2.1 := Nat.le_trans (by omega) (an_Am (T := T) (e := e) (show j + 1 ≤ T.1.2.1 by omega))
      rw [c8 j (by omega), hS.2.2.2.2 j hj, e0, pk_sub hd, nI_l (by omega), nI_l (by omega), nI_l (by omega), nI_l (by omega), lN_mul, lN_mul, lN_add]
      refine mCall (s2 := (d, 141, 0, [some (.ref 34), some (.long (lN (an_de T e x j).1)), none, some (.long (lN (an_de T e x j).2)), none, none, none, none, none, none, none], [], 0, 0, (mSH, I, L))) rfl ?_
      refine x_bec (a := (an_de T e x (j)).1) (b := (an_de T e x (j)).2) rfl rfl (by show an_D T j * an_Y T e j + (x - an_A T e j) * T.2.2 j < _; omega) (by show an_Y T e j < _; omega) yb.1 ?_
      exact mRt (r := some (.int 1)) rfl (mRet_int rfl) (q1 xn)
theorem xm_dep (hT : ct_So T) (hS : cm_S T I) (hM : cm_M T.1.2.1 e I) (hv : bt_vl T.1.1 T.1.2.1 e.2) (hn : 0 < T.1.2.1) (e0 : v0 = nI x) (hx : x ≤ 1584) (q0 : ¬ (an_A T e 0 ≤ x ∧ x ≤ an_A T e T.1.2.1) → Q (some (.int (-1))) (mSH, I, L)) (q1 : (an_A T e 0 ≤ x ∧ x ≤ an_A T e T.1.2.1) → Q (some (.int 1)) (mSH, I, mUpL (mUpL L 34 7 (lN (fr_a (an_de T e x (an_jy T e x)).1 (an_de T e x (an_jy T e x)).2))) 34 8 (lN (fr_b (an_de T e x (an_jy T e x)).1 (an_de T e x (an_jy T e x)).2)))) : mWP mTb_ mFT ro (d + 1, 144, 32, [some (.ref 34), some (.int v0), none, none, none, none, none], [], 0, 0, (mSH, I, L)) Q := by
  refine s_de0 ?_
  rw [hM.1]
  have p0 := (an_Ab hT hv (Nat.zero_le _)).1
  have a0 := (an_Ab hT hv (Nat.zero_le _)).2
  refine mCall (s2 := (d, 124, 0, [some (.ref 34), some (.int (nI (0))), some (.int (nI (an_p e 0))), none, none], [], 0, 0, (mSH, I, L))) rfl ?_
  refine x_myr hT hS (i := 0) (m := an_p e 0) (by omega) ?_
  show mWP mTb_ mFT ro (d + 1, 144, 45, [some (.ref 34), some (.int v0), some (.int (nI (an_p e 0))), none, none, none, none], [.int (nI (an_A T e 0))], 0, 0, (mSH, I, L)) _
  have le : nI (an_A T e 0) ≤ v0 ↔ an_A T e 0 ≤ x := by
    rw [e0]
    exact nI_leI (by omega) (by omega)
  refine s_de0b (fun c => ?_) (fun c => q0 (fun y => c (le.mpr y.1)))
  have c1 := le.mp c
  exact xm_del hT hS hM hv hn e0 hx (fun y => q0 (fun w => y w.2)) (fun y => q1 ⟨c1, y⟩) T.1.2.1 0 (by omega) (fun _ => rfl) c1 (fun y => absurd y (Nat.lt_irrefl 0)) _
theorem l_byx (hT : ct_So T) (hS : cm_S T I) (hM : cm_M T.1.2.1 e I) (hv : bt_vl T.1.1 T.1.2.1 e.2) (hj : j < T.1.2.1) (hq : Q (some (.int (nI (an_Y T e j)))) (mSH, I, L)) : ∀ (f k : Nat), k + f = j → mWP mTb_ mFT ro (d + 1, 145, 9, [some (.ref 34), some (.int (nI j)), some (.int (nI (an_p e k))), some (.int (nI k))], [], 0, 0, (mSH, I, L)) Q := by
  have n8 := hT.2.1
  have e22 : ∀ k, (2 : Int32) + nI k = nI (2 + k) := fun k => nI_add 2 k
  have c22 : ∀ k, k < 8 → ((2 : Int32) + nI k).toNatClampNeg = 2 + k := fun k hk => by rw [e22, nI_clamp (by omega)]
  have v22 : ∀ k, k < 8 → vp_in ((2 : Int32) + nI k) 20 := fun k hk => by rw [e22]; exact vp_in_nI (by omega) (by omega)
  have v8 : ∀ k, k < 8 → vp_in (nI k) 8 := fun k hk => vp_in_nI (by omega) (by omega)
  have c8 : ∀ k, k < 8 → (nI k).toNatClampNeg = k := fun k hk => nI_clamp (by omega)
  have pb := (an_Yb hT hv hj).1
  intro f
  induction f with
  | zero =>
    intro k hk
    have ek : k = j := by omega
    subst ek
    have z : nI k ≤ nI k := nI_le (Nat.le_refl k) (by omega)
    refine s_by1 (fun _ => v22 k (by omega)) (fun _ => ?_) (fun c => absurd z c) (fun c => absurd z c)
    rw [c22 k (by omega), hM.2 k hj]
    refine mCall (s2 := (d, 124, 0, [some (.ref 34), some (.int (nI (an_p e k))), some (.int (nI (bt_bl e.2.tail k))), none, none], [], 0, 0, (mSH, I, L))) rfl ?_
    refine x_myr hT hS pb ?_
    exact mRt (r := some (.int _)) (h := (mSH, I, L)) rfl (mRet_int rfl) hq
  | succ f ih =>
    intro k hk
    have z : ¬ nI j ≤ nI k := nI_ge (by omega) (by omega)
    refine s_by1 (fun c => absurd c z) (fun c => absurd c z) (fun _ => v22 k (by omega)) (fun _ => ?_)
    rw [c22 k (by omega), hM.2 k (by omega), nI_add, nI_1]
    have y := ih (k + 1) (by omega)
    rw [an_p1] at y
    exact y
theorem x_by (hT : ct_So T) (hS : cm_S T I) (hM : cm_M T.1.2.1 e I) (hv : bt_vl T.1.1 T.1.2.1 e.2) (hj : j < T.1.2.1) (hq : Q (some (.int (nI (an_Y T e j)))) (mSH, I, L)) : mWP mTb_ mFT ro (d + 1, 145, 0, [some (.ref 34), some (.int (nI j)), none, none], [], 0, 0, (mSH, I, L)) Q := by
  refine s_by0 ?_
  rw [hM.1]
  exact l_byx hT hS hM hv hj hq j 0 (by omega)
end MW
theorem v_nageF {ro : Nat → Nat × (Nat → Int32)} {Q : mPo} {d : Nat} {I : Nat → Nat → Int32} {L : Nat → Nat → Int64} {s n t : Nat} {T : ct_S} {B : ct_B} {kd g pe : Nat} {v0 : Int32} (hm : mM s n t I) (hO : pm_O T B kd g pe) (hM : pm_M T B kd g pe I) (hq : ∀ r I1 L1, mGr I I1 → mIM I1 → r = an_age T B kd g pe v0 → mF (an_ageF T B kd g pe v0) L L1 → Q (some (.int r)) (mSH, I1, L1))   : mWP mTb_ mFT ro (d + 5, 143, 0, [some (.ref 34), some (.int v0), none, none, none, none, none], [], 0, 0, (mSH, I, L)) Q := by
  refine mB 3 (s2 := (d + 5, 143, 3, [some (.ref 34), some (.int v0), none, none, none, none, none], [.ref 34, .int 0, .int v0], 0, 0, (mSH, I, L))) rfl ?_
  refine mCall (s2 := (d + 4, 142, 0, [some (.ref 34), none, none], [], 0, 0, (mSH, I, L))) rfl ?_
  refine x_deep hO.1 hM.1 ?_
  show mWP mTb_ mFT ro (d + 5, 143, 6, [some (.ref 34), some (.int v0), none, none, none, none, none], [.int (nI (an_D T T.1.2.1)), .int 0, .int v0], 0, 0, (mSH, I, L)) _
  refine mCall (s2 := (d + 4, 112, 0, [some (.int v0), some (.int 0), some (.int (nI (an_D T T.1.2.1)))], [], 0, 0, (mSH, I, L))) rfl ?_
  refine mB 2 (s2 := (d + 4, 112, 2, [some (.int v0), some (.int 0), some (.int (nI (an_D T T.1.2.1)))], [.int 0, .int v0], 0, 0, (mSH, I, L))) rfl ?_
  refine mBr (s2 := (d + 4, 112, 14, [some (.int v0), some (.int 0), some (.int (nI (an_D T T.1.2.1)))], [], 0, 0, (mSH, I, L))) (s3 := (d + 4, 112, 5, [some (.int v0), some (.int 0), some (.int (nI (an_D T T.1.2.1)))], [], 0, 0, (mSH, I, L))) rfl (fun c0 => ?_) (fun c0 => ?_)
  · refine mB 1 (s2 := (d + 4, 112, 15, [some (.int v0), some (.int 0), some (.int (nI (an_D T T.1.2.1)))], [.int 0], 0, 0, (mSH, I, L))) rfl ?_
    refine mRt (r := (some (.int 0))) (h := (mSH, I, L)) rfl rfl ?_
    show mWP mTb_ mFT ro (d + 5, 143, 9, [some (.ref 34), some (.int v0), none, none, none, none, none], [.int 0], 0, 0, (mSH, I, L)) _
    refine mBT (s2 := (d + 5, 143, 12, [some (.ref 34), some (.int v0), none, none, none, none, none], [], 0, 0, (mSH, I, L))) rfl (by decide) ?_
    refine mB 2 (s2 := (d + 5, 143, 15, [some (.ref 34), some (.int v0), none, none, none, none, none], [.int (-2), .ref 34], 0, 0, (mSH, I, L))) rfl ?_
    refine mCall (s2 := (d + 4, 113, 0, [some (.ref 34), some (.int (-2))], [], 0, 0, (mSH, I, L))) rfl ?_
    refine mB 6 (s2 := (d + 4, 113, 9, [some (.ref 34), some (.int (-2))], [.int 0, .ref 39, .int 0, .ref 39], 0, 0, (mSH, I, L))) rfl ?_
    refine mRq (s2 := (d + 4, 113, 10, [some (.ref 34), some (.int (-2))], [.int (I 39 0), .int 0, .ref 39], 0, 0, (mSH, I, L))) rfl (by decide) ?_
    refine mB 2 (s2 := (d + 4, 113, 12, [some (.ref 34), some (.int (-2))], [.int ((I 39 0) + 1), .int 0, .ref 39], 0, 0, (mSH, I, L))) rfl ?_
    refine mRq (s2 := (d + 4, 113, 13, [some (.ref 34), some (.int (-2))], [], 0, 0, (mSH, (mUp I 39 0 ((I 39 0) + 1)), L))) rfl (by decide) ?_
    refine mB 1 (s2 := (d + 4, 113, 14, [some (.ref 34), some (.int (-2))], [.int (-2)], 0, 0, (mSH, (mUp I 39 0 ((I 39 0) + 1)), L))) rfl ?_
    refine mRt (r := (some (.int (-2)))) (h := (mSH, (mUp I 39 0 ((I 39 0) + 1)), L)) rfl (mRet_int rfl) ?_
    show mWP mTb_ mFT ro (d + 5, 143, 18, [some (.ref 34), some (.int v0), none, none, none, none, none], [.int (-2)], 0, 0, (mSH, (mUp I 39 0 ((I 39 0) + 1)), L)) _
    refine mRt (r := (some (.int (-2)))) (h := (mSH, (mUp I 39 0 ((I 39 0) + 1)), L)) rfl (mRet_int rfl) ?_
    exact hq _ _ _ (mGr.up (by rfl) mGr.rf) ⟨s, n, t, ((mGr.up (by rfl) mGr.rf)).m hm⟩ (if_neg (c := an_k19 T v0) (by have a0 := of_decide_eq_true c0; have e9 := nI_toInt (n := an_D T T.1.2.1) (by have := an_Db hO.1 T.1.2.1 (Nat.le_refl _); have := hO.1.2.1; omega); simp only [Int32.lt_iff_toInt_lt, Int32.le_iff_toInt_le, mLi0, e9] at a0 <;> omega)).symm (mF_n (if_neg (fun z => absurd z.1 (by have a0 := of_decide_eq_true c0; have e9 := nI_toInt (n := an_D T T.1.2.1) (by have := an_Db hO.1 T.1.2.1 (Nat.le_refl _); have := hO.1.2.1; omega); simp only [Int32.lt_iff_toInt_lt, Int32.le_iff_toInt_le, mLi0, e9] at a0 <;> omega))))
  · refine mB 2 (s2 := (d + 4, 112, 7, [some (.int v0), some (.int 0), some (.int (nI (an_D T T.1.2.1)))], [.int (nI (an_D T T.1.2.1)), .int v0], 0, 0, (mSH, I, L))) rfl ?_
    refine mBr (s2 := (d + 4, 112, 14, [some (.int v0), some (.int 0), some (.int (nI (an_D T T.1.2.1)))], [], 0, 0, (mSH, I, L))) (s3 := (d + 4, 112, 10, [some (.int v0), some (.int 0), some (.int (nI (an_D T T.1.2.1)))], [], 0, 0, (mSH, I, L))) rfl (fun c1 => ?_) (fun c1 => ?_)
    · refine mB 1 (s2 := (d + 4, 112, 15, [some (.int v0), some (.int 0), some (.int (nI (an_D T T.1.2.1)))], [.int 0], 0, 0, (mSH, I, L))) rfl ?_
      refine mRt (r := (some (.int 0))) (h := (mSH, I, L)) rfl rfl ?_
      show mWP mTb_ mFT ro (d + 5, 143, 9, [some (.ref 34), some (.int v0), none, none, none, none, none], [.int 0], 0, 0, (mSH, I, L)) _
      refine mBT (s2 := (d + 5, 143, 12, [some (.ref 34), some (.int v0), none, none, none, none, none], [], 0, 0, (mSH, I, L))) rfl (by decide) ?_
      refine mB 2 (s2 := (d + 5, 143, 15, [some (.ref 34), some (.int v0), none, none, none, none, none], [.int (-2), .ref 34], 0, 0, (mSH, I, L))) rfl ?_
      refine mCall (s2 := (d + 4, 113, 0, [some (.ref 34), some (.int (-2))], [], 0, 0, (mSH, I, L))) rfl ?_
      refine mB 6 (s2 := (d + 4, 113, 9, [some (.ref 34), some (.int (-2))], [.int 0, .ref 39, .int 0, .ref 39], 0, 0, (mSH, I, L))) rfl ?_
      refine mRq (s2 := (d + 4, 113, 10, [some (.ref 34), some (.int (-2))], [.int (I 39 0), .int 0, .ref 39], 0, 0, (mSH, I, L))) rfl (by decide) ?_
      refine mB 2 (s2 := (d + 4, 113, 12, [some (.ref 34), some (.int (-2))], [.int ((I 39 0) + 1), .int 0, .ref 39], 0, 0, (mSH, I, L))) rfl ?_
      refine mRq (s2 := (d + 4, 113, 13, [some (.ref 34), some (.int (-2))], [], 0, 0, (mSH, (mUp I 39 0 ((I 39 0) + 1)), L))) rfl (by decide) ?_
      refine mB 1 (s2 := (d + 4, 113, 14, [some (.ref 34), some (.int (-2))], [.int (-2)], 0, 0, (mSH, (mUp I 39 0 ((I 39 0) + 1)), L))) rfl ?_
      refine mRt (r := (some (.int (-2)))) (h := (mSH, (mUp I 39 0 ((I 39 0) + 1)), L)) rfl (mRet_int rfl) ?_
      show mWP mTb_ mFT ro (d + 5, 143, 18, [some (.ref 34), some (.int v0), none, none, none, none, none], [.int (-2)], 0, 0, (mSH, (mUp I 39 0 ((I 39 0) + 1)), L)) _
      refine mRt (r := (some (.int (-2)))) (h := (mSH, (mUp I 39 0 ((I 39 0) + 1)), L)) rfl (mRet_int rfl) ?_
      exact hq _ _ _ (mGr.up (by rfl) mGr.rf) ⟨s, n, t, ((mGr.up (by rfl) mGr.rf)).m hm⟩ (if_neg (c := an_k19 T v0) (by have a0 := of_decide_eq_false c0; have a1 := of_decide_eq_true c1; have e9 := nI_toInt (n := an_D T T.1.2.1) (by have := an_Db hO.1 T.1.2.1 (Nat.le_refl _); have := hO.1.2.1; omega); simp only [Int32.lt_iff_toInt_lt, Int32.le_iff_toInt_le, mLi0, e9] at a0 a1 <;> omega)).symm (mF_n (if_neg (fun z => absurd z.1 (by have a0 := of_decide_eq_false c0; have a1 := of_decide_eq_true c1; have e9 := nI_toInt (n := an_D T T.1.2.1) (by have := an_Db hO.1 T.1.2.1 (Nat.le_refl _); have := hO.1.2.1; omega); simp only [Int32.lt_iff_toInt_lt, Int32.le_iff_toInt_le, mLi0, e9] at a0 a1 <;> omega))))
    · refine mB 2 (s2 := (d + 4, 112, 15, [some (.int v0), some (.int 0), some (.int (nI (an_D T T.1.2.1)))], [.int 1], 0, 0, (mSH, I, L))) rfl ?_
      refine mRt (r := (some (.int 1))) (h := (mSH, I, L)) rfl rfl ?_
      show mWP mTb_ mFT ro (d + 5, 143, 9, [some (.ref 34), some (.int v0), none, none, none, none, none], [.int 1], 0, 0, (mSH, I, L)) _
      refine mBF (s3 := (d + 5, 143, 19, [some (.ref 34), some (.int v0), none, none, none, none, none], [], 0, 0, (mSH, I, L))) rfl (by decide) ?_
      refine mB 1 (s2 := (d + 5, 143, 20, [some (.ref 34), some (.int v0), none, none, none, none, none], [.ref 34], 0, 0, (mSH, I, L))) rfl ?_
      refine mCall (s2 := (d + 4, 132, 0, [some (.ref 34)], [], 0, 0, (mSH, I, L))) rfl ?_
      refine x_isfx hO hM (fun rK K gK fK bK iK => ?_)
      show mWP mTb_ mFT ro (d + 5, 143, 23, [some (.ref 34), some (.int v0), none, none, none, none, none], [.int rK], 0, 0, (mSH, K, L)) _
      refine mBr (s2 := (d + 5, 143, 26, [some (.ref 34), some (.int v0), none, none, none, none, none], [], 0, 0, (mSH, K, L))) (s3 := (d + 5, 143, 33, [some (.ref 34), some (.int v0), none, none, none, none, none], [], 0, 0, (mSH, K, L))) rfl (fun c2 => ?_) (fun c2 => ?_)
      · refine mB 2 (s2 := (d + 5, 143, 29, [some (.ref 34), some (.int v0), none, none, none, none, none], [.int (-3), .ref 34], 0, 0, (mSH, K, L))) rfl ?_
        refine mCall (s2 := (d + 4, 113, 0, [some (.ref 34), some (.int (-3))], [], 0, 0, (mSH, K, L))) rfl ?_
        refine mB 6 (s2 := (d + 4, 113, 9, [some (.ref 34), some (.int (-3))], [.int 1, .ref 39, .int 1, .ref 39], 0, 0, (mSH, K, L))) rfl ?_
        refine mRq (s2 := (d + 4, 113, 10, [some (.ref 34), some (.int (-3))], [.int (K 39 1), .int 1, .ref 39], 0, 0, (mSH, K, L))) rfl (by decide) ?_
        refine mB 2 (s2 := (d + 4, 113, 12, [some (.ref 34), some (.int (-3))], [.int ((K 39 1) + 1), .int 1, .ref 39], 0, 0, (mSH, K, L))) rfl ?_
        refine mRq (s2 := (d + 4, 113, 13, [some (.ref 34), some (.int (-3))], [], 0, 0, (mSH, (mUp K 39 1 ((K 39 1) + 1)), L))) rfl (by decide) ?_
        refine mB 1 (s2 := (d + 4, 113, 14, [some (.ref 34), some (.int (-3))], [.int (-3)], 0, 0, (mSH, (mUp K 39 1 ((K 39 1) + 1)), L))) rfl ?_
        refine mRt (r := (some (.int (-3)))) (h := (mSH, (mUp K 39 1 ((K 39 1) + 1)), L)) rfl (mRet_int rfl) ?_
        show mWP mTb_ mFT ro (d + 5, 143, 32, [some (.ref 34), some (.int v0), none, none, none, none, none], [.int (-3)], 0, 0, (mSH, (mUp K 39 1 ((K 39 1) + 1)), L)) _
        refine mRt (r := (some (.int (-3)))) (h := (mSH, (mUp K 39 1 ((K 39 1) + 1)), L)) rfl (mRet_int rfl) ?_
        exact hq _ _ _ (mGr.up (by rfl) gK) ⟨s, n, t, ((mGr.up (by rfl) gK)).m hm⟩ ((if_neg (iK.mp (of_decide_eq_true c2))).symm.trans (if_pos (c := an_k19 T v0) (by have a0 := of_decide_eq_false c0; have a1 := of_decide_eq_false c1; have e9 := nI_toInt (n := an_D T T.1.2.1) (by have := an_Db hO.1 T.1.2.1 (Nat.le_refl _); have := hO.1.2.1; omega); simp only [Int32.lt_iff_toInt_lt, Int32.le_iff_toInt_le, mLi0, e9] at a0 a1 <;> omega)).symm) (mF_n (if_neg (fun z => (iK.mp (of_decide_eq_true c2)) z.2)))
      · (have k19 : an_k19 T v0 := (by have a0 := of_decide_eq_false c0; have a1 := of_decide_eq_false c1; have e9 := nI_toInt (n := an_D T T.1.2.1) (by have := an_Db hO.1 T.1.2.1 (Nat.le_refl _); have := hO.1.2.1; omega); simp only [Int32.lt_iff_toInt_lt, Int32.le_iff_toInt_le, mLi0, e9] at a0 a1 <;> omega); have hy : (an_E T B kd g pe 0).1 < bt_U := Decidable.of_not_not (mt iK.mpr (of_decide_eq_false c2)); exact xm_age (e := (an_E T B kd g pe 0)) hO.1 (hM.1.gr gK) (cm_M.of fK.1.1 (show (an_E T B kd g pe 0).1 < bt_U from hy)) (an_v hO hy).1 (an_v hO hy).2 (pm_n k19.1) (by have := k19.1; have := k19.2; omega) (hq _ _ _ gK ⟨s, n, t, (gK).m hm⟩ ((if_pos hy).symm.trans (if_pos (c := an_k19 T v0) k19).symm) (mF_y (a := (an_ag T (an_E T B kd g pe 0) v0.toInt.toNat (an_jd T v0.toInt.toNat)).1) (b := (an_ag T (an_E T B kd g pe 0) v0.toInt.toNat (an_jd T v0.toInt.toNat)).2) (if_pos ⟨k19, hy⟩))))
theorem v_nage {ro : Nat → Nat × (Nat → Int32)} {Q : mPo} {d : Nat} {I : Nat → Nat → Int32} {L : Nat → Nat → Int64} {s n t : Nat} {T : ct_S} {B : ct_B} {kd g pe : Nat} {v0 : Int32} (hm : mM s n t I) (hO : pm_O T B kd g pe) (hM : pm_M T B kd g pe I) (hq : ∀ r I1 L1, mGr I I1 → mIM I1 → r = an_age T B kd g pe v0 → Q (some (.int r)) (mSH, I1, L1)) : mWP mTb_ mFT ro (d + 5, 143, 0, [some (.ref 34), some (.int v0), none, none, none, none, none], [], 0, 0, (mSH, I, L)) Q := v_nageF hm hO hM (fun r I1 L1 a b c _ => hq r I1 L1 a b c)
theorem v_ndepthF {ro : Nat → Nat × (Nat → Int32)} {Q : mPo} {d : Nat} {I : Nat → Nat → Int32} {L : Nat → Nat → Int64} {s n t : Nat} {T : ct_S} {B : ct_B} {kd g pe : Nat} {v0 : Int32} (hm : mM s n t I) (hO : pm_O T B kd g pe) (hM : pm_M T B kd g pe I) (hq : ∀ r I1 L1, mGr I I1 → mIM I1 → r = an_depth T B kd g pe v0 → mF (an_depthF T B kd g pe v0) L L1 → Q (some (.int r)) (mSH, I1, L1))   : mWP mTb_ mFT ro (d + 5, 144, 0, [some (.ref 34), some (.int v0), none, none, none, none, none], [], 0, 0, (mSH, I, L)) Q := by
  refine mB 3 (s2 := (d + 5, 144, 5, [some (.ref 34), some (.int v0), none, none, none, none, none], [.int 1584, .int 0, .int v0], 0, 0, (mSH, I, L))) rfl ?_
  refine mCall (s2 := (d + 4, 112, 0, [some (.int v0), some (.int 0), some (.int 1584)], [], 0, 0, (mSH, I, L))) rfl ?_
  refine mB 2 (s2 := (d + 4, 112, 2, [some (.int v0), some (.int 0), some (.int 1584)], [.int 0, .int v0], 0, 0, (mSH, I, L))) rfl ?_
  refine mBr (s2 := (d + 4, 112, 14, [some (.int v0), some (.int 0), some (.int 1584)], [], 0, 0, (mSH, I, L))) (s3 := (d + 4, 112, 5, [some (.int v0), some (.int 0), some (.int 1584)], [], 0, 0, (mSH, I, L))) rfl (fun c0 => ?_) (fun c0 => ?_)
  · refine mB 1 (s2 := (d + 4, 112, 15, [some (.int v0), some (.int 0), some (.int 1584)], [.int 0], 0, 0, (mSH, I, L))) rfl ?_
    refine mRt (r := (some (.int 0))) (h := (mSH, I, L)) rfl rfl ?_
    show mWP mTb_ mFT ro (d + 5, 144, 8, [some (.ref 34), some (.int v0), none, none, none, none, none], [.int 0], 0, 0, (mSH, I, L)) _
    refine mBT (s2 := (d + 5, 144, 11, [some (.ref 34), some (.int v0), none, none, none, none, none], [], 0, 0, (mSH, I, L))) rfl (by decide) ?_
    refine mB 2 (s2 := (d + 5, 144, 14, [some (.ref 34), some (.int v0), none, none, none, none, none], [.int (-2), .ref 34], 0, 0, (mSH, I, L))) rfl ?_
    refine mCall (s2 := (d + 4, 113, 0, [some (.ref 34), some (.int (-2))], [], 0, 0, (mSH, I, L))) rfl ?_
    refine mB 6 (s2 := (d + 4, 113, 9, [some (.ref 34), some (.int (-2))], [.int 0, .ref 39, .int 0, .ref 39], 0, 0, (mSH, I, L))) rfl ?_
    refine mRq (s2 := (d + 4, 113, 10, [some (.ref 34), some (.int (-2))], [.int (I 39 0), .int 0, .ref 39], 0, 0, (mSH, I, L))) rfl (by decide) ?_
    refine mB 2 (s2 := (d + 4, 113, 12, [some (.ref 34), some (.int (-2))], [.int ((I 39 0) + 1), .int 0, .ref 39], 0, 0, (mSH, I, L))) rfl ?_
    refine mRq (s2 := (d + 4, 113, 13, [some (.ref 34), some (.int (-2))], [], 0, 0, (mSH, (mUp I 39 0 ((I 39 0) + 1)), L))) rfl (by decide) ?_
    refine mB 1 (s2 := (d + 4, 113, 14, [some (.ref 34), some (.int (-2))], [.int (-2)], 0, 0, (mSH, (mUp I 39 0 ((I 39 0) + 1)), L))) rfl ?_
    refine mRt (r := (some (.int (-2)))) (h := (mSH, (mUp I 39 0 ((I 39 0) + 1)), L)) rfl (mRet_int rfl) ?_
    show mWP mTb_ mFT ro (d + 5, 144, 17, [some (.ref 34), some (.int v0), none, none, none, none, none], [.int (-2)], 0, 0, (mSH, (mUp I 39 0 ((I 39 0) + 1)), L)) _
    refine mRt (r := (some (.int (-2)))) (h := (mSH, (mUp I 39 0 ((I 39 0) + 1)), L)) rfl (mRet_int rfl) ?_
    exact hq _ _ _ (mGr.up (by rfl) mGr.rf) ⟨s, n, t, ((mGr.up (by rfl) mGr.rf)).m hm⟩ (if_neg (c := an_k20 v0) (by have a0 := of_decide_eq_true c0; simp only [Int32.lt_iff_toInt_lt, mLi0, mLi1584] at a0 <;> omega)).symm (mF_n (if_neg (fun z => absurd z.1 (by have a0 := of_decide_eq_true c0; simp only [Int32.lt_iff_toInt_lt, mLi0, mLi1584] at a0 <;> omega))))
  · refine mB 2 (s2 := (d + 4, 112, 7, [some (.int v0), some (.int 0), some (.int 1584)], [.int 1584, .int v0], 0, 0, (mSH, I, L))) rfl ?_
    refine mBr (s2 := (d + 4, 112, 14, [some (.int v0), some (.int 0), some (.int 1584)], [], 0, 0, (mSH, I, L))) (s3 := (d + 4, 112, 10, [some (.int v0), some (.int 0), some (.int 1584)], [], 0, 0, (mSH, I, L))) rfl (fun c1 => ?_) (fun c1 => ?_)
    · refine mB 1 (s2 := (d + 4, 112, 15, [some (.int v0), some (.int 0), some (.int 1584)], [.int 0], 0, 0, (mSH, I, L))) rfl ?_
      refine mRt (r := (some (.int 0))) (h := (mSH, I, L)) rfl rfl ?_
      show mWP mTb_ mFT ro (d + 5, 144, 8, [some (.ref 34), some (.int v0), none, none, none, none, none], [.int 0], 0, 0, (mSH, I, L)) _
      refine mBT (s2 := (d + 5, 144, 11, [some (.ref 34), some (.int v0), none, none, none, none, none], [], 0, 0, (mSH, I, L))) rfl (by decide) ?_
      refine mB 2 (s2 := (d + 5, 144, 14, [some (.ref 34), some (.int v0), none, none, none, none, none], [.int (-2), .ref 34], 0, 0, (mSH, I, L))) rfl ?_
      refine mCall (s2 := (d + 4, 113, 0, [some (.ref 34), some (.int (-2))], [], 0, 0, (mSH, I, L))) rfl ?_
      refine mB 6 (s2 := (d + 4, 113, 9, [some (.ref 34), some (.int (-2))], [.int 0, .ref 39, .int 0, .ref 39], 0, 0, (mSH, I, L))) rfl ?_
      refine mRq (s2 := (d + 4, 113, 10, [some (.ref 34), some (.int (-2))], [.int (I 39 0), .int 0, .ref 39], 0, 0, (mSH, I, L))) rfl (by decide) ?_
      refine mB 2 (s2 := (d + 4, 113, 12, [some (.ref 34), some (.int (-2))], [.int ((I 39 0) + 1), .int 0, .ref 39], 0, 0, (mSH, I, L))) rfl ?_
      refine mRq (s2 := (d + 4, 113, 13, [some (.ref 34), some (.int (-2))], [], 0, 0, (mSH, (mUp I 39 0 ((I 39 0) + 1)), L))) rfl (by decide) ?_
      refine mB 1 (s2 := (d + 4, 113, 14, [some (.ref 34), some (.int (-2))], [.int (-2)], 0, 0, (mSH, (mUp I 39 0 ((I 39 0) + 1)), L))) rfl ?_
      refine mRt (r := (some (.int (-2)))) (h := (mSH, (mUp I 39 0 ((I 39 0) + 1)), L)) rfl (mRet_int rfl) ?_
      show mWP mTb_ mFT ro (d + 5, 144, 17, [some (.ref 34), some (.int v0), none, none, none, none, none], [.int (-2)], 0, 0, (mSH, (mUp I 39 0 ((I 39 0) + 1)), L)) _
      refine mRt (r := (some (.int (-2)))) (h := (mSH, (mUp I 39 0 ((I 39 0) + 1)), L)) rfl (mRet_int rfl) ?_
      exact hq _ _ _ (mGr.up (by rfl) mGr.rf) ⟨s, n, t, ((mGr.up (by rfl) mGr.rf)).m hm⟩ (if_neg (c := an_k20 v0) (by have a0 := of_decide_eq_false c0; have a1 := of_decide_eq_true c1; simp only [Int32.lt_iff_toInt_lt, mLi0, mLi1584] at a0 a1 <;> omega)).symm (mF_n (if_neg (fun z => absurd z.1 (by have a0 := of_decide_eq_false c0; have a1 := of_decide_eq_true c1; simp only [Int32.lt_iff_toInt_lt, mLi0, mLi1584] at a0 a1 <;> omega))))
    · refine mB 2 (s2 := (d + 4, 112, 15, [some (.int v0), some (.int 0), some (.int 1584)], [.int 1], 0, 0, (mSH, I, L))) rfl ?_
      refine mRt (r := (some (.int 1))) (h := (mSH, I, L)) rfl rfl ?_
      show mWP mTb_ mFT ro (d + 5, 144, 8, [some (.ref 34), some (.int v0), none, none, none, none, none], [.int 1], 0, 0, (mSH, I, L)) _
      refine mBF (s3 := (d + 5, 144, 18, [some (.ref 34), some (.int v0), none, none, none, none, none], [], 0, 0, (mSH, I, L))) rfl (by decide) ?_
      refine mB 1 (s2 := (d + 5, 144, 19, [some (.ref 34), some (.int v0), none, none, none, none, none], [.ref 34], 0, 0, (mSH, I, L))) rfl ?_
      refine mCall (s2 := (d + 4, 132, 0, [some (.ref 34)], [], 0, 0, (mSH, I, L))) rfl ?_
      refine x_isfx hO hM (fun rK K gK fK bK iK => ?_)
      show mWP mTb_ mFT ro (d + 5, 144, 22, [some (.ref 34), some (.int v0), none, none, none, none, none], [.int rK], 0, 0, (mSH, K, L)) _
      refine mBr (s2 := (d + 5, 144, 25, [some (.ref 34), some (.int v0), none, none, none, none, none], [], 0, 0, (mSH, K, L))) (s3 := (d + 5, 144, 32, [some (.ref 34), some (.int v0), none, none, none, none, none], [], 0, 0, (mSH, K, L))) rfl (fun c2 => ?_) (fun c2 => ?_)
      · refine mB 2 (s2 := (d + 5, 144, 28, [some (.ref 34), some (.int v0), none, none, none, none, none], [.int (-3), .ref 34], 0, 0, (mSH, K, L))) rfl ?_
        refine mCall (s2 := (d + 4, 113, 0, [some (.ref 34), some (.int (-3))], [], 0, 0, (mSH, K, L))) rfl ?_
        refine mB 6 (s2 := (d + 4, 113, 9, [some (.ref 34), some (.int (-3))], [.int 1, .ref 39, .int 1, .ref 39], 0, 0, (mSH, K, L))) rfl ?_
        refine mRq (s2 := (d + 4, 113, 10, [some (.ref 34), some (.int (-3))], [.int (K 39 1), .int 1, .ref 39], 0, 0, (mSH, K, L))) rfl (by decide) ?_
        refine mB 2 (s2 := (d + 4, 113, 12, [some (.ref 34), some (.int (-3))], [.int ((K 39 1) + 1), .int 1, .ref 39], 0, 0, (mSH, K, L))) rfl ?_
        refine mRq (s2 := (d + 4, 113, 13, [some (.ref 34), some (.int (-3))], [], 0, 0, (mSH, (mUp K 39 1 ((K 39 1) + 1)), L))) rfl (by decide) ?_
        refine mB 1 (s2 := (d + 4, 113, 14, [some (.ref 34), some (.int (-3))], [.int (-3)], 0, 0, (mSH, (mUp K 39 1 ((K 39 1) + 1)), L))) rfl ?_
        refine mRt (r := (some (.int (-3)))) (h := (mSH, (mUp K 39 1 ((K 39 1) + 1)), L)) rfl (mRet_int rfl) ?_
        show mWP mTb_ mFT ro (d + 5, 144, 31, [some (.ref 34), some (.int v0), none, none, none, none, none], [.int (-3)], 0, 0, (mSH, (mUp K 39 1 ((K 39 1) + 1)), L)) _
        refine mRt (r := (some (.int (-3)))) (h := (mSH, (mUp K 39 1 ((K 39 1) + 1)), L)) rfl (mRet_int rfl) ?_
        exact hq _ _ _ (mGr.up (by rfl) gK) ⟨s, n, t, ((mGr.up (by rfl) gK)).m hm⟩ ((if_neg (iK.mp (of_decide_eq_true c2))).symm.trans (if_pos (c := an_k20 v0) (by have a0 := of_decide_eq_false c0; have a1 := of_decide_eq_false c1; simp only [Int32.lt_iff_toInt_lt, mLi0, mLi1584] at a0 a1 <;> omega)).symm) (mF_n (if_neg (fun z => (iK.mp (of_decide_eq_true c2)) z.2.1)))
      · (have k20 : an_k20 v0 := (by have a0 := of_decide_eq_false c0; have a1 := of_decide_eq_false c1; simp only [Int32.lt_iff_toInt_lt, mLi0, mLi1584] at a0 a1 <;> omega); have hy : (an_E T B kd g pe 0).1 < bt_U := Decidable.of_not_not (mt iK.mpr (of_decide_eq_false c2)); have rr : (an_A T (an_E T B kd g pe 0) 0 ≤ v0.toInt.toNat ∧ v0.toInt.toNat ≤ an_A T (an_E T B kd g pe 0) T.1.2.1) ↔ an_r20 T B kd g pe v0 := (by have := k20.1; unfold an_r20; omega); exact xm_dep (e := (an_E T B kd g pe 0)) hO.1 (hM.1.gr gK) (cm_M.of fK.1.1 (show (an_E T B kd g pe 0).1 < bt_U from hy)) (an_v hO hy).1 (an_v hO hy).2 (pm_n k20.1) (by have := k20.1; have := k20.2; omega) (fun y => hq _ _ _ gK ⟨s, n, t, (gK).m hm⟩ ((if_neg (c := an_r20 T B kd g pe v0) (mt rr.mpr y)).symm.trans ((if_pos hy).symm.trans (if_pos (c := an_k20 v0) k20).symm)) (mF_n (if_neg (fun z => mt rr.mpr y z.2.2)))) (fun y => hq _ _ _ gK ⟨s, n, t, (gK).m hm⟩ ((if_pos (c := an_r20 T B kd g pe v0) (rr.mp y)).symm.trans ((if_pos hy).symm.trans (if_pos (c := an_k20 v0) k20).symm)) (mF_y (a := (an_de T (an_E T B kd g pe 0) v0.toInt.toNat (an_jy T (an_E T B kd g pe 0) v0.toInt.toNat)).1) (b := (an_de T (an_E T B kd g pe 0) v0.toInt.toNat (an_jy T (an_E T B kd g pe 0) v0.toInt.toNat)).2) (if_pos ⟨k20, hy, rr.mp y⟩))))
theorem v_ndepth {ro : Nat → Nat × (Nat → Int32)} {Q : mPo} {d : Nat} {I : Nat → Nat → Int32} {L : Nat → Nat → Int64} {s n t : Nat} {T : ct_S} {B : ct_B} {kd g pe : Nat} {v0 : Int32} (hm : mM s n t I) (hO : pm_O T B kd g pe) (hM : pm_M T B kd g pe I) (hq : ∀ r I1 L1, mGr I I1 → mIM I1 → r = an_depth T B kd g pe v0 → Q (some (.int r)) (mSH, I1, L1)) : mWP mTb_ mFT ro (d + 5, 144, 0, [some (.ref 34), some (.int v0), none, none, none, none, none], [], 0, 0, (mSH, I, L)) Q := v_ndepthF hm hO hM (fun r I1 L1 a b c _ => hq r I1 L1 a b c)
theorem v_nrate1 {ro : Nat → Nat × (Nat → Int32)} {Q : mPo} {d : Nat} {I : Nat → Nat → Int32} {L : Nat → Nat → Int64} {T : ct_S} {e : bt_E} {j : Nat} (hT : ct_So T) (hS : cm_S T I) (hM : cm_M T.1.2.1 e I) (hv : bt_vl T.1.1 T.1.2.1 e.2) (hj : j < T.1.2.1) (hq : Q (some (.int 1)) (mSH, I, mUpL (mUpL L 34 7 (lN (fr_a (T.2.2 j) (an_Y T e j)))) 34 8 (lN (fr_b (T.2.2 j) (an_Y T e j)))))   : mWP mTb_ mFT ro (d + 5, 146, 22, [some (.ref 34), some (.int (nI j))], [], 0, 0, (mSH, I, L)) Q := by
  have n8 := hT.2.1
  have yb := (an_Yb hT hv hj).2
  have lb := hT.2.2.2.2 j hj
  refine mB 4 (s2 := (d + 5, 146, 28, [some (.ref 34), some (.int (nI j))], [.int (nI j), .ref 36, .ref 34], 0, 0, (mSH, I, L))) rfl ?_
  refine mRq (s2 := (d + 5, 146, 29, [some (.ref 34), some (.int (nI j))], [.int (I 36 ((nI j).toNatClampNeg)), .ref 34], 0, 0, (mSH, I, L))) rfl (mVp_of (vp_in_nI (by omega) (by omega))) ?_
  refine mB 3 (s2 := (d + 5, 146, 32, [some (.ref 34), some (.int (nI j))], [.int (nI j), .ref 34, .long ((I 36 ((nI j).toNatClampNeg) : Int32).toInt64), .ref 34], 0, 0, (mSH, I, L))) rfl ?_
  refine mCall (s2 := (d + 4, 145, 0, [some (.ref 34), some (.int (nI j)), none, none], [], 0, 0, (mSH, I, L))) rfl ?_
  refine x_by (e := e) hT hS hM hv hj ?_
  show mWP mTb_ mFT ro (d + 5, 146, 35, [some (.ref 34), some (.int (nI j))], [.int (nI (an_Y T e j)), .long ((I 36 ((nI j).toNatClampNeg) : Int32).toInt64), .ref 34], 0, 0, (mSH, I, L)) _
  refine mB 1 (s2 := (d + 5, 146, 36, [some (.ref 34), some (.int (nI j))], [.long ((nI (an_Y T e j) : Int32).toInt64), .long ((I 36 ((nI j).toNatClampNeg) : Int32).toInt64), .ref 34], 0, 0, (mSH, I, L))) rfl ?_
  refine mCall (s2 := (d + 4, 141, 0, [some (.ref 34), some (.long ((I 36 ((nI j).toNatClampNeg) : Int32).toInt64)), none, some (.long ((nI (an_Y T e j) : Int32).toInt64)), none, none, none, none, none, none, none], [], 0, 0, (mSH, I, L))) rfl ?_
  refine x_bec (a := T.2.2 j) (b := an_Y T e j) (by rw [nI_clamp (by omega), hS.2.2.2.2 j hj]; exact nI_l (by omega)) (nI_l (by omega)) (by omega) (by omega) yb.1 ?_
  show mWP mTb_ mFT ro (d + 5, 146, 39, [some (.ref 34), some (.int (nI j))], [.int 1], 0, 0, (mSH, I, (mUpL (mUpL L 34 7 (lN (fr_a (T.2.2 j) (an_Y T e j)))) 34 8 (lN (fr_b (T.2.2 j) (an_Y T e j)))))) _
  refine mB 1 (s2 := (d + 5, 146, 48, [some (.ref 34), some (.int (nI j))], [.int 1], 0, 0, (mSH, I, (mUpL (mUpL L 34 7 (lN (fr_a (T.2.2 j) (an_Y T e j)))) 34 8 (lN (fr_b (T.2.2 j) (an_Y T e j))))))) rfl ?_
  refine mRt (r := (some (.int 1))) (h := (mSH, I, (mUpL (mUpL L 34 7 (lN (fr_a (T.2.2 j) (an_Y T e j)))) 34 8 (lN (fr_b (T.2.2 j) (an_Y T e j)))))) rfl (mRet_int rfl) ?_
  exact hq
theorem v_nrateF {ro : Nat → Nat × (Nat → Int32)} {Q : mPo} {d : Nat} {I : Nat → Nat → Int32} {L : Nat → Nat → Int64} {s n t : Nat} {T : ct_S} {B : ct_B} {kd g pe : Nat} {v0 : Int32} (hm : mM s n t I) (hO : pm_O T B kd g pe) (hM : pm_M T B kd g pe I) (hq : ∀ r I1 L1, mGr I I1 → mIM I1 → r = an_rate T B kd g pe v0 → mF (an_rateF T B kd g pe v0) L L1 → Q (some (.int r)) (mSH, I1, L1))   : mWP mTb_ mFT ro (d + 5, 146, 0, [some (.ref 34), some (.int v0)], [], 0, 0, (mSH, I, L)) Q := by
  refine mB 2 (s2 := (d + 5, 146, 2, [some (.ref 34), some (.int v0)], [.int v0, .ref 34], 0, 0, (mSH, I, L))) rfl ?_
  refine mCall (s2 := (d + 4, 115, 0, [some (.ref 34), some (.int v0)], [], 0, 0, (mSH, I, L))) rfl ?_
  refine mB 6 (s2 := (d + 4, 115, 8, [some (.ref 34), some (.int v0)], [.int ((I 34 3) - 1), .int 0, .int v0], 0, 0, (mSH, I, L))) rfl ?_
  refine mCall (s2 := (d + 3, 112, 0, [some (.int v0), some (.int 0), some (.int ((I 34 3) - 1))], [], 0, 0, (mSH, I, L))) rfl ?_
  refine mB 2 (s2 := (d + 3, 112, 2, [some (.int v0), some (.int 0), some (.int ((I 34 3) - 1))], [.int 0, .int v0], 0, 0, (mSH, I, L))) rfl ?_
  refine mBr (s2 := (d + 3, 112, 14, [some (.int v0), some (.int 0), some (.int ((I 34 3) - 1))], [], 0, 0, (mSH, I, L))) (s3 := (d + 3, 112, 5, [some (.int v0), some (.int 0), some (.int ((I 34 3) - 1))], [], 0, 0, (mSH, I, L))) rfl (fun c0 => ?_) (fun c0 => ?_)
  · refine mB 1 (s2 := (d + 3, 112, 15, [some (.int v0), some (.int 0), some (.int ((I 34 3) - 1))], [.int 0], 0, 0, (mSH, I, L))) rfl ?_
    refine mRt (r := (some (.int 0))) (h := (mSH, I, L)) rfl rfl ?_
    show mWP mTb_ mFT ro (d + 4, 115, 11, [some (.ref 34), some (.int v0)], [.int 0], 0, 0, (mSH, I, L)) _
    refine mRt (r := (some (.int 0))) (h := (mSH, I, L)) rfl rfl ?_
    show mWP mTb_ mFT ro (d + 5, 146, 5, [some (.ref 34), some (.int v0)], [.int 0], 0, 0, (mSH, I, L)) _
    refine mBT (s2 := (d + 5, 146, 8, [some (.ref 34), some (.int v0)], [], 0, 0, (mSH, I, L))) rfl (by decide) ?_
    refine mB 2 (s2 := (d + 5, 146, 11, [some (.ref 34), some (.int v0)], [.int (-2), .ref 34], 0, 0, (mSH, I, L))) rfl ?_
    refine mCall (s2 := (d + 4, 113, 0, [some (.ref 34), some (.int (-2))], [], 0, 0, (mSH, I, L))) rfl ?_
    refine mB 6 (s2 := (d + 4, 113, 9, [some (.ref 34), some (.int (-2))], [.int 0, .ref 39, .int 0, .ref 39], 0, 0, (mSH, I, L))) rfl ?_
    refine mRq (s2 := (d + 4, 113, 10, [some (.ref 34), some (.int (-2))], [.int (I 39 0), .int 0, .ref 39], 0, 0, (mSH, I, L))) rfl (by decide) ?_
    refine mB 2 (s2 := (d + 4, 113, 12, [some (.ref 34), some (.int (-2))], [.int ((I 39 0) + 1), .int 0, .ref 39], 0, 0, (mSH, I, L))) rfl ?_
    refine mRq (s2 := (d + 4, 113, 13, [some (.ref 34), some (.int (-2))], [], 0, 0, (mSH, (mUp I 39 0 ((I 39 0) + 1)), L))) rfl (by decide) ?_
    refine mB 1 (s2 := (d + 4, 113, 14, [some (.ref 34), some (.int (-2))], [.int (-2)], 0, 0, (mSH, (mUp I 39 0 ((I 39 0) + 1)), L))) rfl ?_
    refine mRt (r := (some (.int (-2)))) (h := (mSH, (mUp I 39 0 ((I 39 0) + 1)), L)) rfl (mRet_int rfl) ?_
    show mWP mTb_ mFT ro (d + 5, 146, 14, [some (.ref 34), some (.int v0)], [.int (-2)], 0, 0, (mSH, (mUp I 39 0 ((I 39 0) + 1)), L)) _
    refine mRt (r := (some (.int (-2)))) (h := (mSH, (mUp I 39 0 ((I 39 0) + 1)), L)) rfl (mRet_int rfl) ?_
    exact hq _ _ _ (mGr.up (by rfl) mGr.rf) ⟨s, n, t, ((mGr.up (by rfl) mGr.rf)).m hm⟩ (if_neg (c := an_k21 T v0) (by have e1 := pm_ti hM.1.1 (by have := hO.1.1; omega); have e2 := pm_ti hM.1.2.1 (by have := hO.1.2.1; omega); have e3 := mSub1 hM.1.1 hO.1.1; have e4 := mSub1 hM.1.2.1 (Nat.le_trans hO.1.2.1 (by omega)); have e5 := hO.1.1; have e6 := hO.1.2.1; have a0 := of_decide_eq_true c0; simp only [Int32.lt_iff_toInt_lt, Int32.le_iff_toInt_le, ← Int32.toInt_inj, mLi0, mLi1, mLi2, mLi3, mLi4, mLi5, mLi6, mLi7, mLi8, mLi9, mLi10, mLi16, mLi32, mLi48, mLi57, mLi59, mLi65, mLi90, mLi97, mLi99, mLi120, mLi122, mLi127, mLi1584, mLi999999, mLim] at a0 <;> omega)).symm (mF_n (if_neg (fun z => absurd z.1 (by have e1 := pm_ti hM.1.1 (by have := hO.1.1; omega); have e2 := pm_ti hM.1.2.1 (by have := hO.1.2.1; omega); have e3 := mSub1 hM.1.1 hO.1.1; have e4 := mSub1 hM.1.2.1 (Nat.le_trans hO.1.2.1 (by omega)); have e5 := hO.1.1; have e6 := hO.1.2.1; have a0 := of_decide_eq_true c0; simp only [Int32.lt_iff_toInt_lt, Int32.le_iff_toInt_le, ← Int32.toInt_inj, mLi0, mLi1, mLi2, mLi3, mLi4, mLi5, mLi6, mLi7, mLi8, mLi9, mLi10, mLi16, mLi32, mLi48, mLi57, mLi59, mLi65, mLi90, mLi97, mLi99, mLi120, mLi122, mLi127, mLi1584, mLi999999, mLim] at a0 <;> omega))))
  · refine mB 2 (s2 := (d + 3, 112, 7, [some (.int v0), some (.int 0), some (.int ((I 34 3) - 1))], [.int ((I 34 3) - 1), .int v0], 0, 0, (mSH, I, L))) rfl ?_
    refine mBr (s2 := (d + 3, 112, 14, [some (.int v0), some (.int 0), some (.int ((I 34 3) - 1))], [], 0, 0, (mSH, I, L))) (s3 := (d + 3, 112, 10, [some (.int v0), some (.int 0), some (.int ((I 34 3) - 1))], [], 0, 0, (mSH, I, L))) rfl (fun c1 => ?_) (fun c1 => ?_)
    · refine mB 1 (s2 := (d + 3, 112, 15, [some (.int v0), some (.int 0), some (.int ((I 34 3) - 1))], [.int 0], 0, 0, (mSH, I, L))) rfl ?_
      refine mRt (r := (some (.int 0))) (h := (mSH, I, L)) rfl rfl ?_
      show mWP mTb_ mFT ro (d + 4, 115, 11, [some (.ref 34), some (.int v0)], [.int 0], 0, 0, (mSH, I, L)) _
      refine mRt (r := (some (.int 0))) (h := (mSH, I, L)) rfl rfl ?_
      show mWP mTb_ mFT ro (d + 5, 146, 5, [some (.ref 34), some (.int v0)], [.int 0], 0, 0, (mSH, I, L)) _
      refine mBT (s2 := (d + 5, 146, 8, [some (.ref 34), some (.int v0)], [], 0, 0, (mSH, I, L))) rfl (by decide) ?_
      refine mB 2 (s2 := (d + 5, 146, 11, [some (.ref 34), some (.int v0)], [.int (-2), .ref 34], 0, 0, (mSH, I, L))) rfl ?_
      refine mCall (s2 := (d + 4, 113, 0, [some (.ref 34), some (.int (-2))], [], 0, 0, (mSH, I, L))) rfl ?_
      refine mB 6 (s2 := (d + 4, 113, 9, [some (.ref 34), some (.int (-2))], [.int 0, .ref 39, .int 0, .ref 39], 0, 0, (mSH, I, L))) rfl ?_
      refine mRq (s2 := (d + 4, 113, 10, [some (.ref 34), some (.int (-2))], [.int (I 39 0), .int 0, .ref 39], 0, 0, (mSH, I, L))) rfl (by decide) ?_
      refine mB 2 (s2 := (d + 4, 113, 12, [some (.ref 34), some (.int (-2))], [.int ((I 39 0) + 1), .int 0, .ref 39], 0, 0, (mSH, I, L))) rfl ?_
      refine mRq (s2 := (d + 4, 113, 13, [some (.ref 34), some (.int (-2))], [], 0, 0, (mSH, (mUp I 39 0 ((I 39 0) + 1)), L))) rfl (by decide) ?_
      refine mB 1 (s2 := (d + 4, 113, 14, [some (.ref 34), some (.int (-2))], [.int (-2)], 0, 0, (mSH, (mUp I 39 0 ((I 39 0) + 1)), L))) rfl ?_
      refine mRt (r := (some (.int (-2)))) (h := (mSH, (mUp I 39 0 ((I 39 0) + 1)), L)) rfl (mRet_int rfl) ?_
      show mWP mTb_ mFT ro (d + 5, 146, 14, [some (.ref 34), some (.int v0)], [.int (-2)], 0, 0, (mSH, (mUp I 39 0 ((I 39 0) + 1)), L)) _
      refine mRt (r := (some (.int (-2)))) (h := (mSH, (mUp I 39 0 ((I 39 0) + 1)), L)) rfl (mRet_int rfl) ?_
      exact hq _ _ _ (mGr.up (by rfl) mGr.rf) ⟨s, n, t, ((mGr.up (by rfl) mGr.rf)).m hm⟩ (if_neg (c := an_k21 T v0) (by have e1 := pm_ti hM.1.1 (by have := hO.1.1; omega); have e2 := pm_ti hM.1.2.1 (by have := hO.1.2.1; omega); have e3 := mSub1 hM.1.1 hO.1.1; have e4 := mSub1 hM.1.2.1 (Nat.le_trans hO.1.2.1 (by omega)); have e5 := hO.1.1; have e6 := hO.1.2.1; have a0 := of_decide_eq_false c0; have a1 := of_decide_eq_true c1; simp only [Int32.lt_iff_toInt_lt, Int32.le_iff_toInt_le, ← Int32.toInt_inj, mLi0, mLi1, mLi2, mLi3, mLi4, mLi5, mLi6, mLi7, mLi8, mLi9, mLi10, mLi16, mLi32, mLi48, mLi57, mLi59, mLi65, mLi90, mLi97, mLi99, mLi120, mLi122, mLi127, mLi1584, mLi999999, mLim] at a0 a1 <;> omega)).symm (mF_n (if_neg (fun z => absurd z.1 (by have e1 := pm_ti hM.1.1 (by have := hO.1.1; omega); have e2 := pm_ti hM.1.2.1 (by have := hO.1.2.1; omega); have e3 := mSub1 hM.1.1 hO.1.1; have e4 := mSub1 hM.1.2.1 (Nat.le_trans hO.1.2.1 (by omega)); have e5 := hO.1.1; have e6 := hO.1.2.1; have a0 := of_decide_eq_false c0; have a1 := of_decide_eq_true c1; simp only [Int32.lt_iff_toInt_lt, Int32.le_iff_toInt_le, ← Int32.toInt_inj, mLi0, mLi1, mLi2, mLi3, mLi4, mLi5, mLi6, mLi7, mLi8, mLi9, mLi10, mLi16, mLi32, mLi48, mLi57, mLi59, mLi65, mLi90, mLi97, mLi99, mLi120, mLi122, mLi127, mLi1584, mLi999999, mLim] at a0 a1 <;> omega))))
    · refine mB 2 (s2 := (d + 3, 112, 15, [some (.int v0), some (.int 0), some (.int ((I 34 3) - 1))], [.int 1], 0, 0, (mSH, I, L))) rfl ?_
      refine mRt (r := (some (.int 1))) (h := (mSH, I, L)) rfl rfl ?_
      show mWP mTb_ mFT ro (d + 4, 115, 11, [some (.ref 34), some (.int v0)], [.int 1], 0, 0, (mSH, I, L)) _
      refine mRt (r := (some (.int 1))) (h := (mSH, I, L)) rfl rfl ?_
      show mWP mTb_ mFT ro (d + 5, 146, 5, [some (.ref 34), some (.int v0)], [.int 1], 0, 0, (mSH, I, L)) _
      refine mBF (s3 := (d + 5, 146, 15, [some (.ref 34), some (.int v0)], [], 0, 0, (mSH, I, L))) rfl (by decide) ?_
      refine mB 1 (s2 := (d + 5, 146, 16, [some (.ref 34), some (.int v0)], [.ref 34], 0, 0, (mSH, I, L))) rfl ?_
      refine mCall (s2 := (d + 4, 132, 0, [some (.ref 34)], [], 0, 0, (mSH, I, L))) rfl ?_
      refine x_isfx hO hM (fun rK K gK fK bK iK => ?_)
      show mWP mTb_ mFT ro (d + 5, 146, 19, [some (.ref 34), some (.int v0)], [.int rK], 0, 0, (mSH, K, L)) _
      refine mBr (s2 := (d + 5, 146, 42, [some (.ref 34), some (.int v0)], [], 0, 0, (mSH, K, L))) (s3 := (d + 5, 146, 22, [some (.ref 34), some (.int v0)], [], 0, 0, (mSH, K, L))) rfl (fun c2 => ?_) (fun c2 => ?_)
      · refine mB 2 (s2 := (d + 5, 146, 45, [some (.ref 34), some (.int v0)], [.int (-3), .ref 34], 0, 0, (mSH, K, L))) rfl ?_
        refine mCall (s2 := (d + 4, 113, 0, [some (.ref 34), some (.int (-3))], [], 0, 0, (mSH, K, L))) rfl ?_
        refine mB 6 (s2 := (d + 4, 113, 9, [some (.ref 34), some (.int (-3))], [.int 1, .ref 39, .int 1, .ref 39], 0, 0, (mSH, K, L))) rfl ?_
        refine mRq (s2 := (d + 4, 113, 10, [some (.ref 34), some (.int (-3))], [.int (K 39 1), .int 1, .ref 39], 0, 0, (mSH, K, L))) rfl (by decide) ?_
        refine mB 2 (s2 := (d + 4, 113, 12, [some (.ref 34), some (.int (-3))], [.int ((K 39 1) + 1), .int 1, .ref 39], 0, 0, (mSH, K, L))) rfl ?_
        refine mRq (s2 := (d + 4, 113, 13, [some (.ref 34), some (.int (-3))], [], 0, 0, (mSH, (mUp K 39 1 ((K 39 1) + 1)), L))) rfl (by decide) ?_
        refine mB 1 (s2 := (d + 4, 113, 14, [some (.ref 34), some (.int (-3))], [.int (-3)], 0, 0, (mSH, (mUp K 39 1 ((K 39 1) + 1)), L))) rfl ?_
        refine mRt (r := (some (.int (-3)))) (h := (mSH, (mUp K 39 1 ((K 39 1) + 1)), L)) rfl (mRet_int rfl) ?_
        show mWP mTb_ mFT ro (d + 5, 146, 48, [some (.ref 34), some (.int v0)], [.int (-3)], 0, 0, (mSH, (mUp K 39 1 ((K 39 1) + 1)), L)) _
        refine mRt (r := (some (.int (-3)))) (h := (mSH, (mUp K 39 1 ((K 39 1) + 1)), L)) rfl (mRet_int rfl) ?_
        exact hq _ _ _ (mGr.up (by rfl) gK) ⟨s, n, t, ((mGr.up (by rfl) gK)).m hm⟩ ((if_neg (iK.mp (of_decide_eq_true c2))).symm.trans (if_pos (c := an_k21 T v0) (by have e1 := pm_ti hM.1.1 (by have := hO.1.1; omega); have e2 := pm_ti hM.1.2.1 (by have := hO.1.2.1; omega); have e3 := mSub1 hM.1.1 hO.1.1; have e4 := mSub1 hM.1.2.1 (Nat.le_trans hO.1.2.1 (by omega)); have e5 := hO.1.1; have e6 := hO.1.2.1; have a0 := of_decide_eq_false c0; have a1 := of_decide_eq_false c1; simp only [Int32.lt_iff_toInt_lt, Int32.le_iff_toInt_le, ← Int32.toInt_inj, mLi0, mLi1, mLi2, mLi3, mLi4, mLi5, mLi6, mLi7, mLi8, mLi9, mLi10, mLi16, mLi32, mLi48, mLi57, mLi59, mLi65, mLi90, mLi97, mLi99, mLi120, mLi122, mLi127, mLi1584, mLi999999, mLim] at a0 a1 <;> omega)).symm) (mF_n (if_neg (fun z => (iK.mp (of_decide_eq_true c2)) z.2)))
      · (have k21 : an_k21 T v0 := (by have e1 := pm_ti hM.1.1 (by have := hO.1.1; omega); have e2 := pm_ti hM.1.2.1 (by have := hO.1.2.1; omega); have e3 := mSub1 hM.1.1 hO.1.1; have e4 := mSub1 hM.1.2.1 (Nat.le_trans hO.1.2.1 (by omega)); have e5 := hO.1.1; have e6 := hO.1.2.1; have a0 := of_decide_eq_false c0; have a1 := of_decide_eq_false c1; simp only [Int32.lt_iff_toInt_lt, Int32.le_iff_toInt_le, ← Int32.toInt_inj, mLi0, mLi1, mLi2, mLi3, mLi4, mLi5, mLi6, mLi7, mLi8, mLi9, mLi10, mLi16, mLi32, mLi48, mLi57, mLi59, mLi65, mLi90, mLi97, mLi99, mLi120, mLi122, mLi127, mLi1584, mLi999999, mLim] at a0 a1 <;> omega); have hy : (an_E T B kd g pe 0).1 < bt_U := Decidable.of_not_not (mt iK.mpr (of_decide_eq_false c2)); obtain ⟨j, hj, e⟩ := mNat hM.1.2.1 (Nat.le_trans hO.1.2.1 (by omega)) (of_decide_eq_false c0) (of_decide_eq_false c1); subst e; have ej : (nI j).toInt.toNat = j := pm_tn (by have := hO.1.2.1; omega); exact v_nrate1 (e := (an_E T B kd g pe 0)) hO.1 (hM.1.gr gK) (cm_M.of fK.1.1 (show (an_E T B kd g pe 0).1 < bt_U from hy)) (an_v hO hy).1 hj (hq _ _ _ gK ⟨s, n, t, (gK).m hm⟩ ((if_pos hy).symm.trans (if_pos (c := an_k21 T (nI j)) k21).symm) (mF_y (by unfold an_rateF; rw [if_pos ⟨k21, hy⟩, ej]))))
theorem v_nrate {ro : Nat → Nat × (Nat → Int32)} {Q : mPo} {d : Nat} {I : Nat → Nat → Int32} {L : Nat → Nat → Int64} {s n t : Nat} {T : ct_S} {B : ct_B} {kd g pe : Nat} {v0 : Int32} (hm : mM s n t I) (hO : pm_O T B kd g pe) (hM : pm_M T B kd g pe I) (hq : ∀ r I1 L1, mGr I I1 → mIM I1 → r = an_rate T B kd g pe v0 → Q (some (.int r)) (mSH, I1, L1)) : mWP mTb_ mFT ro (d + 5, 146, 0, [some (.ref 34), some (.int v0)], [], 0, 0, (mSH, I, L)) Q := v_nrateF hm hO hM (fun r I1 L1 a b c _ => hq r I1 L1 a b c)
theorem s_fax {ro : Nat → Nat × (Nat → Int32)} {Q : mPo} {d : Nat} {I : Nat → Nat → Int32} {L : Nat → Nat → Int64} {T : ct_S} {e : bt_E} {v0 : Int32} {b k : Nat} {o4 : Option Value} (hT : ct_So T) (hS : cm_S T I) (hM : cm_M T.1.2.1 e I) (hv : bt_vl T.1.1 T.1.2.1 e.2) (hv0 : v0 = 0 ∨ v0 = 1) (hb : b < T.1.2.1) (hk : ¬ (I 34 3 ≤ nI k) → k < T.1.2.1) (hq : I 34 3 ≤ nI k → Q (some (.int (nI b))) (mSH, I, L)) (ih0 : ∀ o4, ¬ (I 34 3 ≤ nI k) → ¬ (an_bt T e (decide (v0.toInt = 0)) k b = true) → mWP mTb_ mFT ro (d + 2, 147, 34, [some (.ref 34), some (.int v0), some (.int (nI b)), some (.int (nI k + 1)), o4], [], 0, 0, (mSH, I, L)) Q) (ih1 : ∀ o4, ¬ (I 34 3 ≤ nI k) → an_bt T e (decide (v0.toInt = 0)) k b = true → mWP mTb_ mFT ro (d + 2, 147, 34, [some (.ref 34), some (.int v0), some (.int (nI k)), some (.int (nI k + 1)), o4], [], 0, 0, (mSH, I, L)) Q)   : mWP mTb_ mFT ro (d + 2, 147, 34, [some (.ref 34), some (.int v0), some (.int (nI b)), some (.int (nI k)), o4], [], 0, 0, (mSH, I, L)) Q := by
  have n8 := hT.2.1
  have ed : ¬ I 34 3 ≤ nI k → ((((I 36 ((nI k).toNatClampNeg)) * (nI (an_Y T e b))) - ((I 36 ((nI b).toNatClampNeg)) * (nI (an_Y T e k))))).toInt = (T.2.2 k * an_Y T e b : Nat) - (T.2.2 b * an_Y T e k : Nat) := fun zk => by
    have kn := hk zk
    have ya := (an_Yb hT hv kn).2
    have yb := (an_Yb hT hv hb).2
    have la := hT.2.2.2.2 k kn
    have lb := hT.2.2.2.2 b hb
    have m1 : T.2.2 k * an_Y T e b ≤ 999 * 1584 := Nat.mul_le_mul la.2 yb.2
    have m2 : T.2.2 b * an_Y T e k ≤ 999 * 1584 := Nat.mul_le_mul lb.2 ya.2
    rw [nI_clamp (n := k) (by omega), nI_clamp (n := b) (by omega), hS.2.2.2.2 k kn, hS.2.2.2.2 b hb, nI_mul, nI_mul]
    exact pk_sub_toInt (by omega) (by omega)
  have gt0 : ¬ I 34 3 ≤ nI k → ((0 : Int32) < (((I 36 ((nI k).toNatClampNeg)) * (nI (an_Y T e b))) - ((I 36 ((nI b).toNatClampNeg)) * (nI (an_Y T e k)))) ↔ T.2.2 b * an_Y T e k < T.2.2 k * an_Y T e b) := fun zk => by
    rw [Int32.lt_iff_toInt_lt, ed zk, mLi0]
    omega
  have lt0 : ¬ I 34 3 ≤ nI k → ((¬ (0 : Int32) ≤ (((I 36 ((nI k).toNatClampNeg)) * (nI (an_Y T e b))) - ((I 36 ((nI b).toNatClampNeg)) * (nI (an_Y T e k))))) ↔ T.2.2 k * an_Y T e b < T.2.2 b * an_Y T e k) := fun zk => by
    rw [Int32.le_iff_toInt_le, ed zk, mLi0]
    omega
  have btT : v0 = 0 → (an_bt T e (decide (v0.toInt = 0)) k b = true ↔ T.2.2 b * an_Y T e k < T.2.2 k * an_Y T e b) := fun y => by
    rw [y]
    show decide _ = true ↔ _
    exact decide_eq_true_iff
  have btF : ¬ v0 = 0 → (an_bt T e (decide (v0.toInt = 0)) k b = true ↔ T.2.2 k * an_Y T e b < T.2.2 b * an_Y T e k) := fun y => by
    have w : decide (v0.toInt = 0) = false := decide_eq_false (fun u => y (Int32.toInt_inj.mp u))
    rw [w]
    show decide _ = true ↔ _
    exact decide_eq_true_iff
  refine mB 3 (s2 := (d + 2, 147, 39, [some (.ref 34), some (.int v0), some (.int (nI b)), some (.int (nI k)), o4], [.int (I 34 3), .int (nI k)], 0, 0, (mSH, I, L))) rfl ?_
  refine mBr (s2 := (d + 2, 147, 100, [some (.ref 34), some (.int v0), some (.int (nI b)), some (.int (nI k)), o4], [], 0, 0, (mSH, I, L))) (s3 := (d + 2, 147, 42, [some (.ref 34), some (.int v0), some (.int (nI b)), some (.int (nI k)), o4], [], 0, 0, (mSH, I, L))) rfl (fun c0 => ?_) (fun c0 => ?_)
  · refine mB 1 (s2 := (d + 2, 147, 101, [some (.ref 34), some (.int v0), some (.int (nI b)), some (.int (nI k)), o4], [.int (nI b)], 0, 0, (mSH, I, L))) rfl ?_
    refine mRt (r := (some (.int (nI b)))) (h := (mSH, I, L)) rfl (mRet_int rfl) ?_
    exact hq (of_decide_eq_true c0)
  · refine mB 3 (s2 := (d + 2, 147, 47, [some (.ref 34), some (.int v0), some (.int (nI b)), some (.int (nI k)), o4], [.int (nI k), .ref 36], 0, 0, (mSH, I, L))) rfl ?_
    refine mRq (s2 := (d + 2, 147, 48, [some (.ref 34), some (.int v0), some (.int (nI b)), some (.int (nI k)), o4], [.int (I 36 ((nI k).toNatClampNeg))], 0, 0, (mSH, I, L))) rfl (mVp_of (vp_in_nI (by have := hk (of_decide_eq_false c0); omega) (by omega))) ?_
    refine mB 2 (s2 := (d + 2, 147, 50, [some (.ref 34), some (.int v0), some (.int (nI b)), some (.int (nI k)), o4], [.int (nI b), .ref 34, .int (I 36 ((nI k).toNatClampNeg))], 0, 0, (mSH, I, L))) rfl ?_
    refine mCall (s2 := (d + 1, 145, 0, [some (.ref 34), some (.int (nI b)), none, none], [], 0, 0, (mSH, I, L))) rfl ?_
    refine x_by (e := e) hT hS hM hv hb ?_
    show mWP mTb_ mFT ro (d + 2, 147, 53, [some (.ref 34), some (.int v0), some (.int (nI b)), some (.int (nI k)), o4], [.int (nI (an_Y T e b)), .int (I 36 ((nI k).toNatClampNeg))], 0, 0, (mSH, I, L)) _
    refine mB 4 (s2 := (d + 2, 147, 59, [some (.ref 34), some (.int v0), some (.int (nI b)), some (.int (nI k)), o4], [.int (nI b), .ref 36, .int ((I 36 ((nI k).toNatClampNeg)) * (nI (an_Y T e b)))], 0, 0, (mSH, I, L))) rfl ?_
    refine mRq (s2 := (d + 2, 147, 60, [some (.ref 34), some (.int v0), some (.int (nI b)), some (.int (nI k)), o4], [.int (I 36 ((nI b).toNatClampNeg)), .int ((I 36 ((nI k).toNatClampNeg)) * (nI (an_Y T e b)))], 0, 0, (mSH, I, L))) rfl (mVp_of (vp_in_nI (by omega) (by omega))) ?_
    refine mB 2 (s2 := (d + 2, 147, 62, [some (.ref 34), some (.int v0), some (.int (nI b)), some (.int (nI k)), o4], [.int (nI k), .ref 34, .int (I 36 ((nI b).toNatClampNeg)), .int ((I 36 ((nI k).toNatClampNeg)) * (nI (an_Y T e b)))], 0, 0, (mSH, I, L))) rfl ?_
    refine mCall (s2 := (d + 1, 145, 0, [some (.ref 34), some (.int (nI k)), none, none], [], 0, 0, (mSH, I, L))) rfl ?_
    refine x_by (e := e) hT hS hM hv (hk (of_decide_eq_false c0)) ?_
    show mWP mTb_ mFT ro (d + 2, 147, 65, [some (.ref 34), some (.int v0), some (.int (nI b)), some (.int (nI k)), o4], [.int (nI (an_Y T e k)), .int (I 36 ((nI b).toNatClampNeg)), .int ((I 36 ((nI k).toNatClampNeg)) * (nI (an_Y T e b)))], 0, 0, (mSH, I, L)) _
    refine mB 4 (s2 := (d + 2, 147, 70, [some (.ref 34), some (.int v0), some (.int (nI b)), some (.int (nI k)), some (.int (((I 36 ((nI k).toNatClampNeg)) * (nI (an_Y T e b))) - ((I 36 ((nI b).toNatClampNeg)) * (nI (an_Y T e k)))))], [.int v0], 0, 0, (mSH, I, L))) rfl ?_
    refine mBr (s2 := (d + 2, 147, 73, [some (.ref 34), some (.int v0), some (.int (nI b)), some (.int (nI k)), some (.int (((I 36 ((nI k).toNatClampNeg)) * (nI (an_Y T e b))) - ((I 36 ((nI b).toNatClampNeg)) * (nI (an_Y T e k)))))], [], 0, 0, (mSH, I, L))) (s3 := (d + 2, 147, 78, [some (.ref 34), some (.int v0), some (.int (nI b)), some (.int (nI k)), some (.int (((I 36 ((nI k).toNatClampNeg)) * (nI (an_Y T e b))) - ((I 36 ((nI b).toNatClampNeg)) * (nI (an_Y T e k)))))], [], 0, 0, (mSH, I, L))) rfl (fun c1 => ?_) (fun c1 => ?_)
    · refine mB 1 (s2 := (d + 2, 147, 75, [some (.ref 34), some (.int v0), some (.int (nI b)), some (.int (nI k)), some (.int (((I 36 ((nI k).toNatClampNeg)) * (nI (an_Y T e b))) - ((I 36 ((nI b).toNatClampNeg)) * (nI (an_Y T e k)))))], [.int (((I 36 ((nI k).toNatClampNeg)) * (nI (an_Y T e b))) - ((I 36 ((nI b).toNatClampNeg)) * (nI (an_Y T e k))))], 0, 0, (mSH, I, L))) rfl ?_
      refine mBr (s2 := (d + 2, 147, 88, [some (.ref 34), some (.int v0), some (.int (nI b)), some (.int (nI k)), some (.int (((I 36 ((nI k).toNatClampNeg)) * (nI (an_Y T e b))) - ((I 36 ((nI b).toNatClampNeg)) * (nI (an_Y T e k)))))], [], 0, 0, (mSH, I, L))) (s3 := (d + 2, 147, 78, [some (.ref 34), some (.int v0), some (.int (nI b)), some (.int (nI k)), some (.int (((I 36 ((nI k).toNatClampNeg)) * (nI (an_Y T e b))) - ((I 36 ((nI b).toNatClampNeg)) * (nI (an_Y T e k)))))], [], 0, 0, (mSH, I, L))) rfl (fun c2 => ?_) (fun c2 => ?_)
      · refine mB 5 (s2 := (d + 2, 147, 34, [some (.ref 34), some (.int v0), some (.int (nI k)), some (.int ((nI k) + 1)), some (.int (((I 36 ((nI k).toNatClampNeg)) * (nI (an_Y T e b))) - ((I 36 ((nI b).toNatClampNeg)) * (nI (an_Y T e k)))))], [], 0, 0, (mSH, I, L))) rfl ?_
        exact ih1 _ (of_decide_eq_false c0) ((btT (of_decide_eq_true c1)).mpr ((gt0 (of_decide_eq_false c0)).mp (of_decide_eq_true c2)))
      · refine mB 2 (s2 := (d + 2, 147, 80, [some (.ref 34), some (.int v0), some (.int (nI b)), some (.int (nI k)), some (.int (((I 36 ((nI k).toNatClampNeg)) * (nI (an_Y T e b))) - ((I 36 ((nI b).toNatClampNeg)) * (nI (an_Y T e k)))))], [.int 1, .int v0], 0, 0, (mSH, I, L))) rfl ?_
        refine mBF (s3 := (d + 2, 147, 92, [some (.ref 34), some (.int v0), some (.int (nI b)), some (.int (nI k)), some (.int (((I 36 ((nI k).toNatClampNeg)) * (nI (an_Y T e b))) - ((I 36 ((nI b).toNatClampNeg)) * (nI (an_Y T e k)))))], [], 0, 0, (mSH, I, L))) rfl (by first | (simp only [of_decide_eq_true c1]; first | decide | rfl) | decide | rfl) ?_
        refine mB 4 (s2 := (d + 2, 147, 34, [some (.ref 34), some (.int v0), some (.int (nI b)), some (.int ((nI k) + 1)), some (.int (((I 36 ((nI k).toNatClampNeg)) * (nI (an_Y T e b))) - ((I 36 ((nI b).toNatClampNeg)) * (nI (an_Y T e k)))))], [], 0, 0, (mSH, I, L))) rfl ?_
        exact ih0 _ (of_decide_eq_false c0) (fun y => of_decide_eq_false c2 ((gt0 (of_decide_eq_false c0)).mpr ((btT (of_decide_eq_true c1)).mp y)))
    · refine mB 2 (s2 := (d + 2, 147, 80, [some (.ref 34), some (.int v0), some (.int (nI b)), some (.int (nI k)), some (.int (((I 36 ((nI k).toNatClampNeg)) * (nI (an_Y T e b))) - ((I 36 ((nI b).toNatClampNeg)) * (nI (an_Y T e k)))))], [.int 1, .int v0], 0, 0, (mSH, I, L))) rfl ?_
      refine mBr (s2 := (d + 2, 147, 83, [some (.ref 34), some (.int v0), some (.int (nI b)), some (.int (nI k)), some (.int (((I 36 ((nI k).toNatClampNeg)) * (nI (an_Y T e b))) - ((I 36 ((nI b).toNatClampNeg)) * (nI (an_Y T e k)))))], [], 0, 0, (mSH, I, L))) (s3 := (d + 2, 147, 92, [some (.ref 34), some (.int v0), some (.int (nI b)), some (.int (nI k)), some (.int (((I 36 ((nI k).toNatClampNeg)) * (nI (an_Y T e b))) - ((I 36 ((nI b).toNatClampNeg)) * (nI (an_Y T e k)))))], [], 0, 0, (mSH, I, L))) rfl (fun c2 => ?_) (fun c2 => ?_)
      · refine mB 1 (s2 := (d + 2, 147, 85, [some (.ref 34), some (.int v0), some (.int (nI b)), some (.int (nI k)), some (.int (((I 36 ((nI k).toNatClampNeg)) * (nI (an_Y T e b))) - ((I 36 ((nI b).toNatClampNeg)) * (nI (an_Y T e k)))))], [.int (((I 36 ((nI k).toNatClampNeg)) * (nI (an_Y T e b))) - ((I 36 ((nI b).toNatClampNeg)) * (nI (an_Y T e k))))], 0, 0, (mSH, I, L))) rfl ?_
        refine mBr (s2 := (d + 2, 147, 92, [some (.ref 34), some (.int v0), some (.int (nI b)), some (.int (nI k)), some (.int (((I 36 ((nI k).toNatClampNeg)) * (nI (an_Y T e b))) - ((I 36 ((nI b).toNatClampNeg)) * (nI (an_Y T e k)))))], [], 0, 0, (mSH, I, L))) (s3 := (d + 2, 147, 88, [some (.ref 34), some (.int v0), some (.int (nI b)), some (.int (nI k)), some (.int (((I 36 ((nI k).toNatClampNeg)) * (nI (an_Y T e b))) - ((I 36 ((nI b).toNatClampNeg)) * (nI (an_Y T e k)))))], [], 0, 0, (mSH, I, L))) rfl (fun c3 => ?_) (fun c3 => ?_)
        · refine mB 4 (s2 := (d + 2, 147, 34, [some (.ref 34), some (.int v0), some (.int (nI b)), some (.int ((nI k) + 1)), some (.int (((I 36 ((nI k).toNatClampNeg)) * (nI (an_Y T e b))) - ((I 36 ((nI b).toNatClampNeg)) * (nI (an_Y T e k)))))], [], 0, 0, (mSH, I, L))) rfl ?_
          exact ih0 _ (of_decide_eq_false c0) (fun y => ((lt0 (of_decide_eq_false c0)).mpr ((btF (of_decide_eq_false c1)).mp y)) (of_decide_eq_true c3))
        · refine mB 5 (s2 := (d + 2, 147, 34, [some (.ref 34), some (.int v0), some (.int (nI k)), some (.int ((nI k) + 1)), some (.int (((I 36 ((nI k).toNatClampNeg)) * (nI (an_Y T e b))) - ((I 36 ((nI b).toNatClampNeg)) * (nI (an_Y T e k)))))], [], 0, 0, (mSH, I, L))) rfl ?_
          exact ih1 _ (of_decide_eq_false c0) ((btF (of_decide_eq_false c1)).mpr ((lt0 (of_decide_eq_false c0)).mp (of_decide_eq_false c3)))
      · refine mB 4 (s2 := (d + 2, 147, 34, [some (.ref 34), some (.int v0), some (.int (nI b)), some (.int ((nI k) + 1)), some (.int (((I 36 ((nI k).toNatClampNeg)) * (nI (an_Y T e b))) - ((I 36 ((nI b).toNatClampNeg)) * (nI (an_Y T e k)))))], [], 0, 0, (mSH, I, L))) rfl ?_
        exact absurd hv0 (fun y => y.elim (fun z => (of_decide_eq_false c1) z) (fun z => (of_decide_eq_false c2) z))
theorem l_fax {ro : Nat → Nat × (Nat → Int32)} {Q : mPo} {d : Nat} {I : Nat → Nat → Int32} {L : Nat → Nat → Int64} {T : ct_S} {e : bt_E} {v0 : Int32} (hT : ct_So T) (hS : cm_S T I) (hM : cm_M T.1.2.1 e I) (hv : bt_vl T.1.1 T.1.2.1 e.2) (hv0 : v0 = 0 ∨ v0 = 1) (hq : Q (some (.int (nI (an_fa T e (decide (v0.toInt = 0)) T.1.2.1)))) (mSH, I, L)) : ∀ (f k : Nat), k + f = T.1.2.1 → 0 < k → ∀ o4, mWP mTb_ mFT ro (d + 2, 147, 34, [some (.ref 34), some (.int v0), some (.int (nI (an_fa T e (decide (v0.toInt = 0)) k))), some (.int (nI k)), o4], [], 0, 0, (mSH, I, L)) Q := by
  have n8 := hT.2.1
  intro f
  induction f with
  | zero =>
    intro k hk k0 o4
    have ek : k = T.1.2.1 := by omega
    subst ek
    have z : I 34 3 ≤ nI T.1.2.1 := by
      rw [hS.2.1]
      exact nI_le (Nat.le_refl _) (by omega)
    exact s_fax hT hS hM hv hv0 ((an_fal _ n8).2 k0) (fun c => absurd z c) (fun _ => hq) (fun _ c => absurd z c) (fun _ c => absurd z c)
  | succ f ih =>
    intro k hk k0 o4
    have z : ¬ I 34 3 ≤ nI k := by
      rw [hS.2.1]
      exact nI_ge (by omega) (by omega)
    have l := (an_fal (T := T) (e := e) (w := decide (v0.toInt = 0)) k (by omega)).2 k0
    have nx := ih (k + 1) (by omega) (by omega)
    refine s_fax hT hS hM hv hv0 (by omega) (fun _ => by omega) (fun c => absurd c z) (fun o4 _ c => ?_) (fun o4 _ c => ?_)
    · have y : an_fa T e (decide (v0.toInt = 0)) (k + 1) = an_fa T e (decide (v0.toInt = 0)) k := if_neg c
      rw [y] at nx
      rw [nI_1]
      exact nx o4
    · have y : an_fa T e (decide (v0.toInt = 0)) (k + 1) = k := if_pos c
      rw [y] at nx
      rw [nI_1]
      exact nx o4
theorem v_nfastest {ro : Nat → Nat × (Nat → Int32)} {Q : mPo} {d : Nat} {I : Nat → Nat → Int32} {L : Nat → Nat → Int64} {s n t : Nat} {T : ct_S} {B : ct_B} {kd g pe : Nat} {v0 : Int32} (hm : mM s n t I) (hO : pm_O T B kd g pe) (hM : pm_M T B kd g pe I) (hq : ∀ r I1 L1, mGr I I1 → mIM I1 → r = an_fastest T B kd g pe v0 → Q (some (.int r)) (mSH, I1, L1))   : mWP mTb_ mFT ro (d + 5, 147, 0, [some (.ref 34), some (.int v0), none, none, none], [], 0, 0, (mSH, I, L)) Q := by
  refine mB 3 (s2 := (d + 5, 147, 3, [some (.ref 34), some (.int v0), none, none, none], [.int 1, .int 0, .int v0], 0, 0, (mSH, I, L))) rfl ?_
  refine mCall (s2 := (d + 4, 112, 0, [some (.int v0), some (.int 0), some (.int 1)], [], 0, 0, (mSH, I, L))) rfl ?_
  refine mB 2 (s2 := (d + 4, 112, 2, [some (.int v0), some (.int 0), some (.int 1)], [.int 0, .int v0], 0, 0, (mSH, I, L))) rfl ?_
  refine mBr (s2 := (d + 4, 112, 14, [some (.int v0), some (.int 0), some (.int 1)], [], 0, 0, (mSH, I, L))) (s3 := (d + 4, 112, 5, [some (.int v0), some (.int 0), some (.int 1)], [], 0, 0, (mSH, I, L))) rfl (fun c0 => ?_) (fun c0 => ?_)
  · refine mB 1 (s2 := (d + 4, 112, 15, [some (.int v0), some (.int 0), some (.int 1)], [.int 0], 0, 0, (mSH, I, L))) rfl ?_
    refine mRt (r := (some (.int 0))) (h := (mSH, I, L)) rfl rfl ?_
    show mWP mTb_ mFT ro (d + 5, 147, 6, [some (.ref 34), some (.int v0), none, none, none], [.int 0], 0, 0, (mSH, I, L)) _
    refine mBT (s2 := (d + 5, 147, 9, [some (.ref 34), some (.int v0), none, none, none], [], 0, 0, (mSH, I, L))) rfl (by decide) ?_
    refine mB 2 (s2 := (d + 5, 147, 12, [some (.ref 34), some (.int v0), none, none, none], [.int (-2), .ref 34], 0, 0, (mSH, I, L))) rfl ?_
    refine mCall (s2 := (d + 4, 113, 0, [some (.ref 34), some (.int (-2))], [], 0, 0, (mSH, I, L))) rfl ?_
    refine mB 6 (s2 := (d + 4, 113, 9, [some (.ref 34), some (.int (-2))], [.int 0, .ref 39, .int 0, .ref 39], 0, 0, (mSH, I, L))) rfl ?_
    refine mRq (s2 := (d + 4, 113, 10, [some (.ref 34), some (.int (-2))], [.int (I 39 0), .int 0, .ref 39], 0, 0, (mSH, I, L))) rfl (by decide) ?_
    refine mB 2 (s2 := (d + 4, 113, 12, [some (.ref 34), some (.int (-2))], [.int ((I 39 0) + 1), .int 0, .ref 39], 0, 0, (mSH, I, L))) rfl ?_
    refine mRq (s2 := (d + 4, 113, 13, [some (.ref 34), some (.int (-2))], [], 0, 0, (mSH, (mUp I 39 0 ((I 39 0) + 1)), L))) rfl (by decide) ?_
    refine mB 1 (s2 := (d + 4, 113, 14, [some (.ref 34), some (.int (-2))], [.int (-2)], 0, 0, (mSH, (mUp I 39 0 ((I 39 0) + 1)), L))) rfl ?_
    refine mRt (r := (some (.int (-2)))) (h := (mSH, (mUp I 39 0 ((I 39 0) + 1)), L)) rfl (mRet_int rfl) ?_
    show mWP mTb_ mFT ro (d + 5, 147, 15, [some (.ref 34), some (.int v0), none, none, none], [.int (-2)], 0, 0, (mSH, (mUp I 39 0 ((I 39 0) + 1)), L)) _
    refine mRt (r := (some (.int (-2)))) (h := (mSH, (mUp I 39 0 ((I 39 0) + 1)), L)) rfl (mRet_int rfl) ?_
    exact hq _ _ _ (mGr.up (by rfl) mGr.rf) ⟨s, n, t, ((mGr.up (by rfl) mGr.rf)).m hm⟩ (if_neg (c := kEi v0) (by have e1 := pm_ti hM.1.1 (by have := hO.1.1; omega); have e2 := pm_ti hM.1.2.1 (by have := hO.1.2.1; omega); have e3 := mSub1 hM.1.1 hO.1.1; have e4 := mSub1 hM.1.2.1 (Nat.le_trans hO.1.2.1 (by omega)); have e5 := hO.1.1; have e6 := hO.1.2.1; have a0 := of_decide_eq_true c0; simp only [Int32.lt_iff_toInt_lt, Int32.le_iff_toInt_le, ← Int32.toInt_inj, mLi0, mLi1, mLi2, mLi3, mLi4, mLi5, mLi6, mLi7, mLi8, mLi9, mLi10, mLi16, mLi32, mLi48, mLi57, mLi59, mLi65, mLi90, mLi97, mLi99, mLi120, mLi122, mLi127, mLi1584, mLi999999, mLim] at a0 <;> omega)).symm
  · refine mB 2 (s2 := (d + 4, 112, 7, [some (.int v0), some (.int 0), some (.int 1)], [.int 1, .int v0], 0, 0, (mSH, I, L))) rfl ?_
    refine mBr (s2 := (d + 4, 112, 14, [some (.int v0), some (.int 0), some (.int 1)], [], 0, 0, (mSH, I, L))) (s3 := (d + 4, 112, 10, [some (.int v0), some (.int 0), some (.int 1)], [], 0, 0, (mSH, I, L))) rfl (fun c1 => ?_) (fun c1 => ?_)
    · refine mB 1 (s2 := (d + 4, 112, 15, [some (.int v0), some (.int 0), some (.int 1)], [.int 0], 0, 0, (mSH, I, L))) rfl ?_
      refine mRt (r := (some (.int 0))) (h := (mSH, I, L)) rfl rfl ?_
      show mWP mTb_ mFT ro (d + 5, 147, 6, [some (.ref 34), some (.int v0), none, none, none], [.int 0], 0, 0, (mSH, I, L)) _
      refine mBT (s2 := (d + 5, 147, 9, [some (.ref 34), some (.int v0), none, none, none], [], 0, 0, (mSH, I, L))) rfl (by decide) ?_
      refine mB 2 (s2 := (d + 5, 147, 12, [some (.ref 34), some (.int v0), none, none, none], [.int (-2), .ref 34], 0, 0, (mSH, I, L))) rfl ?_
      refine mCall (s2 := (d + 4, 113, 0, [some (.ref 34), some (.int (-2))], [], 0, 0, (mSH, I, L))) rfl ?_
      refine mB 6 (s2 := (d + 4, 113, 9, [some (.ref 34), some (.int (-2))], [.int 0, .ref 39, .int 0, .ref 39], 0, 0, (mSH, I, L))) rfl ?_
      refine mRq (s2 := (d + 4, 113, 10, [some (.ref 34), some (.int (-2))], [.int (I 39 0), .int 0, .ref 39], 0, 0, (mSH, I, L))) rfl (by decide) ?_
      refine mB 2 (s2 := (d + 4, 113, 12, [some (.ref 34), some (.int (-2))], [.int ((I 39 0) + 1), .int 0, .ref 39], 0, 0, (mSH, I, L))) rfl ?_
      refine mRq (s2 := (d + 4, 113, 13, [some (.ref 34), some (.int (-2))], [], 0, 0, (mSH, (mUp I 39 0 ((I 39 0) + 1)), L))) rfl (by decide) ?_
      refine mB 1 (s2 := (d + 4, 113, 14, [some (.ref 34), some (.int (-2))], [.int (-2)], 0, 0, (mSH, (mUp I 39 0 ((I 39 0) + 1)), L))) rfl ?_
      refine mRt (r := (some (.int (-2)))) (h := (mSH, (mUp I 39 0 ((I 39 0) + 1)), L)) rfl (mRet_int rfl) ?_
      show mWP mTb_ mFT ro (d + 5, 147, 15, [some (.ref 34), some (.int v0), none, none, none], [.int (-2)], 0, 0, (mSH, (mUp I 39 0 ((I 39 0) + 1)), L)) _
      refine mRt (r := (some (.int (-2)))) (h := (mSH, (mUp I 39 0 ((I 39 0) + 1)), L)) rfl (mRet_int rfl) ?_
      exact hq _ _ _ (mGr.up (by rfl) mGr.rf) ⟨s, n, t, ((mGr.up (by rfl) mGr.rf)).m hm⟩ (if_neg (c := kEi v0) (by have e1 := pm_ti hM.1.1 (by have := hO.1.1; omega); have e2 := pm_ti hM.1.2.1 (by have := hO.1.2.1; omega); have e3 := mSub1 hM.1.1 hO.1.1; have e4 := mSub1 hM.1.2.1 (Nat.le_trans hO.1.2.1 (by omega)); have e5 := hO.1.1; have e6 := hO.1.2.1; have a0 := of_decide_eq_false c0; have a1 := of_decide_eq_true c1; simp only [Int32.lt_iff_toInt_lt, Int32.le_iff_toInt_le, ← Int32.toInt_inj, mLi0, mLi1, mLi2, mLi3, mLi4, mLi5, mLi6, mLi7, mLi8, mLi9, mLi10, mLi16, mLi32, mLi48, mLi57, mLi59, mLi65, mLi90, mLi97, mLi99, mLi120, mLi122, mLi127, mLi1584, mLi999999, mLim] at a0 a1 <;> omega)).symm
    · refine mB 2 (s2 := (d + 4, 112, 15, [some (.int v0), some (.int 0), some (.int 1)], [.int 1], 0, 0, (mSH, I, L))) rfl ?_
      refine mRt (r := (some (.int 1))) (h := (mSH, I, L)) rfl rfl ?_
      show mWP mTb_ mFT ro (d + 5, 147, 6, [some (.ref 34), some (.int v0), none, none, none], [.int 1], 0, 0, (mSH, I, L)) _
      refine mBF (s3 := (d + 5, 147, 16, [some (.ref 34), some (.int v0), none, none, none], [], 0, 0, (mSH, I, L))) rfl (by decide) ?_
      refine mB 1 (s2 := (d + 5, 147, 17, [some (.ref 34), some (.int v0), none, none, none], [.ref 34], 0, 0, (mSH, I, L))) rfl ?_
      refine mCall (s2 := (d + 4, 132, 0, [some (.ref 34)], [], 0, 0, (mSH, I, L))) rfl ?_
      refine x_isfx hO hM (fun rK K gK fK bK iK => ?_)
      show mWP mTb_ mFT ro (d + 5, 147, 20, [some (.ref 34), some (.int v0), none, none, none], [.int rK], 0, 0, (mSH, K, L)) _
      refine mBr (s2 := (d + 5, 147, 23, [some (.ref 34), some (.int v0), none, none, none], [], 0, 0, (mSH, K, L))) (s3 := (d + 5, 147, 30, [some (.ref 34), some (.int v0), none, none, none], [], 0, 0, (mSH, K, L))) rfl (fun c2 => ?_) (fun c2 => ?_)
      · refine mB 2 (s2 := (d + 5, 147, 26, [some (.ref 34), some (.int v0), none, none, none], [.int (-3), .ref 34], 0, 0, (mSH, K, L))) rfl ?_
        refine mCall (s2 := (d + 4, 113, 0, [some (.ref 34), some (.int (-3))], [], 0, 0, (mSH, K, L))) rfl ?_
        refine mB 6 (s2 := (d + 4, 113, 9, [some (.ref 34), some (.int (-3))], [.int 1, .ref 39, .int 1, .ref 39], 0, 0, (mSH, K, L))) rfl ?_
        refine mRq (s2 := (d + 4, 113, 10, [some (.ref 34), some (.int (-3))], [.int (K 39 1), .int 1, .ref 39], 0, 0, (mSH, K, L))) rfl (by decide) ?_
        refine mB 2 (s2 := (d + 4, 113, 12, [some (.ref 34), some (.int (-3))], [.int ((K 39 1) + 1), .int 1, .ref 39], 0, 0, (mSH, K, L))) rfl ?_
        refine mRq (s2 := (d + 4, 113, 13, [some (.ref 34), some (.int (-3))], [], 0, 0, (mSH, (mUp K 39 1 ((K 39 1) + 1)), L))) rfl (by decide) ?_
        refine mB 1 (s2 := (d + 4, 113, 14, [some (.ref 34), some (.int (-3))], [.int (-3)], 0, 0, (mSH, (mUp K 39 1 ((K 39 1) + 1)), L))) rfl ?_
        refine mRt (r := (some (.int (-3)))) (h := (mSH, (mUp K 39 1 ((K 39 1) + 1)), L)) rfl (mRet_int rfl) ?_
        show mWP mTb_ mFT ro (d + 5, 147, 29, [some (.ref 34), some (.int v0), none, none, none], [.int (-3)], 0, 0, (mSH, (mUp K 39 1 ((K 39 1) + 1)), L)) _
        refine mRt (r := (some (.int (-3)))) (h := (mSH, (mUp K 39 1 ((K 39 1) + 1)), L)) rfl (mRet_int rfl) ?_
        exact hq _ _ _ (mGr.up (by rfl) gK) ⟨s, n, t, ((mGr.up (by rfl) gK)).m hm⟩ ((if_neg (iK.mp (of_decide_eq_true c2))).symm.trans (if_pos (c := kEi v0) (by have a0 := of_decide_eq_false c0; have a1 := of_decide_eq_false c1; simp only [Int32.lt_iff_toInt_lt, Int32.le_iff_toInt_le, ← Int32.toInt_inj, mLi0, mLi1, mLi2, mLi3, mLi4, mLi5, mLi6, mLi7, mLi8, mLi9, mLi10, mLi16, mLi32, mLi48, mLi57, mLi59, mLi65, mLi90, mLi97, mLi99, mLi120, mLi122, mLi127, mLi1584, mLi999999, mLim] at a0 a1 <;> omega)).symm)
      · refine mB 4 (s2 := (d + 5, 147, 34, [some (.ref 34), some (.int v0), some (.int 0), some (.int 1), none], [], 0, 0, (mSH, K, L))) rfl ?_
        (have hy : (an_E T B kd g pe 0).1 < bt_U := Decidable.of_not_not (mt iK.mpr (of_decide_eq_false c2)); have z := l_fax (ro := ro) (d := d + 3) (Q := Q) (L := L) (e := (an_E T B kd g pe 0)) hO.1 (hM.1.gr gK) (cm_M.of fK.1.1 (show (an_E T B kd g pe 0).1 < bt_U from hy)) (an_v hO hy).1 (mEi (of_decide_eq_false c0) (of_decide_eq_false c1)) (hq _ _ _ gK ⟨s, n, t, (gK).m hm⟩ ((if_pos hy).symm.trans (if_pos (c := kEi v0) (by have a0 := of_decide_eq_false c0; have a1 := of_decide_eq_false c1; simp only [Int32.lt_iff_toInt_lt, Int32.le_iff_toInt_le, ← Int32.toInt_inj, mLi0, mLi1, mLi2, mLi3, mLi4, mLi5, mLi6, mLi7, mLi8, mLi9, mLi10, mLi16, mLi32, mLi48, mLi57, mLi59, mLi65, mLi90, mLi97, mLi99, mLi120, mLi122, mLi127, mLi1584, mLi999999, mLim] at a0 a1 <;> omega)).symm)) (T.1.2.1 - 1) 1 (by have := (an_v hO hy).2; omega) (by omega) none; rw [an_fa1] at z; exact z)
