/-! The reference's answers, exactly. Written by a program (wip/mk_c.py). -/
section BG
variable {n c : Nat} {e : bt_E} {I : Nat → Nat → Int32} {v1 : Int32}
theorem bm_ge (h : bm_P n c I e) (he : e.1 ≤ bt_U) : 0 ≤ I 46 c ↔ e.1 < bt_U := by
  have z := bm_lt h he
  rw [← Int32.not_lt]
  constructor
  · intro y
    have := mt z.mpr y
    omega
  · intro y w
    have := z.mp w
    omega
theorem bm_s (h : bm_P n c I e) (he : e.1 ≤ bt_U) : I 46 c = an_s e.1 := by
  unfold an_s
  by_cases z : e.1 < bt_U
  · rw [if_pos z]
    exact (h.2 z).1
  · rw [if_neg z]
    exact h.1 (by omega)
theorem bm_01_0 (h : bm_P n 0 I e) (he : e.1 < bt_U) (c0 : ¬ v1 < 0) (c1 : v1 < 2) : I 46 (0 + v1).toNatClampNeg = an_mt n e v1 := by
  have z : v1 = 0 ∨ v1 = 1 := mEi c0 (fun y => by rw [Int32.lt_iff_toInt_lt] at y c1; have a : (1 : Int32).toInt = 1 := rfl; have b : (2 : Int32).toInt = 2 := rfl; omega)
  rcases z with z | z
  · subst z
    exact (h.2 he).1.trans (an_mt0 he rfl)
  · subst z
    obtain ⟨_, f, ps, e1, e2, _⟩ := h.2 he
    refine Eq.trans (show I 46 1 = nI (e.2.headD 0) from ?_) (an_mt1 he rfl)
    rw [e1]
    exact e2
theorem bm_01_1 (h : bm_P n 10 I e) (he : e.1 < bt_U) (c0 : ¬ v1 < 0) (c1 : v1 < 2) : I 46 (10 + v1).toNatClampNeg = an_mt n e v1 := by
  have z : v1 = 0 ∨ v1 = 1 := mEi c0 (fun y => by rw [Int32.lt_iff_toInt_lt] at y c1; have a : (1 : Int32).toInt = 1 := rfl; have b : (2 : Int32).toInt = 2 := rfl; omega)
  rcases z with z | z
  · subst z
    exact (h.2 he).1.trans (an_mt0 he rfl)
  · subst z
    obtain ⟨_, f, ps, e1, e2, _⟩ := h.2 he
    refine Eq.trans (show I 46 11 = nI (e.2.headD 0) from ?_) (an_mt1 he rfl)
    rw [e1]
    exact e2
theorem an_half1 : ∀ a, a < 17 → nI (2 * a + 1) / 2 = nI a := by decide +kernel
theorem ct_ys_le {y : Nat → Nat} {k : Nat} : ∀ n, k < n → y k ≤ ct_ys y 0 n
  | 0, h => absurd h (Nat.not_lt_zero k)
  | n + 1, h => by
    show y k ≤ ct_ys y 0 n + y (0 + n)
    rw [Nat.zero_add]
    rcases Nat.lt_or_ge k n with z | z
    · have := ct_ys_le (y := y) n z
      omega
    · have e : k = n := by omega
      subst e
      omega
theorem pm_vk (c0 : ¬ v1 < 0) (c1 : v1 < 2) : vp_in (0 + v1) 20 ∧ vp_in (10 + v1) 20 := by
  have z : v1 = 0 ∨ v1 = 1 := mEi c0 (fun y => by rw [Int32.lt_iff_toInt_lt] at y c1; have a : (1 : Int32).toInt = 1 := rfl; have b : (2 : Int32).toInt = 2 := rfl; omega)
  rcases z with z | z
  · subst z
    exact ⟨vp_in_nI (n := 0) (by omega) (by omega), vp_in_nI (n := 10) (by omega) (by omega)⟩
  · subst z
    exact ⟨vp_in_nI (n := 1) (by omega) (by omega), vp_in_nI (n := 11) (by omega) (by omega)⟩
end BG
theorem x_mf_0 {ro : Nat → Nat × (Nat → Int32)} {Q : mPo} {d : Nat} {I : Nat → Nat → Int32} {L : Nat → Nat → Int64} {T : ct_S} {B : ct_B} {kd k2 g pe : Nat} {v : Int32} (hv : v = nI k2) (hk2 : k2 ≤ 3) (hO : pm_O T B kd g pe) (hM : pm_M T B kd g pe I) (hq : ∀ r I1, mGr I I1 → bm_F T.1.2.1 I1 (an_W T B k2 g pe) → I1 34 22 = bm_Bs (ct_cc T B k2 g pe) T.1.2.1 T.1.1 → (r = 0 ↔ ¬ (an_W T B k2 g pe).1.1 < bt_U) → Q (some (.int r)) (mSH, I1, L)) : mWP mTb_ mFT ro (d + 3, 131, 0, [some (.ref 34), some (.int v), some (.int 0), none], [], 0, 0, (mSH, I, L)) Q := by
  subst hv
  have hb := bt_top_e (X := bt_Rt (ct_cc T B k2 g pe) T.1.2.1 T.1.1) (bt_Rt_b (ct_ccb hO.1 hO.2.2.1) hO.1.2.1)
  have ok := (an_ok (T := T) (B := B) (kd := k2) (g := g) (pe := pe) ⟨hO.1, hO.2.1, hO.2.2.1, hk2⟩).le1
  refine x_mfinds_0 hO.1 hM.1 hM.2.1 hO.2.1 hM.2.2.1 hO.2.2.1 hk2 (fun z I1 g1 g2 g3 => hq _ I1 g1 g2 g3 ⟨fun _ y => ?_, fun _ => rfl⟩) (fun z I1 g1 g2 g3 => hq _ I1 g1 g2 g3 ⟨fun y => absurd y (by decide), fun y => ?_⟩)
  · have w := hb.mpr z
    have w : (an_W T B k2 g pe).1.1 = bt_U := w
    omega
  · exact absurd (hb.mp (show (an_W T B k2 g pe).1.1 = bt_U by omega)) z
theorem x_mf_1 {ro : Nat → Nat × (Nat → Int32)} {Q : mPo} {d : Nat} {I : Nat → Nat → Int32} {L : Nat → Nat → Int64} {T : ct_S} {B : ct_B} {kd k2 g pe : Nat} {v : Int32} (hv : v = nI k2) (hk2 : k2 ≤ 3) (hO : pm_O T B kd g pe) (hM : pm_M T B kd g pe I) (hq : ∀ r I1, mGr I I1 → bm_F T.1.2.1 I1 (an_W T ct_B0 k2 g pe) → I1 34 22 = bm_Bs (ct_cc T ct_B0 k2 g pe) T.1.2.1 T.1.1 → (r = 0 ↔ ¬ (an_W T ct_B0 k2 g pe).1.1 < bt_U) → Q (some (.int r)) (mSH, I1, L)) : mWP mTb_ mFT ro (d + 3, 131, 0, [some (.ref 34), some (.int v), some (.int 1), none], [], 0, 0, (mSH, I, L)) Q := by
  subst hv
  have hb := bt_top_e (X := bt_Rt (ct_cc T ct_B0 k2 g pe) T.1.2.1 T.1.1) (bt_Rt_b (ct_ccb hO.1 hO.2.2.1) hO.1.2.1)
  have ok := (an_ok (T := T) (B := ct_B0) (kd := k2) (g := g) (pe := pe) ⟨hO.1, ct_B0o, hO.2.2.1, hk2⟩).le1
  refine x_mfinds_1 hO.1 hM.1 hM.2.2.1 hO.2.2.1 hk2 (fun z I1 g1 g2 g3 => hq _ I1 g1 g2 g3 ⟨fun _ y => ?_, fun _ => rfl⟩) (fun z I1 g1 g2 g3 => hq _ I1 g1 g2 g3 ⟨fun y => absurd y (by decide), fun y => ?_⟩)
  · have w := hb.mpr z
    have w : (an_W T ct_B0 k2 g pe).1.1 = bt_U := w
    omega
  · exact absurd (hb.mp (show (an_W T ct_B0 k2 g pe).1.1 = bt_U by omega)) z
theorem x_mf2 {ro : Nat → Nat × (Nat → Int32)} {Q : mPo} {d : Nat} {I : Nat → Nat → Int32} {L : Nat → Nat → Int64} {T : ct_S} {B : ct_B} {kd g pe : Nat} {v : Int32} (hv : v = nI kd) (hO : pm_O T B kd g pe) (hM : pm_M T B kd g pe I) (q0 : ¬ (an_W T B kd g pe).1.1 < bt_U → ∀ I1, mGr I I1 → bm_F T.1.2.1 I1 (an_W T B kd g pe) → I1 34 22 = bm_Bs (ct_cc T B kd g pe) T.1.2.1 T.1.1 → Q (some (.int 0)) (mSH, I1, L)) (q1 : (an_W T B kd g pe).1.1 < bt_U → ∀ I1, mGr I I1 → bm_F T.1.2.1 I1 (an_W T B kd g pe) → I1 34 22 = bm_Bs (ct_cc T B kd g pe) T.1.2.1 T.1.1 → Q (some (.int 1)) (mSH, I1, L)) : mWP mTb_ mFT ro (d + 3, 131, 0, [some (.ref 34), some (.int v), some (.int 0), none], [], 0, 0, (mSH, I, L)) Q := by
  subst hv
  have hb := bt_top_e (X := bt_Rt (ct_cc T B kd g pe) T.1.2.1 T.1.1) (bt_Rt_b (ct_ccb hO.1 hO.2.2.1) hO.1.2.1)
  have ok := (an_ok hO).le1
  refine x_mfinds_0 hO.1 hM.1 hM.2.1 hO.2.1 hM.2.2.1 hO.2.2.1 hO.2.2.2 (fun z I1 g1 g2 g3 => q0 ?_ I1 g1 g2 g3) (fun z I1 g1 g2 g3 => q1 ?_ I1 g1 g2 g3)
  · have w : (an_W T B kd g pe).1.1 = bt_U := hb.mpr z
    omega
  · rcases Nat.lt_or_ge (an_W T B kd g pe).1.1 bt_U with y | y
    · exact y
    · exact absurd (hb.mp (show (an_W T B kd g pe).1.1 = bt_U by omega)) z
theorem x_isfx {ro : Nat → Nat × (Nat → Int32)} {Q : mPo} {d : Nat} {I : Nat → Nat → Int32} {L : Nat → Nat → Int64} {T : ct_S} {B : ct_B} {kd g pe : Nat} (hO : pm_O T B kd g pe) (hM : pm_M T B kd g pe I) (hq : ∀ r I1, mGr I I1 → bm_F T.1.2.1 I1 (an_W T B kd g pe) → I1 34 22 = bm_Bs (ct_cc T B kd g pe) T.1.2.1 T.1.1 → (r = 0 ↔ ¬ (an_W T B kd g pe).1.1 < bt_U) → Q (some (.int r)) (mSH, I1, L))   : mWP mTb_ mFT ro (d + 4, 132, 0, [some (.ref 34)], [], 0, 0, (mSH, I, L)) Q := by
  refine mB 4 (s2 := (d + 4, 132, 6, [some (.ref 34)], [.int 0, .ref 38, .ref 34], 0, 0, (mSH, I, L))) rfl ?_
  refine mRq (s2 := (d + 4, 132, 7, [some (.ref 34)], [.int (I 38 0), .ref 34], 0, 0, (mSH, I, L))) rfl (by decide) ?_
  refine mB 1 (s2 := (d + 4, 132, 8, [some (.ref 34)], [.int 0, .int (I 38 0), .ref 34], 0, 0, (mSH, I, L))) rfl ?_
  refine mCall (s2 := (d + 3, 131, 0, [some (.ref 34), some (.int (I 38 0)), some (.int 0), none], [], 0, 0, (mSH, I, L))) rfl ?_
  refine x_mf2 hM.2.2.2 hO hM ?_ ?_
  · intro hn K gK fK bK
    show mWP mTb_ mFT ro (d + 4, 132, 11, [some (.ref 34)], [.int 0], 0, 0, (mSH, K, L)) _
    refine mRt (r := (some (.int 0))) (h := (mSH, K, L)) rfl rfl ?_
    exact hq _ _ gK fK bK ⟨fun _ => hn, fun _ => rfl⟩
  · intro hy K gK fK bK
    show mWP mTb_ mFT ro (d + 4, 132, 11, [some (.ref 34)], [.int 1], 0, 0, (mSH, K, L)) _
    refine mRt (r := (some (.int 1))) (h := (mSH, K, L)) rfl rfl ?_
    exact hq _ _ gK fK bK ⟨fun y => absurd y (by decide), fun y => absurd hy y⟩
theorem l_mx_0 {ro : Nat → Nat × (Nat → Int32)} {Q : mPo} {d : Nat} {I : Nat → Nat → Int32} {L : Nat → Nat → Int64} {n f : Nat} {ps : List Nat} {v1 : Int32} (hn : n ≤ 8) (g3 : I 34 3 = nI n) (hb : f + ct_ys (bt_bl ps) 0 n ≤ 16) (h46 : ∀ k, k < n → I 46 (0 + 2 + k) = nI (2 * ps.getD k 0 + 1)) (hq : mWP mTb_ mFT ro (d, 133, 120, [some (.ref 34), some (.int 0), some (.int v1), some (.int (nI (ct_ys (fun k => ps.getD k 0) 0 n))), some (.int (nI (f + ct_ys (bt_bl ps) 0 n))), some (.int (nI n))], [], 0, 0, (mSH, I, L)) Q) : ∀ (e k : Nat), k + e = n → mWP mTb_ mFT ro (d, 133, 67, [some (.ref 34), some (.int 0), some (.int v1), some (.int (nI (ct_ys (fun k => ps.getD k 0) 0 k))), some (.int (nI (f + ct_ys (bt_bl ps) 0 k))), some (.int (nI k))], [], 0, 0, (mSH, I, L)) Q
  | 0, k, he => by
    have ek : k = n := by omega
    subst ek
    have z : I 34 3 ≤ nI k := by
      rw [g3]
      exact nI_le (Nat.le_refl _) (by omega)
    exact s_mma0 (fun _ => hq) (fun c => absurd z c) (fun c => absurd z c) (fun c => absurd z c)
  | e + 1, k, he => by
    have z : ¬ I 34 3 ≤ nI k := by
      rw [g3]
      exact nI_ge (by omega) (by omega)
    have e2 : (2 : Int32) + nI k = nI (2 + k) := nI_add 2 k
    have v2 : vp_in ((2 : Int32) + nI k) 20 := by
      rw [e2]
      exact vp_in_nI (by omega) (by omega)
    have le := ct_ys_le (y := bt_bl ps) (k := k) n (by omega)
    have le : 2 * ps.getD k 0 + 1 ≤ ct_ys (bt_bl ps) 0 n := le
    have r1 : ct_ys (fun k => ps.getD k 0) 0 k + ps.getD k 0 = ct_ys (fun k => ps.getD k 0) 0 (k + 1) := by
      show _ = ct_ys (fun k => ps.getD k 0) 0 k + ps.getD (0 + k) 0
      rw [Nat.zero_add]
    have r2 : f + ct_ys (bt_bl ps) 0 k + (2 * ps.getD k 0 + 1) = f + ct_ys (bt_bl ps) 0 (k + 1) := by
      show _ = f + (ct_ys (bt_bl ps) 0 k + (2 * ps.getD (0 + k) 0 + 1))
      rw [Nat.zero_add, Nat.add_assoc]
    refine s_mma0 (fun c => absurd c z) (fun _ => v2) (fun _ => v2) (fun _ => ?_)
    rw [e2, nI_clamp (by omega), h46 k (by omega), an_half1 _ (by omega), nI_add, nI_add, nI_1, r1, r2]
    exact l_mx_0 hn g3 hb h46 hq e (k + 1) (by omega)
theorem an_g2 {v : Int32} (h : 2 ≤ v) (g : ¬ v = 2) : v.toInt < 0 ∨ 2 < v.toInt := by
  rw [Int32.le_iff_toInt_le] at h
  have a : (2 : Int32).toInt = 2 := rfl
  have : v.toInt ≠ 2 := fun z => g (Int32.toInt_inj.mp (z.trans a.symm))
  omega
theorem f_mx_0 {ro : Nat → Nat × (Nat → Int32)} {Q : mPo} {d : Nat} {I : Nat → Nat → Int32} {L : Nat → Nat → Int64} {v1 a b k : Int32} {n : Nat} {e : bt_E} (h0 : ¬ v1 < 0) (hP : bm_P n 0 I e) (he : e.1 < bt_U) (ha : a = nI (ct_ys (fun k => e.2.tail.getD k 0) 0 n)) (hb : b = nI (e.2.headD 0 + ct_ys (bt_bl e.2.tail) 0 n)) (hq : Q (some (.int (an_mt n e v1))) (mSH, I, L))   : mWP mTb_ mFT ro (d, 133, 120, [some (.ref 34), some (.int 0), some (.int v1), some (.int a), some (.int b), some (.int k)], [], 0, 0, (mSH, I, L)) Q := by
  refine mB 2 (s2 := (d, 133, 122, [some (.ref 34), some (.int 0), some (.int v1), some (.int a), some (.int b), some (.int k)], [.int 2, .int v1], 0, 0, (mSH, I, L))) rfl ?_
  refine mBr (s2 := (d, 133, 139, [some (.ref 34), some (.int 0), some (.int v1), some (.int a), some (.int b), some (.int k)], [], 0, 0, (mSH, I, L))) (s3 := (d, 133, 125, [some (.ref 34), some (.int 0), some (.int v1), some (.int a), some (.int b), some (.int k)], [], 0, 0, (mSH, I, L))) rfl (fun c0 => ?_) (fun c0 => ?_)
  · refine mB 2 (s2 := (d, 133, 141, [some (.ref 34), some (.int 0), some (.int v1), some (.int a), some (.int b), some (.int k)], [.int 2, .int v1], 0, 0, (mSH, I, L))) rfl ?_
    refine mBr (s2 := (d, 133, 144, [some (.ref 34), some (.int 0), some (.int v1), some (.int a), some (.int b), some (.int k)], [], 0, 0, (mSH, I, L))) (s3 := (d, 133, 148, [some (.ref 34), some (.int 0), some (.int v1), some (.int a), some (.int b), some (.int k)], [], 0, 0, (mSH, I, L))) rfl (fun c1 => ?_) (fun c1 => ?_)
    · refine mB 2 (s2 := (d, 133, 150, [some (.ref 34), some (.int 0), some (.int v1), some (.int a), some (.int b), some (.int k)], [.int a], 0, 0, (mSH, I, L))) rfl ?_
      refine mRt (r := (some (.int a))) (h := (mSH, I, L)) rfl (mRet_int rfl) ?_
      exact ct_fin hq (by rw [ha]; exact an_mt2 he (of_decide_eq_true c1))
    · refine mB 1 (s2 := (d, 133, 150, [some (.ref 34), some (.int 0), some (.int v1), some (.int a), some (.int b), some (.int k)], [.int b], 0, 0, (mSH, I, L))) rfl ?_
      refine mRt (r := (some (.int b))) (h := (mSH, I, L)) rfl (mRet_int rfl) ?_
      exact ct_fin hq (by rw [hb]; exact an_mt3 he (an_g2 (of_decide_eq_true c0) (of_decide_eq_false c1)))
  · refine mB 7 (s2 := (d, 133, 135, [some (.ref 34), some (.int 0), some (.int v1), some (.int a), some (.int b), some (.int k)], [.int (0 + v1), .ref 46], 0, 0, (mSH, I, L))) rfl ?_
    refine mRq (s2 := (d, 133, 136, [some (.ref 34), some (.int 0), some (.int v1), some (.int a), some (.int b), some (.int k)], [.int (I 46 ((0 + v1).toNatClampNeg))], 0, 0, (mSH, I, L))) rfl (mVp_of (pm_vk h0 (Int32.not_le.mp (of_decide_eq_false c0))).1) ?_
    refine mB 1 (s2 := (d, 133, 150, [some (.ref 34), some (.int 0), some (.int v1), some (.int a), some (.int b), some (.int k)], [.int (I 46 ((0 + v1).toNatClampNeg))], 0, 0, (mSH, I, L))) rfl ?_
    refine mRt (r := (some (.int (I 46 ((0 + v1).toNatClampNeg))))) (h := (mSH, I, L)) rfl (mRet_int rfl) ?_
    exact ct_fin hq (bm_01_0 hP he h0 (Int32.not_le.mp (of_decide_eq_false c0)))
theorem m_mx_0 {ro : Nat → Nat × (Nat → Int32)} {Q : mPo} {d : Nat} {I : Nat → Nat → Int32} {L : Nat → Nat → Int64} {s n t : Nat} {T : ct_S} {B : ct_B} {kd g pe : Nat} {v1 : Int32} (hm : mM s n t I) (hO : pm_O T B kd g pe) (hM : pm_M T B kd g pe I) (h0 : ¬ v1 < 0) (hq : ∀ r I1 L1, mGr I I1 → mIM I1 → r = an_mt T.1.2.1 (an_W T B kd g pe).1 v1 → Q (some (.int r)) (mSH, I1, L1))   : mWP mTb_ mFT ro (d + 5, 133, 25, [some (.ref 34), some (.int 0), some (.int v1), none, none, none], [], 0, 0, (mSH, I, L)) Q := by
  refine mB 1 (s2 := (d + 5, 133, 26, [some (.ref 34), some (.int 0), some (.int v1), none, none, none], [.ref 34], 0, 0, (mSH, I, L))) rfl ?_
  refine mCall (s2 := (d + 4, 132, 0, [some (.ref 34)], [], 0, 0, (mSH, I, L))) rfl ?_
  refine x_isfx hO hM (fun rK K gK fK bK iK => ?_)
  show mWP mTb_ mFT ro (d + 5, 133, 29, [some (.ref 34), some (.int 0), some (.int v1), none, none, none], [.int rK], 0, 0, (mSH, K, L)) _
  refine mB 6 (s2 := (d + 5, 133, 38, [some (.ref 34), some (.int 0), some (.int v1), none, none, none], [.int 0, .ref 46], 0, 0, (mSH, K, L))) rfl ?_
  refine mRq (s2 := (d + 5, 133, 39, [some (.ref 34), some (.int 0), some (.int v1), none, none, none], [.int (K 46 0)], 0, 0, (mSH, K, L))) rfl (by decide) ?_
  refine mBr (s2 := (d + 5, 133, 49, [some (.ref 34), some (.int 0), some (.int v1), none, none, none], [], 0, 0, (mSH, K, L))) (s3 := (d + 5, 133, 42, [some (.ref 34), some (.int 0), some (.int v1), none, none, none], [], 0, 0, (mSH, K, L))) rfl (fun c0 => ?_) (fun c0 => ?_)
  · refine mB 9 (s2 := (d + 5, 133, 61, [some (.ref 34), some (.int 0), some (.int v1), some (.int 0), none, none], [.int 1, .ref 46], 0, 0, (mSH, K, L))) rfl ?_
    refine mRq (s2 := (d + 5, 133, 62, [some (.ref 34), some (.int 0), some (.int v1), some (.int 0), none, none], [.int (K 46 1)], 0, 0, (mSH, K, L))) rfl (by decide) ?_
    refine mB 3 (s2 := (d + 5, 133, 67, [some (.ref 34), some (.int 0), some (.int v1), some (.int 0), some (.int (K 46 1)), some (.int 0)], [], 0, 0, (mSH, K, L))) rfl ?_
    (have lt := (bm_ge fK.1.1 (an_ok hO).le1).mp (of_decide_eq_true c0); obtain ⟨z1, f, ps, e1, e2, e3, e4⟩ := fK.1.1.2 lt; obtain ⟨⟨f2, ps2, w1, w2, w3⟩, w4⟩ := an_v (w := 0) hO lt; have w1 : (an_W T B kd g pe).1.2 = f2 :: ps2 := w1; rw [e1] at w1; obtain ⟨ea, ep⟩ := List.cons.inj w1; subst ea; subst ep; rw [e2]; refine l_mx_0 hO.1.2.1 ((gK.2 3 rfl).trans hM.1.2.1) (Nat.le_trans w3 hO.1.1) e4 ?_ T.1.2.1 0 (by omega); exact f_mx_0 h0 fK.1.1 lt (by rw [e1]; rfl) (by rw [e1]; rfl) (hq _ _ _ gK ⟨s, n, t, gK.m hm⟩ rfl))
  · refine mB 2 (s2 := (d + 5, 133, 45, [some (.ref 34), some (.int 0), some (.int v1), none, none, none], [.int (-3), .ref 34], 0, 0, (mSH, K, L))) rfl ?_
    refine mCall (s2 := (d + 4, 113, 0, [some (.ref 34), some (.int (-3))], [], 0, 0, (mSH, K, L))) rfl ?_
    refine mB 6 (s2 := (d + 4, 113, 9, [some (.ref 34), some (.int (-3))], [.int 1, .ref 39, .int 1, .ref 39], 0, 0, (mSH, K, L))) rfl ?_
    refine mRq (s2 := (d + 4, 113, 10, [some (.ref 34), some (.int (-3))], [.int (K 39 1), .int 1, .ref 39], 0, 0, (mSH, K, L))) rfl (by decide) ?_
    refine mB 2 (s2 := (d + 4, 113, 12, [some (.ref 34), some (.int (-3))], [.int ((K 39 1) + 1), .int 1, .ref 39], 0, 0, (mSH, K, L))) rfl ?_
    refine mRq (s2 := (d + 4, 113, 13, [some (.ref 34), some (.int (-3))], [], 0, 0, (mSH, (mUp K 39 1 ((K 39 1) + 1)), L))) rfl (by decide) ?_
    refine mB 1 (s2 := (d + 4, 113, 14, [some (.ref 34), some (.int (-3))], [.int (-3)], 0, 0, (mSH, (mUp K 39 1 ((K 39 1) + 1)), L))) rfl ?_
    refine mRt (r := (some (.int (-3)))) (h := (mSH, (mUp K 39 1 ((K 39 1) + 1)), L)) rfl (mRet_int rfl) ?_
    show mWP mTb_ mFT ro (d + 5, 133, 48, [some (.ref 34), some (.int 0), some (.int v1), none, none, none], [.int (-3)], 0, 0, (mSH, (mUp K 39 1 ((K 39 1) + 1)), L)) _
    refine mRt (r := (some (.int (-3)))) (h := (mSH, (mUp K 39 1 ((K 39 1) + 1)), L)) rfl (mRet_int rfl) ?_
    exact hq _ _ _ (mGr.up (by rfl) gK) ⟨s, n, t, ((mGr.up (by rfl) gK)).m hm⟩ (an_mtn (mt (bm_ge fK.1.1 (an_ok hO).le1).mpr (of_decide_eq_false c0)))
theorem l_mx_1 {ro : Nat → Nat × (Nat → Int32)} {Q : mPo} {d : Nat} {I : Nat → Nat → Int32} {L : Nat → Nat → Int64} {n f : Nat} {ps : List Nat} {v1 : Int32} (hn : n ≤ 8) (g3 : I 34 3 = nI n) (hb : f + ct_ys (bt_bl ps) 0 n ≤ 16) (h46 : ∀ k, k < n → I 46 (10 + 2 + k) = nI (2 * ps.getD k 0 + 1)) (hq : mWP mTb_ mFT ro (d, 133, 120, [some (.ref 34), some (.int 1), some (.int v1), some (.int (nI (ct_ys (fun k => ps.getD k 0) 0 n))), some (.int (nI (f + ct_ys (bt_bl ps) 0 n))), some (.int (nI n))], [], 0, 0, (mSH, I, L)) Q) : ∀ (e k : Nat), k + e = n → mWP mTb_ mFT ro (d, 133, 67, [some (.ref 34), some (.int 1), some (.int v1), some (.int (nI (ct_ys (fun k => ps.getD k 0) 0 k))), some (.int (nI (f + ct_ys (bt_bl ps) 0 k))), some (.int (nI k))], [], 0, 0, (mSH, I, L)) Q
  | 0, k, he => by
    have ek : k = n := by omega
    subst ek
    have z : I 34 3 ≤ nI k := by
      rw [g3]
      exact nI_le (Nat.le_refl _) (by omega)
    exact s_mma1 (fun _ => hq) (fun c => absurd z c) (fun c => absurd z c) (fun c => absurd z c)
  | e + 1, k, he => by
    have z : ¬ I 34 3 ≤ nI k := by
      rw [g3]
      exact nI_ge (by omega) (by omega)
    have e2 : (12 : Int32) + nI k = nI (12 + k) := nI_add 12 k
    have v2 : vp_in ((12 : Int32) + nI k) 20 := by
      rw [e2]
      exact vp_in_nI (by omega) (by omega)
    have le := ct_ys_le (y := bt_bl ps) (k := k) n (by omega)
    have le : 2 * ps.getD k 0 + 1 ≤ ct_ys (bt_bl ps) 0 n := le
    have r1 : ct_ys (fun k => ps.getD k 0) 0 k + ps.getD k 0 = ct_ys (fun k => ps.getD k 0) 0 (k + 1) := by
      show _ = ct_ys (fun k => ps.getD k 0) 0 k + ps.getD (0 + k) 0
      rw [Nat.zero_add]
    have r2 : f + ct_ys (bt_bl ps) 0 k + (2 * ps.getD k 0 + 1) = f + ct_ys (bt_bl ps) 0 (k + 1) := by
      show _ = f + (ct_ys (bt_bl ps) 0 k + (2 * ps.getD (0 + k) 0 + 1))
      rw [Nat.zero_add, Nat.add_assoc]
    refine s_mma1 (fun c => absurd c z) (fun _ => v2) (fun _ => v2) (fun _ => ?_)
    rw [e2, nI_clamp (by omega), h46 k (by omega), an_half1 _ (by omega), nI_add, nI_add, nI_1, r1, r2]
    exact l_mx_1 hn g3 hb h46 hq e (k + 1) (by omega)
theorem f_mx_1 {ro : Nat → Nat × (Nat → Int32)} {Q : mPo} {d : Nat} {I : Nat → Nat → Int32} {L : Nat → Nat → Int64} {v1 a b k : Int32} {n : Nat} {e : bt_E} (h0 : ¬ v1 < 0) (hP : bm_P n 10 I e) (he : e.1 < bt_U) (ha : a = nI (ct_ys (fun k => e.2.tail.getD k 0) 0 n)) (hb : b = nI (e.2.headD 0 + ct_ys (bt_bl e.2.tail) 0 n)) (hq : Q (some (.int (an_mt n e v1))) (mSH, I, L))   : mWP mTb_ mFT ro (d, 133, 120, [some (.ref 34), some (.int 1), some (.int v1), some (.int a), some (.int b), some (.int k)], [], 0, 0, (mSH, I, L)) Q := by
  refine mB 2 (s2 := (d, 133, 122, [some (.ref 34), some (.int 1), some (.int v1), some (.int a), some (.int b), some (.int k)], [.int 2, .int v1], 0, 0, (mSH, I, L))) rfl ?_
  refine mBr (s2 := (d, 133, 139, [some (.ref 34), some (.int 1), some (.int v1), some (.int a), some (.int b), some (.int k)], [], 0, 0, (mSH, I, L))) (s3 := (d, 133, 125, [some (.ref 34), some (.int 1), some (.int v1), some (.int a), some (.int b), some (.int k)], [], 0, 0, (mSH, I, L))) rfl (fun c0 => ?_) (fun c0 => ?_)
  · refine mB 2 (s2 := (d, 133, 141, [some (.ref 34), some (.int 1), some (.int v1), some (.int a), some (.int b), some (.int k)], [.int 2, .int v1], 0, 0, (mSH, I, L))) rfl ?_
    refine mBr (s2 := (d, 133, 144, [some (.ref 34), some (.int 1), some (.int v1), some (.int a), some (.int b), some (.int k)], [], 0, 0, (mSH, I, L))) (s3 := (d, 133, 148, [some (.ref 34), some (.int 1), some (.int v1), some (.int a), some (.int b), some (.int k)], [], 0, 0, (mSH, I, L))) rfl (fun c1 => ?_) (fun c1 => ?_)
    · refine mB 2 (s2 := (d, 133, 150, [some (.ref 34), some (.int 1), some (.int v1), some (.int a), some (.int b), some (.int k)], [.int a], 0, 0, (mSH, I, L))) rfl ?_
      refine mRt (r := (some (.int a))) (h := (mSH, I, L)) rfl (mRet_int rfl) ?_
      exact ct_fin hq (by rw [ha]; exact an_mt2 he (of_decide_eq_true c1))
    · refine mB 1 (s2 := (d, 133, 150, [some (.ref 34), some (.int 1), some (.int v1), some (.int a), some (.int b), some (.int k)], [.int b], 0, 0, (mSH, I, L))) rfl ?_
      refine mRt (r := (some (.int b))) (h := (mSH, I, L)) rfl (mRet_int rfl) ?_
      exact ct_fin hq (by rw [hb]; exact an_mt3 he (an_g2 (of_decide_eq_true c0) (of_decide_eq_false c1)))
  · refine mB 7 (s2 := (d, 133, 135, [some (.ref 34), some (.int 1), some (.int v1), some (.int a), some (.int b), some (.int k)], [.int (10 + v1), .ref 46], 0, 0, (mSH, I, L))) rfl ?_
    refine mRq (s2 := (d, 133, 136, [some (.ref 34), some (.int 1), some (.int v1), some (.int a), some (.int b), some (.int k)], [.int (I 46 ((10 + v1).toNatClampNeg))], 0, 0, (mSH, I, L))) rfl (mVp_of (pm_vk h0 (Int32.not_le.mp (of_decide_eq_false c0))).2) ?_
    refine mB 1 (s2 := (d, 133, 150, [some (.ref 34), some (.int 1), some (.int v1), some (.int a), some (.int b), some (.int k)], [.int (I 46 ((10 + v1).toNatClampNeg))], 0, 0, (mSH, I, L))) rfl ?_
    refine mRt (r := (some (.int (I 46 ((10 + v1).toNatClampNeg))))) (h := (mSH, I, L)) rfl (mRet_int rfl) ?_
    exact ct_fin hq (bm_01_1 hP he h0 (Int32.not_le.mp (of_decide_eq_false c0)))
theorem m_mx_1 {ro : Nat → Nat × (Nat → Int32)} {Q : mPo} {d : Nat} {I : Nat → Nat → Int32} {L : Nat → Nat → Int64} {s n t : Nat} {T : ct_S} {B : ct_B} {kd g pe : Nat} {v1 : Int32} (hm : mM s n t I) (hO : pm_O T B kd g pe) (hM : pm_M T B kd g pe I) (h0 : ¬ v1 < 0) (hq : ∀ r I1 L1, mGr I I1 → mIM I1 → r = an_mt T.1.2.1 (an_W T B kd g pe).2.1 v1 → Q (some (.int r)) (mSH, I1, L1))   : mWP mTb_ mFT ro (d + 5, 133, 25, [some (.ref 34), some (.int 1), some (.int v1), none, none, none], [], 0, 0, (mSH, I, L)) Q := by
  refine mB 1 (s2 := (d + 5, 133, 26, [some (.ref 34), some (.int 1), some (.int v1), none, none, none], [.ref 34], 0, 0, (mSH, I, L))) rfl ?_
  refine mCall (s2 := (d + 4, 132, 0, [some (.ref 34)], [], 0, 0, (mSH, I, L))) rfl ?_
  refine x_isfx hO hM (fun rK K gK fK bK iK => ?_)
  show mWP mTb_ mFT ro (d + 5, 133, 29, [some (.ref 34), some (.int 1), some (.int v1), none, none, none], [.int rK], 0, 0, (mSH, K, L)) _
  refine mB 6 (s2 := (d + 5, 133, 38, [some (.ref 34), some (.int 1), some (.int v1), none, none, none], [.int 10, .ref 46], 0, 0, (mSH, K, L))) rfl ?_
  refine mRq (s2 := (d + 5, 133, 39, [some (.ref 34), some (.int 1), some (.int v1), none, none, none], [.int (K 46 10)], 0, 0, (mSH, K, L))) rfl (by decide) ?_
  refine mBr (s2 := (d + 5, 133, 49, [some (.ref 34), some (.int 1), some (.int v1), none, none, none], [], 0, 0, (mSH, K, L))) (s3 := (d + 5, 133, 42, [some (.ref 34), some (.int 1), some (.int v1), none, none, none], [], 0, 0, (mSH, K, L))) rfl (fun c0 => ?_) (fun c0 => ?_)
  · refine mB 9 (s2 := (d + 5, 133, 61, [some (.ref 34), some (.int 1), some (.int v1), some (.int 0), none, none], [.int 11, .ref 46], 0, 0, (mSH, K, L))) rfl ?_
    refine mRq (s2 := (d + 5, 133, 62, [some (.ref 34), some (.int 1), some (.int v1), some (.int 0), none, none], [.int (K 46 11)], 0, 0, (mSH, K, L))) rfl (by decide) ?_
    refine mB 3 (s2 := (d + 5, 133, 67, [some (.ref 34), some (.int 1), some (.int v1), some (.int 0), some (.int (K 46 11)), some (.int 0)], [], 0, 0, (mSH, K, L))) rfl ?_
    (have lt := (bm_ge fK.1.2 (an_ok hO).le2).mp (of_decide_eq_true c0); obtain ⟨z1, f, ps, e1, e2, e3, e4⟩ := fK.1.2.2 lt; obtain ⟨⟨f2, ps2, w1, w2, w3⟩, w4⟩ := an_v (w := 1) hO lt; have w1 : (an_W T B kd g pe).2.1.2 = f2 :: ps2 := w1; rw [e1] at w1; obtain ⟨ea, ep⟩ := List.cons.inj w1; subst ea; subst ep; rw [e2]; refine l_mx_1 hO.1.2.1 ((gK.2 3 rfl).trans hM.1.2.1) (Nat.le_trans w3 hO.1.1) e4 ?_ T.1.2.1 0 (by omega); exact f_mx_1 h0 fK.1.2 lt (by rw [e1]; rfl) (by rw [e1]; rfl) (hq _ _ _ gK ⟨s, n, t, gK.m hm⟩ rfl))
  · refine mB 2 (s2 := (d + 5, 133, 45, [some (.ref 34), some (.int 1), some (.int v1), none, none, none], [.int (-3), .ref 34], 0, 0, (mSH, K, L))) rfl ?_
    refine mCall (s2 := (d + 4, 113, 0, [some (.ref 34), some (.int (-3))], [], 0, 0, (mSH, K, L))) rfl ?_
    refine mB 6 (s2 := (d + 4, 113, 9, [some (.ref 34), some (.int (-3))], [.int 1, .ref 39, .int 1, .ref 39], 0, 0, (mSH, K, L))) rfl ?_
    refine mRq (s2 := (d + 4, 113, 10, [some (.ref 34), some (.int (-3))], [.int (K 39 1), .int 1, .ref 39], 0, 0, (mSH, K, L))) rfl (by decide) ?_
    refine mB 2 (s2 := (d + 4, 113, 12, [some (.ref 34), some (.int (-3))], [.int ((K 39 1) + 1), .int 1, .ref 39], 0, 0, (mSH, K, L))) rfl ?_
    refine mRq (s2 := (d + 4, 113, 13, [some (.ref 34), some (.int (-3))], [], 0, 0, (mSH, (mUp K 39 1 ((K 39 1) + 1)), L))) rfl (by decide) ?_
    refine mB 1 (s2 := (d + 4, 113, 14, [some (.ref 34), some (.int (-3))], [.int (-3)], 0, 0, (mSH, (mUp K 39 1 ((K 39 1) + 1)), L))) rfl ?_
    refine mRt (r := (some (.int (-3)))) (h := (mSH, (mUp K 39 1 ((K 39 1) + 1)), L)) rfl (mRet_int rfl) ?_
    show mWP mTb_ mFT ro (d + 5, 133, 48, [some (.ref 34), some (.int 1), some (.int v1), none, none, none], [.int (-3)], 0, 0, (mSH, (mUp K 39 1 ((K 39 1) + 1)), L)) _
    refine mRt (r := (some (.int (-3)))) (h := (mSH, (mUp K 39 1 ((K 39 1) + 1)), L)) rfl (mRet_int rfl) ?_
    exact hq _ _ _ (mGr.up (by rfl) gK) ⟨s, n, t, ((mGr.up (by rfl) gK)).m hm⟩ (an_mtn (mt (bm_ge fK.1.2 (an_ok hO).le2).mpr (of_decide_eq_false c0)))
theorem v_nmatch {ro : Nat → Nat × (Nat → Int32)} {Q : mPo} {d : Nat} {I : Nat → Nat → Int32} {L : Nat → Nat → Int64} {s n t : Nat} {T : ct_S} {B : ct_B} {kd g pe : Nat} {v0 v1 : Int32} (hm : mM s n t I) (hO : pm_O T B kd g pe) (hM : pm_M T B kd g pe I) (hq : ∀ r I1 L1, mGr I I1 → mIM I1 → r = an_match T B kd g pe v0 v1 → Q (some (.int r)) (mSH, I1, L1))   : mWP mTb_ mFT ro (d + 5, 133, 0, [some (.ref 34), some (.int v0), some (.int v1), none, none, none], [], 0, 0, (mSH, I, L)) Q := by
  refine mB 3 (s2 := (d + 5, 133, 3, [some (.ref 34), some (.int v0), some (.int v1), none, none, none], [.int 1, .int 0, .int v0], 0, 0, (mSH, I, L))) rfl ?_
  refine mCall (s2 := (d + 4, 112, 0, [some (.int v0), some (.int 0), some (.int 1)], [], 0, 0, (mSH, I, L))) rfl ?_
  refine mB 2 (s2 := (d + 4, 112, 2, [some (.int v0), some (.int 0), some (.int 1)], [.int 0, .int v0], 0, 0, (mSH, I, L))) rfl ?_
  refine mBr (s2 := (d + 4, 112, 14, [some (.int v0), some (.int 0), some (.int 1)], [], 0, 0, (mSH, I, L))) (s3 := (d + 4, 112, 5, [some (.int v0), some (.int 0), some (.int 1)], [], 0, 0, (mSH, I, L))) rfl (fun c0 => ?_) (fun c0 => ?_)
  · refine mB 1 (s2 := (d + 4, 112, 15, [some (.int v0), some (.int 0), some (.int 1)], [.int 0], 0, 0, (mSH, I, L))) rfl ?_
    refine mRt (r := (some (.int 0))) (h := (mSH, I, L)) rfl rfl ?_
    show mWP mTb_ mFT ro (d + 5, 133, 6, [some (.ref 34), some (.int v0), some (.int v1), none, none, none], [.int 0], 0, 0, (mSH, I, L)) _
    refine mBT (s2 := (d + 5, 133, 18, [some (.ref 34), some (.int v0), some (.int v1), none, none, none], [], 0, 0, (mSH, I, L))) rfl (by decide) ?_
    refine mB 2 (s2 := (d + 5, 133, 21, [some (.ref 34), some (.int v0), some (.int v1), none, none, none], [.int (-2), .ref 34], 0, 0, (mSH, I, L))) rfl ?_
    refine mCall (s2 := (d + 4, 113, 0, [some (.ref 34), some (.int (-2))], [], 0, 0, (mSH, I, L))) rfl ?_
    refine mB 6 (s2 := (d + 4, 113, 9, [some (.ref 34), some (.int (-2))], [.int 0, .ref 39, .int 0, .ref 39], 0, 0, (mSH, I, L))) rfl ?_
    refine mRq (s2 := (d + 4, 113, 10, [some (.ref 34), some (.int (-2))], [.int (I 39 0), .int 0, .ref 39], 0, 0, (mSH, I, L))) rfl (by decide) ?_
    refine mB 2 (s2 := (d + 4, 113, 12, [some (.ref 34), some (.int (-2))], [.int ((I 39 0) + 1), .int 0, .ref 39], 0, 0, (mSH, I, L))) rfl ?_
    refine mRq (s2 := (d + 4, 113, 13, [some (.ref 34), some (.int (-2))], [], 0, 0, (mSH, (mUp I 39 0 ((I 39 0) + 1)), L))) rfl (by decide) ?_
    refine mB 1 (s2 := (d + 4, 113, 14, [some (.ref 34), some (.int (-2))], [.int (-2)], 0, 0, (mSH, (mUp I 39 0 ((I 39 0) + 1)), L))) rfl ?_
    refine mRt (r := (some (.int (-2)))) (h := (mSH, (mUp I 39 0 ((I 39 0) + 1)), L)) rfl (mRet_int rfl) ?_
    show mWP mTb_ mFT ro (d + 5, 133, 24, [some (.ref 34), some (.int v0), some (.int v1), none, none, none], [.int (-2)], 0, 0, (mSH, (mUp I 39 0 ((I 39 0) + 1)), L)) _
    refine mRt (r := (some (.int (-2)))) (h := (mSH, (mUp I 39 0 ((I 39 0) + 1)), L)) rfl (mRet_int rfl) ?_
    exact hq _ _ _ (mGr.up (by rfl) mGr.rf) ⟨s, n, t, ((mGr.up (by rfl) mGr.rf)).m hm⟩ (if_neg (c := an_mk v0 v1) (by have e1 := pm_ti hM.1.1 (by have := hO.1.1; omega); have e2 := pm_ti hM.1.2.1 (by have := hO.1.2.1; omega); have e3 := mSub1 hM.1.1 hO.1.1; have e4 := mSub1 hM.1.2.1 (Nat.le_trans hO.1.2.1 (by omega)); have e5 := hO.1.1; have e6 := hO.1.2.1; have a0 := of_decide_eq_true c0; simp only [Int32.lt_iff_toInt_lt, Int32.le_iff_toInt_le, ← Int32.toInt_inj, mLi0, mLi1, mLi2, mLi3, mLi4, mLi5, mLi6, mLi7, mLi8, mLi9, mLi10, mLi16, mLi32, mLi48, mLi57, mLi59, mLi65, mLi90, mLi97, mLi99, mLi120, mLi122, mLi127, mLi1584, mLi999999, mLim] at a0 <;> omega)).symm
  · refine mB 2 (s2 := (d + 4, 112, 7, [some (.int v0), some (.int 0), some (.int 1)], [.int 1, .int v0], 0, 0, (mSH, I, L))) rfl ?_
    refine mBr (s2 := (d + 4, 112, 14, [some (.int v0), some (.int 0), some (.int 1)], [], 0, 0, (mSH, I, L))) (s3 := (d + 4, 112, 10, [some (.int v0), some (.int 0), some (.int 1)], [], 0, 0, (mSH, I, L))) rfl (fun c1 => ?_) (fun c1 => ?_)
    · refine mB 1 (s2 := (d + 4, 112, 15, [some (.int v0), some (.int 0), some (.int 1)], [.int 0], 0, 0, (mSH, I, L))) rfl ?_
      refine mRt (r := (some (.int 0))) (h := (mSH, I, L)) rfl rfl ?_
      show mWP mTb_ mFT ro (d + 5, 133, 6, [some (.ref 34), some (.int v0), some (.int v1), none, none, none], [.int 0], 0, 0, (mSH, I, L)) _
      refine mBT (s2 := (d + 5, 133, 18, [some (.ref 34), some (.int v0), some (.int v1), none, none, none], [], 0, 0, (mSH, I, L))) rfl (by decide) ?_
      refine mB 2 (s2 := (d + 5, 133, 21, [some (.ref 34), some (.int v0), some (.int v1), none, none, none], [.int (-2), .ref 34], 0, 0, (mSH, I, L))) rfl ?_
      refine mCall (s2 := (d + 4, 113, 0, [some (.ref 34), some (.int (-2))], [], 0, 0, (mSH, I, L))) rfl ?_
      refine mB 6 (s2 := (d + 4, 113, 9, [some (.ref 34), some (.int (-2))], [.int 0, .ref 39, .int 0, .ref 39], 0, 0, (mSH, I, L))) rfl ?_
      refine mRq (s2 := (d + 4, 113, 10, [some (.ref 34), some (.int (-2))], [.int (I 39 0), .int 0, .ref 39], 0, 0, (mSH, I, L))) rfl (by decide) ?_
      refine mB 2 (s2 := (d + 4, 113, 12, [some (.ref 34), some (.int (-2))], [.int ((I 39 0) + 1), .int 0, .ref 39], 0, 0, (mSH, I, L))) rfl ?_
      refine mRq (s2 := (d + 4, 113, 13, [some (.ref 34), some (.int (-2))], [], 0, 0, (mSH, (mUp I 39 0 ((I 39 0) + 1)), L))) rfl (by decide) ?_
      refine mB 1 (s2 := (d + 4, 113, 14, [some (.ref 34), some (.int (-2))], [.int (-2)], 0, 0, (mSH, (mUp I 39 0 ((I 39 0) + 1)), L))) rfl ?_
      refine mRt (r := (some (.int (-2)))) (h := (mSH, (mUp I 39 0 ((I 39 0) + 1)), L)) rfl (mRet_int rfl) ?_
      show mWP mTb_ mFT ro (d + 5, 133, 24, [some (.ref 34), some (.int v0), some (.int v1), none, none, none], [.int (-2)], 0, 0, (mSH, (mUp I 39 0 ((I 39 0) + 1)), L)) _
      refine mRt (r := (some (.int (-2)))) (h := (mSH, (mUp I 39 0 ((I 39 0) + 1)), L)) rfl (mRet_int rfl) ?_
      exact hq _ _ _ (mGr.up (by rfl) mGr.rf) ⟨s, n, t, ((mGr.up (by rfl) mGr.rf)).m hm⟩ (if_neg (c := an_mk v0 v1) (by have e1 := pm_ti hM.1.1 (by have := hO.1.1; omega); have e2 := pm_ti hM.1.2.1 (by have := hO.1.2.1; omega); have e3 := mSub1 hM.1.1 hO.1.1; have e4 := mSub1 hM.1.2.1 (Nat.le_trans hO.1.2.1 (by omega)); have e5 := hO.1.1; have e6 := hO.1.2.1; have a0 := of_decide_eq_false c0; have a1 := of_decide_eq_true c1; simp only [Int32.lt_iff_toInt_lt, Int32.le_iff_toInt_le, ← Int32.toInt_inj, mLi0, mLi1, mLi2, mLi3, mLi4, mLi5, mLi6, mLi7, mLi8, mLi9, mLi10, mLi16, mLi32, mLi48, mLi57, mLi59, mLi65, mLi90, mLi97, mLi99, mLi120, mLi122, mLi127, mLi1584, mLi999999, mLim] at a0 a1 <;> omega)).symm
    · refine mB 2 (s2 := (d + 4, 112, 15, [some (.int v0), some (.int 0), some (.int 1)], [.int 1], 0, 0, (mSH, I, L))) rfl ?_
      refine mRt (r := (some (.int 1))) (h := (mSH, I, L)) rfl rfl ?_
      show mWP mTb_ mFT ro (d + 5, 133, 6, [some (.ref 34), some (.int v0), some (.int v1), none, none, none], [.int 1], 0, 0, (mSH, I, L)) _
      refine mBF (s3 := (d + 5, 133, 9, [some (.ref 34), some (.int v0), some (.int v1), none, none, none], [], 0, 0, (mSH, I, L))) rfl (by decide) ?_
      refine mB 3 (s2 := (d + 5, 133, 12, [some (.ref 34), some (.int v0), some (.int v1), none, none, none], [.int 3, .int 0, .int v1], 0, 0, (mSH, I, L))) rfl ?_
      refine mCall (s2 := (d + 4, 112, 0, [some (.int v1), some (.int 0), some (.int 3)], [], 0, 0, (mSH, I, L))) rfl ?_
      refine mB 2 (s2 := (d + 4, 112, 2, [some (.int v1), some (.int 0), some (.int 3)], [.int 0, .int v1], 0, 0, (mSH, I, L))) rfl ?_
      refine mBr (s2 := (d + 4, 112, 14, [some (.int v1), some (.int 0), some (.int 3)], [], 0, 0, (mSH, I, L))) (s3 := (d + 4, 112, 5, [some (.int v1), some (.int 0), some (.int 3)], [], 0, 0, (mSH, I, L))) rfl (fun c2 => ?_) (fun c2 => ?_)
      · refine mB 1 (s2 := (d + 4, 112, 15, [some (.int v1), some (.int 0), some (.int 3)], [.int 0], 0, 0, (mSH, I, L))) rfl ?_
        refine mRt (r := (some (.int 0))) (h := (mSH, I, L)) rfl rfl ?_
        show mWP mTb_ mFT ro (d + 5, 133, 15, [some (.ref 34), some (.int v0), some (.int v1), none, none, none], [.int 0], 0, 0, (mSH, I, L)) _
        refine mBT (s2 := (d + 5, 133, 18, [some (.ref 34), some (.int v0), some (.int v1), none, none, none], [], 0, 0, (mSH, I, L))) rfl (by decide) ?_
        refine mB 2 (s2 := (d + 5, 133, 21, [some (.ref 34), some (.int v0), some (.int v1), none, none, none], [.int (-2), .ref 34], 0, 0, (mSH, I, L))) rfl ?_
        refine mCall (s2 := (d + 4, 113, 0, [some (.ref 34), some (.int (-2))], [], 0, 0, (mSH, I, L))) rfl ?_
        refine mB 6 (s2 := (d + 4, 113, 9, [some (.ref 34), some (.int (-2))], [.int 0, .ref 39, .int 0, .ref 39], 0, 0, (mSH, I, L))) rfl ?_
        refine mRq (s2 := (d + 4, 113, 10, [some (.ref 34), some (.int (-2))], [.int (I 39 0), .int 0, .ref 39], 0, 0, (mSH, I, L))) rfl (by decide) ?_
        refine mB 2 (s2 := (d + 4, 113, 12, [some (.ref 34), some (.int (-2))], [.int ((I 39 0) + 1), .int 0, .ref 39], 0, 0, (mSH, I, L))) rfl ?_
        refine mRq (s2 := (d + 4, 113, 13, [some (.ref 34), some (.int (-2))], [], 0, 0, (mSH, (mUp I 39 0 ((I 39 0) + 1)), L))) rfl (by decide) ?_
        refine mB 1 (s2 := (d + 4, 113, 14, [some (.ref 34), some (.int (-2))], [.int (-2)], 0, 0, (mSH, (mUp I 39 0 ((I 39 0) + 1)), L))) rfl ?_
        refine mRt (r := (some (.int (-2)))) (h := (mSH, (mUp I 39 0 ((I 39 0) + 1)), L)) rfl (mRet_int rfl) ?_
        show mWP mTb_ mFT ro (d + 5, 133, 24, [some (.ref 34), some (.int v0), some (.int v1), none, none, none], [.int (-2)], 0, 0, (mSH, (mUp I 39 0 ((I 39 0) + 1)), L)) _
        refine mRt (r := (some (.int (-2)))) (h := (mSH, (mUp I 39 0 ((I 39 0) + 1)), L)) rfl (mRet_int rfl) ?_
        exact hq _ _ _ (mGr.up (by rfl) mGr.rf) ⟨s, n, t, ((mGr.up (by rfl) mGr.rf)).m hm⟩ (if_neg (c := an_mk v0 v1) (by have e1 := pm_ti hM.1.1 (by have := hO.1.1; omega); have e2 := pm_ti hM.1.2.1 (by have := hO.1.2.1; omega); have e3 := mSub1 hM.1.1 hO.1.1; have e4 := mSub1 hM.1.2.1 (Nat.le_trans hO.1.2.1 (by omega)); have e5 := hO.1.1; have e6 := hO.1.2.1; have a0 := of_decide_eq_false c0; have a1 := of_decide_eq_false c1; have a2 := of_decide_eq_true c2; simp only [Int32.lt_iff_toInt_lt, Int32.le_iff_toInt_le, ← Int32.toInt_inj, mLi0, mLi1, mLi2, mLi3, mLi4, mLi5, mLi6, mLi7, mLi8, mLi9, mLi10, mLi16, mLi32, mLi48, mLi57, mLi59, mLi65, mLi90, mLi97, mLi99, mLi120, mLi122, mLi127, mLi1584, mLi999999, mLim] at a0 a1 a2 <;> omega)).symm
      · refine mB 2 (s2 := (d + 4, 112, 7, [some (.int v1), some (.int 0), some (.int 3)], [.int 3, .int v1], 0, 0, (mSH, I, L))) rfl ?_
        refine mBr (s2 := (d + 4, 112, 14, [some (.int v1), some (.int 0), some (.int 3)], [], 0, 0, (mSH, I, L))) (s3 := (d + 4, 112, 10, [some (.int v1), some (.int 0), some (.int 3)], [], 0, 0, (mSH, I, L))) rfl (fun c3 => ?_) (fun c3 => ?_)
        · refine mB 1 (s2 := (d + 4, 112, 15, [some (.int v1), some (.int 0), some (.int 3)], [.int 0], 0, 0, (mSH, I, L))) rfl ?_
          refine mRt (r := (some (.int 0))) (h := (mSH, I, L)) rfl rfl ?_
          show mWP mTb_ mFT ro (d + 5, 133, 15, [some (.ref 34), some (.int v0), some (.int v1), none, none, none], [.int 0], 0, 0, (mSH, I, L)) _
          refine mBT (s2 := (d + 5, 133, 18, [some (.ref 34), some (.int v0), some (.int v1), none, none, none], [], 0, 0, (mSH, I, L))) rfl (by decide) ?_
          refine mB 2 (s2 := (d + 5, 133, 21, [some (.ref 34), some (.int v0), some (.int v1), none, none, none], [.int (-2), .ref 34], 0, 0, (mSH, I, L))) rfl ?_
          refine mCall (s2 := (d + 4, 113, 0, [some (.ref 34), some (.int (-2))], [], 0, 0, (mSH, I, L))) rfl ?_
          refine mB 6 (s2 := (d + 4, 113, 9, [some (.ref 34), some (.int (-2))], [.int 0, .ref 39, .int 0, .ref 39], 0, 0, (mSH, I, L))) rfl ?_
          refine mRq (s2 := (d + 4, 113, 10, [some (.ref 34), some (.int (-2))], [.int (I 39 0), .int 0, .ref 39], 0, 0, (mSH, I, L))) rfl (by decide) ?_
          refine mB 2 (s2 := (d + 4, 113, 12, [some (.ref 34), some (.int (-2))], [.int ((I 39 0) + 1), .int 0, .ref 39], 0, 0, (mSH, I, L))) rfl ?_
          refine mRq (s2 := (d + 4, 113, 13, [some (.ref 34), some (.int (-2))], [], 0, 0, (mSH, (mUp I 39 0 ((I 39 0) + 1)), L))) rfl (by decide) ?_
          refine mB 1 (s2 := (d + 4, 113, 14, [some (.ref 34), some (.int (-2))], [.int (-2)], 0, 0, (mSH, (mUp I 39 0 ((I 39 0) + 1)), L))) rfl ?_
          refine mRt (r := (some (.int (-2)))) (h := (mSH, (mUp I 39 0 ((I 39 0) + 1)), L)) rfl (mRet_int rfl) ?_
          show mWP mTb_ mFT ro (d + 5, 133, 24, [some (.ref 34), some (.int v0), some (.int v1), none, none, none], [.int (-2)], 0, 0, (mSH, (mUp I 39 0 ((I 39 0) + 1)), L)) _
          refine mRt (r := (some (.int (-2)))) (h := (mSH, (mUp I 39 0 ((I 39 0) + 1)), L)) rfl (mRet_int rfl) ?_
          exact hq _ _ _ (mGr.up (by rfl) mGr.rf) ⟨s, n, t, ((mGr.up (by rfl) mGr.rf)).m hm⟩ (if_neg (c := an_mk v0 v1) (by have e1 := pm_ti hM.1.1 (by have := hO.1.1; omega); have e2 := pm_ti hM.1.2.1 (by have := hO.1.2.1; omega); have e3 := mSub1 hM.1.1 hO.1.1; have e4 := mSub1 hM.1.2.1 (Nat.le_trans hO.1.2.1 (by omega)); have e5 := hO.1.1; have e6 := hO.1.2.1; have a0 := of_decide_eq_false c0; have a1 := of_decide_eq_false c1; have a2 := of_decide_eq_false c2; have a3 := of_decide_eq_true c3; simp only [Int32.lt_iff_toInt_lt, Int32.le_iff_toInt_le, ← Int32.toInt_inj, mLi0, mLi1, mLi2, mLi3, mLi4, mLi5, mLi6, mLi7, mLi8, mLi9, mLi10, mLi16, mLi32, mLi48, mLi57, mLi59, mLi65, mLi90, mLi97, mLi99, mLi120, mLi122, mLi127, mLi1584, mLi999999, mLim] at a0 a1 a2 a3 <;> omega)).symm
        · refine mB 2 (s2 := (d + 4, 112, 15, [some (.int v1), some (.int 0), some (.int 3)], [.int 1], 0, 0, (mSH, I, L))) rfl ?_
          refine mRt (r := (some (.int 1))) (h := (mSH, I, L)) rfl rfl ?_
          show mWP mTb_ mFT ro (d + 5, 133, 15, [some (.ref 34), some (.int v0), some (.int v1), none, none, none], [.int 1], 0, 0, (mSH, I, L)) _
          refine mBF (s3 := (d + 5, 133, 25, [some (.ref 34), some (.int v0), some (.int v1), none, none, none], [], 0, 0, (mSH, I, L))) rfl (by decide) ?_
          (have ek : an_match T B kd g pe v0 v1 = an_mt T.1.2.1 (an_E T B kd g pe v0) v1 := (if_pos (c := an_mk v0 v1) (by have a0 := of_decide_eq_false c0; have a1 := of_decide_eq_false c1; have a2 := of_decide_eq_false c2; have a3 := of_decide_eq_false c3; simp only [Int32.lt_iff_toInt_lt, Int32.le_iff_toInt_le, ← Int32.toInt_inj, mLi0, mLi1, mLi2, mLi3, mLi4, mLi5, mLi6, mLi7, mLi8, mLi9, mLi10, mLi16, mLi32, mLi48, mLi57, mLi59, mLi65, mLi90, mLi97, mLi99, mLi120, mLi122, mLi127, mLi1584, mLi999999, mLim] at a0 a1 a2 a3 <;> omega)); rcases mEi (of_decide_eq_false c0) (of_decide_eq_false c1) with e | e <;> (subst e; first | exact m_mx_0 hm hO hM (of_decide_eq_false c2) (fun r I1 L1 a b e => hq r I1 L1 a b (e.trans ek.symm)) | exact m_mx_1 hm hO hM (of_decide_eq_false c2) (fun r I1 L1 a b e => hq r I1 L1 a b (e.trans ek.symm))))
theorem m_bx_0 {ro : Nat → Nat × (Nat → Int32)} {Q : mPo} {d : Nat} {I : Nat → Nat → Int32} {L : Nat → Nat → Int64} {s n t : Nat} {T : ct_S} {B : ct_B} {kd g pe : Nat} {j : Nat} (hm : mM s n t I) (hO : pm_O T B kd g pe) (hM : pm_M T B kd g pe I) (hj : j < T.1.2.1) (hq : ∀ r I1 L1, mGr I I1 → mIM I1 → r = (if (an_W T B kd g pe).1.1 < bt_U then nI (bt_bl (an_W T B kd g pe).1.2.tail j) else -3) → Q (some (.int r)) (mSH, I1, L1))   : mWP mTb_ mFT ro (d + 5, 134, 24, [some (.ref 34), some (.int 0), some (.int (nI j))], [], 0, 0, (mSH, I, L)) Q := by
  refine mB 1 (s2 := (d + 5, 134, 25, [some (.ref 34), some (.int 0), some (.int (nI j))], [.ref 34], 0, 0, (mSH, I, L))) rfl ?_
  refine mCall (s2 := (d + 4, 132, 0, [some (.ref 34)], [], 0, 0, (mSH, I, L))) rfl ?_
  refine x_isfx hO hM (fun rK K gK fK bK iK => ?_)
  show mWP mTb_ mFT ro (d + 5, 134, 28, [some (.ref 34), some (.int 0), some (.int (nI j))], [.int rK], 0, 0, (mSH, K, L)) _
  refine mB 6 (s2 := (d + 5, 134, 37, [some (.ref 34), some (.int 0), some (.int (nI j))], [.int 0, .ref 46], 0, 0, (mSH, K, L))) rfl ?_
  refine mRq (s2 := (d + 5, 134, 38, [some (.ref 34), some (.int 0), some (.int (nI j))], [.int (K 46 0)], 0, 0, (mSH, K, L))) rfl (by decide) ?_
  refine mBr (s2 := (d + 5, 134, 50, [some (.ref 34), some (.int 0), some (.int (nI j))], [], 0, 0, (mSH, K, L))) (s3 := (d + 5, 134, 41, [some (.ref 34), some (.int 0), some (.int (nI j))], [], 0, 0, (mSH, K, L))) rfl (fun c0 => ?_) (fun c0 => ?_)
  · refine mB 9 (s2 := (d + 5, 134, 62, [some (.ref 34), some (.int 0), some (.int (nI j))], [.int (2 + (nI j)), .ref 46], 0, 0, (mSH, K, L))) rfl ?_
    refine mRq (s2 := (d + 5, 134, 63, [some (.ref 34), some (.int 0), some (.int (nI j))], [.int (K 46 ((2 + (nI j)).toNatClampNeg))], 0, 0, (mSH, K, L))) rfl (mVp_of (by rw [show (2 : Int32) + nI j = nI (2 + j) from nI_add 2 j]; exact vp_in_nI (by have := hO.1.2.1; omega) (by omega))) ?_
    refine mRt (r := (some (.int (K 46 ((2 + (nI j)).toNatClampNeg))))) (h := (mSH, K, L)) rfl (mRet_int rfl) ?_
    exact hq _ _ _ gK ⟨s, n, t, (gK).m hm⟩ (by have lt := (bm_ge fK.1.1 (an_ok hO).le1).mp (of_decide_eq_true c0); obtain ⟨z1, f, ps, e1, e2, e3, e4⟩ := fK.1.1.2 lt; rw [if_pos lt, show (2 : Int32) + nI j = nI (2 + j) from nI_add 2 j, nI_clamp (by have := hO.1.2.1; omega), e1]; exact e4 j hj)
  · refine mB 2 (s2 := (d + 5, 134, 44, [some (.ref 34), some (.int 0), some (.int (nI j))], [.int (-3), .ref 34], 0, 0, (mSH, K, L))) rfl ?_
    refine mCall (s2 := (d + 4, 113, 0, [some (.ref 34), some (.int (-3))], [], 0, 0, (mSH, K, L))) rfl ?_
    refine mB 6 (s2 := (d + 4, 113, 9, [some (.ref 34), some (.int (-3))], [.int 1, .ref 39, .int 1, .ref 39], 0, 0, (mSH, K, L))) rfl ?_
    refine mRq (s2 := (d + 4, 113, 10, [some (.ref 34), some (.int (-3))], [.int (K 39 1), .int 1, .ref 39], 0, 0, (mSH, K, L))) rfl (by decide) ?_
    refine mB 2 (s2 := (d + 4, 113, 12, [some (.ref 34), some (.int (-3))], [.int ((K 39 1) + 1), .int 1, .ref 39], 0, 0, (mSH, K, L))) rfl ?_
    refine mRq (s2 := (d + 4, 113, 13, [some (.ref 34), some (.int (-3))], [], 0, 0, (mSH, (mUp K 39 1 ((K 39 1) + 1)), L))) rfl (by decide) ?_
    refine mB 1 (s2 := (d + 4, 113, 14, [some (.ref 34), some (.int (-3))], [.int (-3)], 0, 0, (mSH, (mUp K 39 1 ((K 39 1) + 1)), L))) rfl ?_
    refine mRt (r := (some (.int (-3)))) (h := (mSH, (mUp K 39 1 ((K 39 1) + 1)), L)) rfl (mRet_int rfl) ?_
    show mWP mTb_ mFT ro (d + 5, 134, 47, [some (.ref 34), some (.int 0), some (.int (nI j))], [.int (-3)], 0, 0, (mSH, (mUp K 39 1 ((K 39 1) + 1)), L)) _
    refine mB 1 (s2 := (d + 5, 134, 63, [some (.ref 34), some (.int 0), some (.int (nI j))], [.int (-3)], 0, 0, (mSH, (mUp K 39 1 ((K 39 1) + 1)), L))) rfl ?_
    refine mRt (r := (some (.int (-3)))) (h := (mSH, (mUp K 39 1 ((K 39 1) + 1)), L)) rfl (mRet_int rfl) ?_
    exact hq _ _ _ (mGr.up (by rfl) gK) ⟨s, n, t, ((mGr.up (by rfl) gK)).m hm⟩ (if_neg (mt (bm_ge fK.1.1 (an_ok hO).le1).mpr (of_decide_eq_false c0))).symm
theorem m_bx_1 {ro : Nat → Nat × (Nat → Int32)} {Q : mPo} {d : Nat} {I : Nat → Nat → Int32} {L : Nat → Nat → Int64} {s n t : Nat} {T : ct_S} {B : ct_B} {kd g pe : Nat} {j : Nat} (hm : mM s n t I) (hO : pm_O T B kd g pe) (hM : pm_M T B kd g pe I) (hj : j < T.1.2.1) (hq : ∀ r I1 L1, mGr I I1 → mIM I1 → r = (if (an_W T B kd g pe).2.1.1 < bt_U then nI (bt_bl (an_W T B kd g pe).2.1.2.tail j) else -3) → Q (some (.int r)) (mSH, I1, L1))   : mWP mTb_ mFT ro (d + 5, 134, 24, [some (.ref 34), some (.int 1), some (.int (nI j))], [], 0, 0, (mSH, I, L)) Q := by
  refine mB 1 (s2 := (d + 5, 134, 25, [some (.ref 34), some (.int 1), some (.int (nI j))], [.ref 34], 0, 0, (mSH, I, L))) rfl ?_
  refine mCall (s2 := (d + 4, 132, 0, [some (.ref 34)], [], 0, 0, (mSH, I, L))) rfl ?_
  refine x_isfx hO hM (fun rK K gK fK bK iK => ?_)
  show mWP mTb_ mFT ro (d + 5, 134, 28, [some (.ref 34), some (.int 1), some (.int (nI j))], [.int rK], 0, 0, (mSH, K, L)) _
  refine mB 6 (s2 := (d + 5, 134, 37, [some (.ref 34), some (.int 1), some (.int (nI j))], [.int 10, .ref 46], 0, 0, (mSH, K, L))) rfl ?_
  refine mRq (s2 := (d + 5, 134, 38, [some (.ref 34), some (.int 1), some (.int (nI j))], [.int (K 46 10)], 0, 0, (mSH, K, L))) rfl (by decide) ?_
  refine mBr (s2 := (d + 5, 134, 50, [some (.ref 34), some (.int 1), some (.int (nI j))], [], 0, 0, (mSH, K, L))) (s3 := (d + 5, 134, 41, [some (.ref 34), some (.int 1), some (.int (nI j))], [], 0, 0, (mSH, K, L))) rfl (fun c0 => ?_) (fun c0 => ?_)
  · refine mB 9 (s2 := (d + 5, 134, 62, [some (.ref 34), some (.int 1), some (.int (nI j))], [.int (12 + (nI j)), .ref 46], 0, 0, (mSH, K, L))) rfl ?_
    refine mRq (s2 := (d + 5, 134, 63, [some (.ref 34), some (.int 1), some (.int (nI j))], [.int (K 46 ((12 + (nI j)).toNatClampNeg))], 0, 0, (mSH, K, L))) rfl (mVp_of (by rw [show (12 : Int32) + nI j = nI (12 + j) from nI_add 12 j]; exact vp_in_nI (by have := hO.1.2.1; omega) (by omega))) ?_
    refine mRt (r := (some (.int (K 46 ((12 + (nI j)).toNatClampNeg))))) (h := (mSH, K, L)) rfl (mRet_int rfl) ?_
    exact hq _ _ _ gK ⟨s, n, t, (gK).m hm⟩ (by have lt := (bm_ge fK.1.2 (an_ok hO).le2).mp (of_decide_eq_true c0); obtain ⟨z1, f, ps, e1, e2, e3, e4⟩ := fK.1.2.2 lt; rw [if_pos lt, show (12 : Int32) + nI j = nI (12 + j) from nI_add 12 j, nI_clamp (by have := hO.1.2.1; omega), e1]; exact e4 j hj)
  · refine mB 2 (s2 := (d + 5, 134, 44, [some (.ref 34), some (.int 1), some (.int (nI j))], [.int (-3), .ref 34], 0, 0, (mSH, K, L))) rfl ?_
    refine mCall (s2 := (d + 4, 113, 0, [some (.ref 34), some (.int (-3))], [], 0, 0, (mSH, K, L))) rfl ?_
    refine mB 6 (s2 := (d + 4, 113, 9, [some (.ref 34), some (.int (-3))], [.int 1, .ref 39, .int 1, .ref 39], 0, 0, (mSH, K, L))) rfl ?_
    refine mRq (s2 := (d + 4, 113, 10, [some (.ref 34), some (.int (-3))], [.int (K 39 1), .int 1, .ref 39], 0, 0, (mSH, K, L))) rfl (by decide) ?_
    refine mB 2 (s2 := (d + 4, 113, 12, [some (.ref 34), some (.int (-3))], [.int ((K 39 1) + 1), .int 1, .ref 39], 0, 0, (mSH, K, L))) rfl ?_
    refine mRq (s2 := (d + 4, 113, 13, [some (.ref 34), some (.int (-3))], [], 0, 0, (mSH, (mUp K 39 1 ((K 39 1) + 1)), L))) rfl (by decide) ?_
    refine mB 1 (s2 := (d + 4, 113, 14, [some (.ref 34), some (.int (-3))], [.int (-3)], 0, 0, (mSH, (mUp K 39 1 ((K 39 1) + 1)), L))) rfl ?_
    refine mRt (r := (some (.int (-3)))) (h := (mSH, (mUp K 39 1 ((K 39 1) + 1)), L)) rfl (mRet_int rfl) ?_
    show mWP mTb_ mFT ro (d + 5, 134, 47, [some (.ref 34), some (.int 1), some (.int (nI j))], [.int (-3)], 0, 0, (mSH, (mUp K 39 1 ((K 39 1) + 1)), L)) _
    refine mB 1 (s2 := (d + 5, 134, 63, [some (.ref 34), some (.int 1), some (.int (nI j))], [.int (-3)], 0, 0, (mSH, (mUp K 39 1 ((K 39 1) + 1)), L))) rfl ?_
    refine mRt (r := (some (.int (-3)))) (h := (mSH, (mUp K 39 1 ((K 39 1) + 1)), L)) rfl (mRet_int rfl) ?_
    exact hq _ _ _ (mGr.up (by rfl) gK) ⟨s, n, t, ((mGr.up (by rfl) gK)).m hm⟩ (if_neg (mt (bm_ge fK.1.2 (an_ok hO).le2).mpr (of_decide_eq_false c0))).symm
theorem v_nblock {ro : Nat → Nat × (Nat → Int32)} {Q : mPo} {d : Nat} {I : Nat → Nat → Int32} {L : Nat → Nat → Int64} {s n t : Nat} {T : ct_S} {B : ct_B} {kd g pe : Nat} {v0 v1 : Int32} (hm : mM s n t I) (hO : pm_O T B kd g pe) (hM : pm_M T B kd g pe I) (hq : ∀ r I1 L1, mGr I I1 → mIM I1 → r = an_block T B kd g pe v0 v1 → Q (some (.int r)) (mSH, I1, L1))   : mWP mTb_ mFT ro (d + 5, 134, 0, [some (.ref 34), some (.int v0), some (.int v1)], [], 0, 0, (mSH, I, L)) Q := by
  refine mB 3 (s2 := (d + 5, 134, 3, [some (.ref 34), some (.int v0), some (.int v1)], [.int 1, .int 0, .int v0], 0, 0, (mSH, I, L))) rfl ?_
  refine mCall (s2 := (d + 4, 112, 0, [some (.int v0), some (.int 0), some (.int 1)], [], 0, 0, (mSH, I, L))) rfl ?_
  refine mB 2 (s2 := (d + 4, 112, 2, [some (.int v0), some (.int 0), some (.int 1)], [.int 0, .int v0], 0, 0, (mSH, I, L))) rfl ?_
  refine mBr (s2 := (d + 4, 112, 14, [some (.int v0), some (.int 0), some (.int 1)], [], 0, 0, (mSH, I, L))) (s3 := (d + 4, 112, 5, [some (.int v0), some (.int 0), some (.int 1)], [], 0, 0, (mSH, I, L))) rfl (fun c0 => ?_) (fun c0 => ?_)
  · refine mB 1 (s2 := (d + 4, 112, 15, [some (.int v0), some (.int 0), some (.int 1)], [.int 0], 0, 0, (mSH, I, L))) rfl ?_
    refine mRt (r := (some (.int 0))) (h := (mSH, I, L)) rfl rfl ?_
    show mWP mTb_ mFT ro (d + 5, 134, 6, [some (.ref 34), some (.int v0), some (.int v1)], [.int 0], 0, 0, (mSH, I, L)) _
    refine mBT (s2 := (d + 5, 134, 17, [some (.ref 34), some (.int v0), some (.int v1)], [], 0, 0, (mSH, I, L))) rfl (by decide) ?_
    refine mB 2 (s2 := (d + 5, 134, 20, [some (.ref 34), some (.int v0), some (.int v1)], [.int (-2), .ref 34], 0, 0, (mSH, I, L))) rfl ?_
    refine mCall (s2 := (d + 4, 113, 0, [some (.ref 34), some (.int (-2))], [], 0, 0, (mSH, I, L))) rfl ?_
    refine mB 6 (s2 := (d + 4, 113, 9, [some (.ref 34), some (.int (-2))], [.int 0, .ref 39, .int 0, .ref 39], 0, 0, (mSH, I, L))) rfl ?_
    refine mRq (s2 := (d + 4, 113, 10, [some (.ref 34), some (.int (-2))], [.int (I 39 0), .int 0, .ref 39], 0, 0, (mSH, I, L))) rfl (by decide) ?_
    refine mB 2 (s2 := (d + 4, 113, 12, [some (.ref 34), some (.int (-2))], [.int ((I 39 0) + 1), .int 0, .ref 39], 0, 0, (mSH, I, L))) rfl ?_
    refine mRq (s2 := (d + 4, 113, 13, [some (.ref 34), some (.int (-2))], [], 0, 0, (mSH, (mUp I 39 0 ((I 39 0) + 1)), L))) rfl (by decide) ?_
    refine mB 1 (s2 := (d + 4, 113, 14, [some (.ref 34), some (.int (-2))], [.int (-2)], 0, 0, (mSH, (mUp I 39 0 ((I 39 0) + 1)), L))) rfl ?_
    refine mRt (r := (some (.int (-2)))) (h := (mSH, (mUp I 39 0 ((I 39 0) + 1)), L)) rfl (mRet_int rfl) ?_
    show mWP mTb_ mFT ro (d + 5, 134, 23, [some (.ref 34), some (.int v0), some (.int v1)], [.int (-2)], 0, 0, (mSH, (mUp I 39 0 ((I 39 0) + 1)), L)) _
    refine mRt (r := (some (.int (-2)))) (h := (mSH, (mUp I 39 0 ((I 39 0) + 1)), L)) rfl (mRet_int rfl) ?_
    exact hq _ _ _ (mGr.up (by rfl) mGr.rf) ⟨s, n, t, ((mGr.up (by rfl) mGr.rf)).m hm⟩ (if_neg (c := an_bk T v0 v1) (by have e1 := pm_ti hM.1.1 (by have := hO.1.1; omega); have e2 := pm_ti hM.1.2.1 (by have := hO.1.2.1; omega); have e3 := mSub1 hM.1.1 hO.1.1; have e4 := mSub1 hM.1.2.1 (Nat.le_trans hO.1.2.1 (by omega)); have e5 := hO.1.1; have e6 := hO.1.2.1; have a0 := of_decide_eq_true c0; simp only [Int32.lt_iff_toInt_lt, Int32.le_iff_toInt_le, ← Int32.toInt_inj, mLi0, mLi1, mLi2, mLi3, mLi4, mLi5, mLi6, mLi7, mLi8, mLi9, mLi10, mLi16, mLi32, mLi48, mLi57, mLi59, mLi65, mLi90, mLi97, mLi99, mLi120, mLi122, mLi127, mLi1584, mLi999999, mLim] at a0 <;> omega)).symm
  · refine mB 2 (s2 := (d + 4, 112, 7, [some (.int v0), some (.int 0), some (.int 1)], [.int 1, .int v0], 0, 0, (mSH, I, L))) rfl ?_
    refine mBr (s2 := (d + 4, 112, 14, [some (.int v0), some (.int 0), some (.int 1)], [], 0, 0, (mSH, I, L))) (s3 := (d + 4, 112, 10, [some (.int v0), some (.int 0), some (.int 1)], [], 0, 0, (mSH, I, L))) rfl (fun c1 => ?_) (fun c1 => ?_)
    · refine mB 1 (s2 := (d + 4, 112, 15, [some (.int v0), some (.int 0), some (.int 1)], [.int 0], 0, 0, (mSH, I, L))) rfl ?_
      refine mRt (r := (some (.int 0))) (h := (mSH, I, L)) rfl rfl ?_
      show mWP mTb_ mFT ro (d + 5, 134, 6, [some (.ref 34), some (.int v0), some (.int v1)], [.int 0], 0, 0, (mSH, I, L)) _
      refine mBT (s2 := (d + 5, 134, 17, [some (.ref 34), some (.int v0), some (.int v1)], [], 0, 0, (mSH, I, L))) rfl (by decide) ?_
      refine mB 2 (s2 := (d + 5, 134, 20, [some (.ref 34), some (.int v0), some (.int v1)], [.int (-2), .ref 34], 0, 0, (mSH, I, L))) rfl ?_
      refine mCall (s2 := (d + 4, 113, 0, [some (.ref 34), some (.int (-2))], [], 0, 0, (mSH, I, L))) rfl ?_
      refine mB 6 (s2 := (d + 4, 113, 9, [some (.ref 34), some (.int (-2))], [.int 0, .ref 39, .int 0, .ref 39], 0, 0, (mSH, I, L))) rfl ?_
      refine mRq (s2 := (d + 4, 113, 10, [some (.ref 34), some (.int (-2))], [.int (I 39 0), .int 0, .ref 39], 0, 0, (mSH, I, L))) rfl (by decide) ?_
      refine mB 2 (s2 := (d + 4, 113, 12, [some (.ref 34), some (.int (-2))], [.int ((I 39 0) + 1), .int 0, .ref 39], 0, 0, (mSH, I, L))) rfl ?_
      refine mRq (s2 := (d + 4, 113, 13, [some (.ref 34), some (.int (-2))], [], 0, 0, (mSH, (mUp I 39 0 ((I 39 0) + 1)), L))) rfl (by decide) ?_
      refine mB 1 (s2 := (d + 4, 113, 14, [some (.ref 34), some (.int (-2))], [.int (-2)], 0, 0, (mSH, (mUp I 39 0 ((I 39 0) + 1)), L))) rfl ?_
      refine mRt (r := (some (.int (-2)))) (h := (mSH, (mUp I 39 0 ((I 39 0) + 1)), L)) rfl (mRet_int rfl) ?_
      show mWP mTb_ mFT ro (d + 5, 134, 23, [some (.ref 34), some (.int v0), some (.int v1)], [.int (-2)], 0, 0, (mSH, (mUp I 39 0 ((I 39 0) + 1)), L)) _
      refine mRt (r := (some (.int (-2)))) (h := (mSH, (mUp I 39 0 ((I 39 0) + 1)), L)) rfl (mRet_int rfl) ?_
      exact hq _ _ _ (mGr.up (by rfl) mGr.rf) ⟨s, n, t, ((mGr.up (by rfl) mGr.rf)).m hm⟩ (if_neg (c := an_bk T v0 v1) (by have e1 := pm_ti hM.1.1 (by have := hO.1.1; omega); have e2 := pm_ti hM.1.2.1 (by have := hO.1.2.1; omega); have e3 := mSub1 hM.1.1 hO.1.1; have e4 := mSub1 hM.1.2.1 (Nat.le_trans hO.1.2.1 (by omega)); have e5 := hO.1.1; have e6 := hO.1.2.1; have a0 := of_decide_eq_false c0; have a1 := of_decide_eq_true c1; simp only [Int32.lt_iff_toInt_lt, Int32.le_iff_toInt_le, ← Int32.toInt_inj, mLi0, mLi1, mLi2, mLi3, mLi4, mLi5, mLi6, mLi7, mLi8, mLi9, mLi10, mLi16, mLi32, mLi48, mLi57, mLi59, mLi65, mLi90, mLi97, mLi99, mLi120, mLi122, mLi127, mLi1584, mLi999999, mLim] at a0 a1 <;> omega)).symm
    · refine mB 2 (s2 := (d + 4, 112, 15, [some (.int v0), some (.int 0), some (.int 1)], [.int 1], 0, 0, (mSH, I, L))) rfl ?_
      refine mRt (r := (some (.int 1))) (h := (mSH, I, L)) rfl rfl ?_
      show mWP mTb_ mFT ro (d + 5, 134, 6, [some (.ref 34), some (.int v0), some (.int v1)], [.int 1], 0, 0, (mSH, I, L)) _
      refine mBF (s3 := (d + 5, 134, 9, [some (.ref 34), some (.int v0), some (.int v1)], [], 0, 0, (mSH, I, L))) rfl (by decide) ?_
      refine mB 2 (s2 := (d + 5, 134, 11, [some (.ref 34), some (.int v0), some (.int v1)], [.int v1, .ref 34], 0, 0, (mSH, I, L))) rfl ?_
      refine mCall (s2 := (d + 4, 115, 0, [some (.ref 34), some (.int v1)], [], 0, 0, (mSH, I, L))) rfl ?_
      refine mB 6 (s2 := (d + 4, 115, 8, [some (.ref 34), some (.int v1)], [.int ((I 34 3) - 1), .int 0, .int v1], 0, 0, (mSH, I, L))) rfl ?_
      refine mCall (s2 := (d + 3, 112, 0, [some (.int v1), some (.int 0), some (.int ((I 34 3) - 1))], [], 0, 0, (mSH, I, L))) rfl ?_
      refine mB 2 (s2 := (d + 3, 112, 2, [some (.int v1), some (.int 0), some (.int ((I 34 3) - 1))], [.int 0, .int v1], 0, 0, (mSH, I, L))) rfl ?_
      refine mBr (s2 := (d + 3, 112, 14, [some (.int v1), some (.int 0), some (.int ((I 34 3) - 1))], [], 0, 0, (mSH, I, L))) (s3 := (d + 3, 112, 5, [some (.int v1), some (.int 0), some (.int ((I 34 3) - 1))], [], 0, 0, (mSH, I, L))) rfl (fun c2 => ?_) (fun c2 => ?_)
      · refine mB 1 (s2 := (d + 3, 112, 15, [some (.int v1), some (.int 0), some (.int ((I 34 3) - 1))], [.int 0], 0, 0, (mSH, I, L))) rfl ?_
        refine mRt (r := (some (.int 0))) (h := (mSH, I, L)) rfl rfl ?_
        show mWP mTb_ mFT ro (d + 4, 115, 11, [some (.ref 34), some (.int v1)], [.int 0], 0, 0, (mSH, I, L)) _
        refine mRt (r := (some (.int 0))) (h := (mSH, I, L)) rfl rfl ?_
        show mWP mTb_ mFT ro (d + 5, 134, 14, [some (.ref 34), some (.int v0), some (.int v1)], [.int 0], 0, 0, (mSH, I, L)) _
        refine mBT (s2 := (d + 5, 134, 17, [some (.ref 34), some (.int v0), some (.int v1)], [], 0, 0, (mSH, I, L))) rfl (by decide) ?_
        refine mB 2 (s2 := (d + 5, 134, 20, [some (.ref 34), some (.int v0), some (.int v1)], [.int (-2), .ref 34], 0, 0, (mSH, I, L))) rfl ?_
        refine mCall (s2 := (d + 4, 113, 0, [some (.ref 34), some (.int (-2))], [], 0, 0, (mSH, I, L))) rfl ?_
        refine mB 6 (s2 := (d + 4, 113, 9, [some (.ref 34), some (.int (-2))], [.int 0, .ref 39, .int 0, .ref 39], 0, 0, (mSH, I, L))) rfl ?_
        refine mRq (s2 := (d + 4, 113, 10, [some (.ref 34), some (.int (-2))], [.int (I 39 0), .int 0, .ref 39], 0, 0, (mSH, I, L))) rfl (by decide) ?_
        refine mB 2 (s2 := (d + 4, 113, 12, [some (.ref 34), some (.int (-2))], [.int ((I 39 0) + 1), .int 0, .ref 39], 0, 0, (mSH, I, L))) rfl ?_
        refine mRq (s2 := (d + 4, 113, 13, [some (.ref 34), some (.int (-2))], [], 0, 0, (mSH, (mUp I 39 0 ((I 39 0) + 1)), L))) rfl (by decide) ?_
        refine mB 1 (s2 := (d + 4, 113, 14, [some (.ref 34), some (.int (-2))], [.int (-2)], 0, 0, (mSH, (mUp I 39 0 ((I 39 0) + 1)), L))) rfl ?_
        refine mRt (r := (some (.int (-2)))) (h := (mSH, (mUp I 39 0 ((I 39 0) + 1)), L)) rfl (mRet_int rfl) ?_
        show mWP mTb_ mFT ro (d + 5, 134, 23, [some (.ref 34), some (.int v0), some (.int v1)], [.int (-2)], 0, 0, (mSH, (mUp I 39 0 ((I 39 0) + 1)), L)) _
        refine mRt (r := (some (.int (-2)))) (h := (mSH, (mUp I 39 0 ((I 39 0) + 1)), L)) rfl (mRet_int rfl) ?_
        exact hq _ _ _ (mGr.up (by rfl) mGr.rf) ⟨s, n, t, ((mGr.up (by rfl) mGr.rf)).m hm⟩ (if_neg (c := an_bk T v0 v1) (by have e1 := pm_ti hM.1.1 (by have := hO.1.1; omega); have e2 := pm_ti hM.1.2.1 (by have := hO.1.2.1; omega); have e3 := mSub1 hM.1.1 hO.1.1; have e4 := mSub1 hM.1.2.1 (Nat.le_trans hO.1.2.1 (by omega)); have e5 := hO.1.1; have e6 := hO.1.2.1; have a0 := of_decide_eq_false c0; have a1 := of_decide_eq_false c1; have a2 := of_decide_eq_true c2; simp only [Int32.lt_iff_toInt_lt, Int32.le_iff_toInt_le, ← Int32.toInt_inj, mLi0, mLi1, mLi2, mLi3, mLi4, mLi5, mLi6, mLi7, mLi8, mLi9, mLi10, mLi16, mLi32, mLi48, mLi57, mLi59, mLi65, mLi90, mLi97, mLi99, mLi120, mLi122, mLi127, mLi1584, mLi999999, mLim] at a0 a1 a2 <;> omega)).symm
      · refine mB 2 (s2 := (d + 3, 112, 7, [some (.int v1), some (.int 0), some (.int ((I 34 3) - 1))], [.int ((I 34 3) - 1), .int v1], 0, 0, (mSH, I, L))) rfl ?_
        refine mBr (s2 := (d + 3, 112, 14, [some (.int v1), some (.int 0), some (.int ((I 34 3) - 1))], [], 0, 0, (mSH, I, L))) (s3 := (d + 3, 112, 10, [some (.int v1), some (.int 0), some (.int ((I 34 3) - 1))], [], 0, 0, (mSH, I, L))) rfl (fun c3 => ?_) (fun c3 => ?_)
        · refine mB 1 (s2 := (d + 3, 112, 15, [some (.int v1), some (.int 0), some (.int ((I 34 3) - 1))], [.int 0], 0, 0, (mSH, I, L))) rfl ?_
          refine mRt (r := (some (.int 0))) (h := (mSH, I, L)) rfl rfl ?_
          show mWP mTb_ mFT ro (d + 4, 115, 11, [some (.ref 34), some (.int v1)], [.int 0], 0, 0, (mSH, I, L)) _
          refine mRt (r := (some (.int 0))) (h := (mSH, I, L)) rfl rfl ?_
          show mWP mTb_ mFT ro (d + 5, 134, 14, [some (.ref 34), some (.int v0), some (.int v1)], [.int 0], 0, 0, (mSH, I, L)) _
          refine mBT (s2 := (d + 5, 134, 17, [some (.ref 34), some (.int v0), some (.int v1)], [], 0, 0, (mSH, I, L))) rfl (by decide) ?_
          refine mB 2 (s2 := (d + 5, 134, 20, [some (.ref 34), some (.int v0), some (.int v1)], [.int (-2), .ref 34], 0, 0, (mSH, I, L))) rfl ?_
          refine mCall (s2 := (d + 4, 113, 0, [some (.ref 34), some (.int (-2))], [], 0, 0, (mSH, I, L))) rfl ?_
          refine mB 6 (s2 := (d + 4, 113, 9, [some (.ref 34), some (.int (-2))], [.int 0, .ref 39, .int 0, .ref 39], 0, 0, (mSH, I, L))) rfl ?_
          refine mRq (s2 := (d + 4, 113, 10, [some (.ref 34), some (.int (-2))], [.int (I 39 0), .int 0, .ref 39], 0, 0, (mSH, I, L))) rfl (by decide) ?_
          refine mB 2 (s2 := (d + 4, 113, 12, [some (.ref 34), some (.int (-2))], [.int ((I 39 0) + 1), .int 0, .ref 39], 0, 0, (mSH, I, L))) rfl ?_
          refine mRq (s2 := (d + 4, 113, 13, [some (.ref 34), some (.int (-2))], [], 0, 0, (mSH, (mUp I 39 0 ((I 39 0) + 1)), L))) rfl (by decide) ?_
          refine mB 1 (s2 := (d + 4, 113, 14, [some (.ref 34), some (.int (-2))], [.int (-2)], 0, 0, (mSH, (mUp I 39 0 ((I 39 0) + 1)), L))) rfl ?_
          refine mRt (r := (some (.int (-2)))) (h := (mSH, (mUp I 39 0 ((I 39 0) + 1)), L)) rfl (mRet_int rfl) ?_
          show mWP mTb_ mFT ro (d + 5, 134, 23, [some (.ref 34), some (.int v0), some (.int v1)], [.int (-2)], 0, 0, (mSH, (mUp I 39 0 ((I 39 0) + 1)), L)) _
          refine mRt (r := (some (.int (-2)))) (h := (mSH, (mUp I 39 0 ((I 39 0) + 1)), L)) rfl (mRet_int rfl) ?_
          exact hq _ _ _ (mGr.up (by rfl) mGr.rf) ⟨s, n, t, ((mGr.up (by rfl) mGr.rf)).m hm⟩ (if_neg (c := an_bk T v0 v1) (by have e1 := pm_ti hM.1.1 (by have := hO.1.1; omega); have e2 := pm_ti hM.1.2.1 (by have := hO.1.2.1; omega); have e3 := mSub1 hM.1.1 hO.1.1; have e4 := mSub1 hM.1.2.1 (Nat.le_trans hO.1.2.1 (by omega)); have e5 := hO.1.1; have e6 := hO.1.2.1; have a0 := of_decide_eq_false c0; have a1 := of_decide_eq_false c1; have a2 := of_decide_eq_false c2; have a3 := of_decide_eq_true c3; simp only [Int32.lt_iff_toInt_lt, Int32.le_iff_toInt_le, ← Int32.toInt_inj, mLi0, mLi1, mLi2, mLi3, mLi4, mLi5, mLi6, mLi7, mLi8, mLi9, mLi10, mLi16, mLi32, mLi48, mLi57, mLi59, mLi65, mLi90, mLi97, mLi99, mLi120, mLi122, mLi127, mLi1584, mLi999999, mLim] at a0 a1 a2 a3 <;> omega)).symm
        · refine mB 2 (s2 := (d + 3, 112, 15, [some (.int v1), some (.int 0), some (.int ((I 34 3) - 1))], [.int 1], 0, 0, (mSH, I, L))) rfl ?_
          refine mRt (r := (some (.int 1))) (h := (mSH, I, L)) rfl rfl ?_
          show mWP mTb_ mFT ro (d + 4, 115, 11, [some (.ref 34), some (.int v1)], [.int 1], 0, 0, (mSH, I, L)) _
          refine mRt (r := (some (.int 1))) (h := (mSH, I, L)) rfl rfl ?_
          show mWP mTb_ mFT ro (d + 5, 134, 14, [some (.ref 34), some (.int v0), some (.int v1)], [.int 1], 0, 0, (mSH, I, L)) _
          refine mBF (s3 := (d + 5, 134, 24, [some (.ref 34), some (.int v0), some (.int v1)], [], 0, 0, (mSH, I, L))) rfl (by decide) ?_
          (have ek : an_block T B kd g pe v0 v1 = (if (an_E T B kd g pe v0).1 < bt_U then nI (bt_bl (an_E T B kd g pe v0).2.tail v1.toInt.toNat) else -3) := if_pos (c := an_bk T v0 v1) (by have e1 := pm_ti hM.1.1 (by have := hO.1.1; omega); have e2 := pm_ti hM.1.2.1 (by have := hO.1.2.1; omega); have e3 := mSub1 hM.1.1 hO.1.1; have e4 := mSub1 hM.1.2.1 (Nat.le_trans hO.1.2.1 (by omega)); have e5 := hO.1.1; have e6 := hO.1.2.1; have a0 := of_decide_eq_false c0; have a1 := of_decide_eq_false c1; have a2 := of_decide_eq_false c2; have a3 := of_decide_eq_false c3; simp only [Int32.lt_iff_toInt_lt, Int32.le_iff_toInt_le, ← Int32.toInt_inj, mLi0, mLi1, mLi2, mLi3, mLi4, mLi5, mLi6, mLi7, mLi8, mLi9, mLi10, mLi16, mLi32, mLi48, mLi57, mLi59, mLi65, mLi90, mLi97, mLi99, mLi120, mLi122, mLi127, mLi1584, mLi999999, mLim] at a0 a1 a2 a3 <;> omega); obtain ⟨j, hj, e⟩ := mNat hM.1.2.1 (Nat.le_trans hO.1.2.1 (by omega)) (of_decide_eq_false c2) (of_decide_eq_false c3); subst e; rw [pm_tn (by have := hO.1.2.1; omega)] at ek; rcases mEi (of_decide_eq_false c0) (of_decide_eq_false c1) with e | e <;> (subst e; first | exact m_bx_0 hm hO hM hj (fun r I1 L1 a b e => hq r I1 L1 a b (e.trans ek.symm)) | exact m_bx_1 hm hO hM hj (fun r I1 L1 a b e => hq r I1 L1 a b (e.trans ek.symm))))
theorem v_nmany {ro : Nat → Nat × (Nat → Int32)} {Q : mPo} {d : Nat} {I : Nat → Nat → Int32} {L : Nat → Nat → Int64} {s n t : Nat} {T : ct_S} {B : ct_B} {kd g pe : Nat} (hm : mM s n t I) (hO : pm_O T B kd g pe) (hM : pm_M T B kd g pe I) (hq : ∀ r I1 L1, mGr I I1 → mIM I1 → r = an_many T B kd g pe → Q (some (.int r)) (mSH, I1, L1))   : mWP mTb_ mFT ro (d + 5, 135, 0, [some (.ref 34)], [], 0, 0, (mSH, I, L)) Q := by
  refine mB 1 (s2 := (d + 5, 135, 1, [some (.ref 34)], [.ref 34], 0, 0, (mSH, I, L))) rfl ?_
  refine mCall (s2 := (d + 4, 132, 0, [some (.ref 34)], [], 0, 0, (mSH, I, L))) rfl ?_
  refine x_isfx hO hM (fun rK K gK fK bK iK => ?_)
  show mWP mTb_ mFT ro (d + 5, 135, 4, [some (.ref 34)], [.int rK], 0, 0, (mSH, K, L)) _
  refine mB 3 (s2 := (d + 5, 135, 9, [some (.ref 34)], [.int (K 34 20)], 0, 0, (mSH, K, L))) rfl ?_
  refine mRt (r := (some (.int (K 34 20)))) (h := (mSH, K, L)) rfl (mRet_int rfl) ?_
  exact hq _ _ _ gK ⟨s, n, t, (gK).m hm⟩ fK.2.1
theorem v_nalike {ro : Nat → Nat × (Nat → Int32)} {Q : mPo} {d : Nat} {I : Nat → Nat → Int32} {L : Nat → Nat → Int64} {s n t : Nat} {T : ct_S} {B : ct_B} {kd g pe : Nat} (hm : mM s n t I) (hO : pm_O T B kd g pe) (hM : pm_M T B kd g pe I) (hq : ∀ r I1 L1, mGr I I1 → mIM I1 → r = an_alike T B kd g pe → Q (some (.int r)) (mSH, I1, L1))   : mWP mTb_ mFT ro (d + 5, 136, 0, [some (.ref 34)], [], 0, 0, (mSH, I, L)) Q := by
  refine mB 1 (s2 := (d + 5, 136, 1, [some (.ref 34)], [.ref 34], 0, 0, (mSH, I, L))) rfl ?_
  refine mCall (s2 := (d + 4, 132, 0, [some (.ref 34)], [], 0, 0, (mSH, I, L))) rfl ?_
  refine x_isfx hO hM (fun rK K gK fK bK iK => ?_)
  show mWP mTb_ mFT ro (d + 5, 136, 4, [some (.ref 34)], [.int rK], 0, 0, (mSH, K, L)) _
  refine mBr (s2 := (d + 5, 136, 14, [some (.ref 34)], [], 0, 0, (mSH, K, L))) (s3 := (d + 5, 136, 7, [some (.ref 34)], [], 0, 0, (mSH, K, L))) rfl (fun c0 => ?_) (fun c0 => ?_)
  · refine mB 2 (s2 := (d + 5, 136, 17, [some (.ref 34)], [.int (-3), .ref 34], 0, 0, (mSH, K, L))) rfl ?_
    refine mCall (s2 := (d + 4, 113, 0, [some (.ref 34), some (.int (-3))], [], 0, 0, (mSH, K, L))) rfl ?_
    refine mB 6 (s2 := (d + 4, 113, 9, [some (.ref 34), some (.int (-3))], [.int 1, .ref 39, .int 1, .ref 39], 0, 0, (mSH, K, L))) rfl ?_
    refine mRq (s2 := (d + 4, 113, 10, [some (.ref 34), some (.int (-3))], [.int (K 39 1), .int 1, .ref 39], 0, 0, (mSH, K, L))) rfl (by decide) ?_
    refine mB 2 (s2 := (d + 4, 113, 12, [some (.ref 34), some (.int (-3))], [.int ((K 39 1) + 1), .int 1, .ref 39], 0, 0, (mSH, K, L))) rfl ?_
    refine mRq (s2 := (d + 4, 113, 13, [some (.ref 34), some (.int (-3))], [], 0, 0, (mSH, (mUp K 39 1 ((K 39 1) + 1)), L))) rfl (by decide) ?_
    refine mB 1 (s2 := (d + 4, 113, 14, [some (.ref 34), some (.int (-3))], [.int (-3)], 0, 0, (mSH, (mUp K 39 1 ((K 39 1) + 1)), L))) rfl ?_
    refine mRt (r := (some (.int (-3)))) (h := (mSH, (mUp K 39 1 ((K 39 1) + 1)), L)) rfl (mRet_int rfl) ?_
    show mWP mTb_ mFT ro (d + 5, 136, 20, [some (.ref 34)], [.int (-3)], 0, 0, (mSH, (mUp K 39 1 ((K 39 1) + 1)), L)) _
    refine mRt (r := (some (.int (-3)))) (h := (mSH, (mUp K 39 1 ((K 39 1) + 1)), L)) rfl (mRet_int rfl) ?_
    exact hq _ _ _ (mGr.up (by rfl) gK) ⟨s, n, t, ((mGr.up (by rfl) gK)).m hm⟩ (if_neg (iK.mp (of_decide_eq_true c0))).symm
  · refine mB 3 (s2 := (d + 5, 136, 20, [some (.ref 34)], [.int (K 34 21)], 0, 0, (mSH, K, L))) rfl ?_
    refine mRt (r := (some (.int (K 34 21)))) (h := (mSH, K, L)) rfl (mRet_int rfl) ?_
    exact hq _ _ _ gK ⟨s, n, t, (gK).m hm⟩ (fK.2.2.trans (if_pos (Decidable.of_not_not (mt iK.mpr (of_decide_eq_false c0)))).symm)
theorem v_nbegins {ro : Nat → Nat × (Nat → Int32)} {Q : mPo} {d : Nat} {I : Nat → Nat → Int32} {L : Nat → Nat → Int64} {s n t : Nat} {T : ct_S} {B : ct_B} {kd g pe : Nat} (hm : mM s n t I) (hO : pm_O T B kd g pe) (hM : pm_M T B kd g pe I) (hq : ∀ r I1 L1, mGr I I1 → mIM I1 → r = bm_Bs (ct_cc T B kd g pe) T.1.2.1 T.1.1 → Q (some (.int r)) (mSH, I1, L1))   : mWP mTb_ mFT ro (d + 5, 137, 0, [some (.ref 34)], [], 0, 0, (mSH, I, L)) Q := by
  refine mB 1 (s2 := (d + 5, 137, 1, [some (.ref 34)], [.ref 34], 0, 0, (mSH, I, L))) rfl ?_
  refine mCall (s2 := (d + 4, 132, 0, [some (.ref 34)], [], 0, 0, (mSH, I, L))) rfl ?_
  refine x_isfx hO hM (fun rK K gK fK bK iK => ?_)
  show mWP mTb_ mFT ro (d + 5, 137, 4, [some (.ref 34)], [.int rK], 0, 0, (mSH, K, L)) _
  refine mB 3 (s2 := (d + 5, 137, 9, [some (.ref 34)], [.int (K 34 22)], 0, 0, (mSH, K, L))) rfl ?_
  refine mRt (r := (some (.int (K 34 22)))) (h := (mSH, K, L)) rfl (mRet_int rfl) ?_
  exact hq _ _ _ gK ⟨s, n, t, (gK).m hm⟩ bK
theorem v_nunbound {ro : Nat → Nat × (Nat → Int32)} {Q : mPo} {d : Nat} {I : Nat → Nat → Int32} {L : Nat → Nat → Int64} {s n t : Nat} {T : ct_S} {B : ct_B} {kd g pe : Nat} (hm : mM s n t I) (hO : pm_O T B kd g pe) (hM : pm_M T B kd g pe I) (hq : ∀ r I1 L1, mGr I I1 → mIM I1 → r = an_unbound T kd g pe → Q (some (.int r)) (mSH, I1, L1))   : mWP mTb_ mFT ro (d + 5, 140, 0, [some (.ref 34)], [], 0, 0, (mSH, I, L)) Q := by
  refine mB 4 (s2 := (d + 5, 140, 6, [some (.ref 34)], [.int 0, .ref 38, .ref 34], 0, 0, (mSH, I, L))) rfl ?_
  refine mRq (s2 := (d + 5, 140, 7, [some (.ref 34)], [.int (I 38 0), .ref 34], 0, 0, (mSH, I, L))) rfl (by decide) ?_
  refine mB 1 (s2 := (d + 5, 140, 8, [some (.ref 34)], [.int 1, .int (I 38 0), .ref 34], 0, 0, (mSH, I, L))) rfl ?_
  refine mCall (s2 := (d + 4, 131, 0, [some (.ref 34), some (.int (I 38 0)), some (.int 1), none], [], 0, 0, (mSH, I, L))) rfl ?_
  refine x_mf_1 (k2 := kd) hM.2.2.2 hO.2.2.2 hO hM (fun rK1 K1 gK1 fK1 bK1 iK1 => ?_)
  show mWP mTb_ mFT ro (d + 5, 140, 11, [some (.ref 34)], [.int rK1], 0, 0, (mSH, K1, L)) _
  refine mB 4 (s2 := (d + 5, 140, 17, [some (.ref 34)], [.int 0, .ref 46], 0, 0, (mSH, K1, L))) rfl ?_
  refine mRq (s2 := (d + 5, 140, 18, [some (.ref 34)], [.int (K1 46 0)], 0, 0, (mSH, K1, L))) rfl (by decide) ?_
  refine mRt (r := (some (.int (K1 46 0)))) (h := (mSH, K1, L)) rfl (mRet_int rfl) ?_
  exact hq _ _ _ gK1 ⟨s, n, t, (gK1).m hm⟩ (bm_s fK1.1.1 (an_ok (pm_O0 hO)).le1)
theorem an_ff {T : ct_S} {B : ct_B} {kd g pe i : Nat} (hO : pm_O T B kd g pe) (hn : 0 < T.1.2.1) : (((bt_al (ct_cc T B kd g pe) T.1.2.1 0 i).map (bt_pre i 0)).foldl bt_ins bt_0).1.1 = an_f T B kd g pe i ∧ bt_ok 0 (((bt_al (ct_cc T B kd g pe) T.1.2.1 0 i).map (bt_pre i 0)).foldl bt_ins bt_0) := by
  have hX : ∀ x, x ∈ bt_al (ct_cc T B kd g pe) T.1.2.1 0 i → 0 + x.1 < bt_U := fun x hx => by
    have := (bt_al_b (ct_ccb hO.1 hO.2.2.1) _ _ _ x hx).1
    have := bt_nV hO.1.2.1
    omega
  have ok := bt_topok hX
  refine ⟨?_, bt_foldok _ _ bt_0ok (fun x hx => ?_)⟩
  · rw [bt_join (v := 0) (f := bt_pre i 0) (fun y => rfl) (Nat.le_refl _) hX]
    unfold an_f
    rw [if_neg (by omega)]
    by_cases z : (bt_top (bt_al (ct_cc T B kd g pe) T.1.2.1 0 i)).1.1 = bt_U
    · rw [bt_jn0 z, z]
      rfl
    · rw [bt_jn1 z]
      show (bt_j2 (bt_pre i 0) (bt_0.1, bt_0.2.1) _).1.1 = _
      rw [bt_j2m (v := 0) (fun y => rfl) ok.1, if_pos (by show 0 + _ < bt_U; have := ok.le1; omega), Nat.zero_add]
  · rw [List.mem_map] at hx
    obtain ⟨y, hy, ex⟩ := hx
    have := hX y hy
    subst ex
    show 0 + (0 + y.1) < bt_U
    omega
theorem mPosx {I : Nat → Nat → Int32} {n : Nat} (h : I 34 3 = nI n) (c : ¬ I 34 3 ≤ 0) : 0 < n := by
  rcases Nat.eq_zero_or_pos n with e | e
  · subst e
    exact absurd (by rw [h]; decide) c
  · exact e
theorem v_nfrom1 {ro : Nat → Nat × (Nat → Int32)} {Q : mPo} {d : Nat} {I H : Nat → Nat → Int32} {L : Nat → Nat → Int64} {T : ct_S} {B : ct_B} {kd g pe : Nat} {s n t j : Nat} {x : Int32} (hm : mM s n t I) (hO : pm_O T B kd g pe) (hM : pm_M T B kd g pe I) (hn : 0 < T.1.2.1) (hj : j < T.1.1) (hx : x = nI kd) (hg : mGr I H) (hF : bm_F T.1.2.1 H bt_0) (hq : ∀ r I1 L1, mGr I I1 → mIM I1 → r = an_s (an_f T B kd g pe j) → Q (some (.int r)) (mSH, I1, L1)) : mWP mTb_ mFT ro (d + 5, 138, 35, [some (.ref 34), some (.int (nI j))], [.int 0, .int x, .int (nI j), .ref 34], 0, 0, (mSH, H, L)) Q := by
  subst hx
  refine mCall (s2 := (d + 4, 129, 0, [some (.ref 34), some (.int (nI j)), some (.int (nI kd)), some (.int 0), none, none, none], [], 0, 0, (mSH, H, L))) rfl ?_
  have hc := x_mis_c0 (ro := ro) (L := L) (kd := kd) hO.1 hM.1 hM.2.1 hO.2.1 hM.2.2.1 hO.2.2.1 hO.2.2.2
  refine x_goes (c := ct_cc T B kd g pe) hO.1.1 hO.1.2.1 hM.1.2.1 (ct_ccb hO.1 hO.2.2.1) (fun j i p v h => (ct_ccs hO.1 hO.2.2.1 h).1) hc hn (Nat.le_of_lt hj) hg hF bt_0ok (fun K gK fK bK => ?_)
  have ff := an_ff (i := j) hO hn
  have fin : Q (some (.int (K 46 0))) (mSH, K, L) := hq _ _ _ gK ⟨s, n, t, gK.m hm⟩ (by rw [bm_s fK.1.1 ff.2.le1, ff.1])
  show mWP mTb_ mFT ro (d + 5, 138, 38, [some (.ref 34), some (.int (nI j))], [], 0, 0, (mSH, K, L)) _
  refine mB 3 (s2 := (d + 5, 138, 43, [some (.ref 34), some (.int (nI j))], [.int 0, .ref 46], 0, 0, (mSH, K, L))) rfl ?_
  refine mRq (s2 := (d + 5, 138, 44, [some (.ref 34), some (.int (nI j))], [.int (K 46 0)], 0, 0, (mSH, K, L))) rfl (by decide) ?_
  refine mRt (r := (some (.int (K 46 0)))) (h := (mSH, K, L)) rfl (mRet_int rfl) ?_
  exact fin
theorem mZerox {I : Nat → Nat → Int32} {n : Nat} (h : I 34 3 = nI n) (hn : n ≤ 8) (c : I 34 3 ≤ 0) : n = 0 := by
  rcases Nat.eq_zero_or_pos n with e | e
  · exact e
  · rw [h] at c
    exact absurd c (nI_nle e (by omega))
theorem v_nfrom2 {ro : Nat → Nat × (Nat → Int32)} {Q : mPo} {d : Nat} {I : Nat → Nat → Int32} {L : Nat → Nat → Int64} {s n t : Nat} {T : ct_S} {B : ct_B} {kd g pe : Nat} {j : Nat} (hm : mM s n t I) (hO : pm_O T B kd g pe) (hM : pm_M T B kd g pe I) (hj : j < T.1.1) (hq : ∀ r I1 L1, mGr I I1 → mIM I1 → r = an_s (an_f T B kd g pe j) → Q (some (.int r)) (mSH, I1, L1))   : mWP mTb_ mFT ro (d + 5, 138, 15, [some (.ref 34), some (.int (nI j))], [], 0, 0, (mSH, I, L)) Q := by
  refine mB 1 (s2 := (d + 5, 138, 16, [some (.ref 34), some (.int (nI j))], [.ref 34], 0, 0, (mSH, I, L))) rfl ?_
  refine mCall (s2 := (d + 4, 130, 0, [some (.ref 34)], [], 0, 0, (mSH, I, L))) rfl ?_
  refine mB 13 (s2 := (d + 4, 130, 21, [some (.ref 34)], [.int (-1), .int 0, .ref 46], 0, 0, (mSH, (mUp (mUp (mUp I 34 20 0) 34 21 0) 34 22 0), L))) rfl ?_
  refine mRq (s2 := (d + 4, 130, 22, [some (.ref 34)], [], 0, 0, (mSH, (mUp (mUp (mUp (mUp I 34 20 0) 34 21 0) 34 22 0) 46 0 (-1)), L))) rfl (by decide) ?_
  refine mB 4 (s2 := (d + 4, 130, 29, [some (.ref 34)], [.int (-1), .int 10, .ref 46], 0, 0, (mSH, (mUp (mUp (mUp (mUp I 34 20 0) 34 21 0) 34 22 0) 46 0 (-1)), L))) rfl ?_
  refine mRq (s2 := (d + 4, 130, 30, [some (.ref 34)], [], 0, 0, (mSH, (mUp (mUp (mUp (mUp (mUp I 34 20 0) 34 21 0) 34 22 0) 46 0 (-1)) 46 10 (-1)), L))) rfl (by decide) ?_
  refine mRt (r := none) (h := (mSH, (mUp (mUp (mUp (mUp (mUp I 34 20 0) 34 21 0) 34 22 0) 46 0 (-1)) 46 10 (-1)), L)) rfl rfl ?_
  show mWP mTb_ mFT ro (d + 5, 138, 19, [some (.ref 34), some (.int (nI j))], [], 0, 0, (mSH, (mUp (mUp (mUp (mUp (mUp I 34 20 0) 34 21 0) 34 22 0) 46 0 (-1)) 46 10 (-1)), L)) _
  refine mB 2 (s2 := (d + 5, 138, 23, [some (.ref 34), some (.int (nI j))], [.int (I 34 3)], 0, 0, (mSH, (mUp (mUp (mUp (mUp (mUp I 34 20 0) 34 21 0) 34 22 0) 46 0 (-1)) 46 10 (-1)), L))) rfl ?_
  refine mBr (s2 := (d + 5, 138, 38, [some (.ref 34), some (.int (nI j))], [], 0, 0, (mSH, (mUp (mUp (mUp (mUp (mUp I 34 20 0) 34 21 0) 34 22 0) 46 0 (-1)) 46 10 (-1)), L))) (s3 := (d + 5, 138, 26, [some (.ref 34), some (.int (nI j))], [], 0, 0, (mSH, (mUp (mUp (mUp (mUp (mUp I 34 20 0) 34 21 0) 34 22 0) 46 0 (-1)) 46 10 (-1)), L))) rfl (fun c0 => ?_) (fun c0 => ?_)
  · refine mB 3 (s2 := (d + 5, 138, 43, [some (.ref 34), some (.int (nI j))], [.int 0, .ref 46], 0, 0, (mSH, (mUp (mUp (mUp (mUp (mUp I 34 20 0) 34 21 0) 34 22 0) 46 0 (-1)) 46 10 (-1)), L))) rfl ?_
    refine mRq (s2 := (d + 5, 138, 44, [some (.ref 34), some (.int (nI j))], [.int (-1)], 0, 0, (mSH, (mUp (mUp (mUp (mUp (mUp I 34 20 0) 34 21 0) 34 22 0) 46 0 (-1)) 46 10 (-1)), L))) rfl (by decide) ?_
    refine mRt (r := (some (.int (-1)))) (h := (mSH, (mUp (mUp (mUp (mUp (mUp I 34 20 0) 34 21 0) 34 22 0) 46 0 (-1)) 46 10 (-1)), L)) rfl (mRet_int rfl) ?_
    exact hq _ _ _ (mGr.up (by rfl) (mGr.up (by rfl) (mGr.uf (by rfl) (mGr.uf (by rfl) (mGr.uf (by rfl) mGr.rf))))) ⟨s, n, t, ((mGr.up (by rfl) (mGr.up (by rfl) (mGr.uf (by rfl) (mGr.uf (by rfl) (mGr.uf (by rfl) mGr.rf)))))).m hm⟩ (by unfold an_f an_s; rw [if_pos (mZerox hM.1.2.1 hO.1.2.1 (of_decide_eq_true c0)), if_neg (Nat.lt_irrefl _)])
  · refine mB 5 (s2 := (d + 5, 138, 33, [some (.ref 34), some (.int (nI j))], [.int 0, .ref 38, .int (nI j), .ref 34], 0, 0, (mSH, (mUp (mUp (mUp (mUp (mUp I 34 20 0) 34 21 0) 34 22 0) 46 0 (-1)) 46 10 (-1)), L))) rfl ?_
    refine mRq (s2 := (d + 5, 138, 34, [some (.ref 34), some (.int (nI j))], [.int (I 38 0), .int (nI j), .ref 34], 0, 0, (mSH, (mUp (mUp (mUp (mUp (mUp I 34 20 0) 34 21 0) 34 22 0) 46 0 (-1)) 46 10 (-1)), L))) rfl (by decide) ?_
    refine mB 1 (s2 := (d + 5, 138, 35, [some (.ref 34), some (.int (nI j))], [.int 0, .int (I 38 0), .int (nI j), .ref 34], 0, 0, (mSH, (mUp (mUp (mUp (mUp (mUp I 34 20 0) 34 21 0) 34 22 0) 46 0 (-1)) 46 10 (-1)), L))) rfl ?_
    (have hn : 0 < T.1.2.1 := mPosx hM.1.2.1 (of_decide_eq_false c0); have hk := hM.2.2.2; exact v_nfrom1 hm hO hM hn hj hk (mGr.up (by rfl) (mGr.up (by rfl) (mGr.uf (by rfl) (mGr.uf (by rfl) (mGr.uf (by rfl) mGr.rf))))) (by first | exact ⟨⟨⟨fun _ => rfl, fun z => absurd z (Nat.lt_irrefl _)⟩, ⟨fun _ => rfl, fun z => absurd z (Nat.lt_irrefl _)⟩⟩, rfl, rfl⟩) hq)
theorem v_nfrom {ro : Nat → Nat × (Nat → Int32)} {Q : mPo} {d : Nat} {I : Nat → Nat → Int32} {L : Nat → Nat → Int64} {s n t : Nat} {T : ct_S} {B : ct_B} {kd g pe : Nat} {v0 : Int32} (hm : mM s n t I) (hO : pm_O T B kd g pe) (hM : pm_M T B kd g pe I) (hq : ∀ r I1 L1, mGr I I1 → mIM I1 → r = an_from T B kd g pe v0 → Q (some (.int r)) (mSH, I1, L1))   : mWP mTb_ mFT ro (d + 5, 138, 0, [some (.ref 34), some (.int v0)], [], 0, 0, (mSH, I, L)) Q := by
  refine mB 2 (s2 := (d + 5, 138, 2, [some (.ref 34), some (.int v0)], [.int v0, .ref 34], 0, 0, (mSH, I, L))) rfl ?_
  refine mCall (s2 := (d + 4, 114, 0, [some (.ref 34), some (.int v0)], [], 0, 0, (mSH, I, L))) rfl ?_
  refine mB 6 (s2 := (d + 4, 114, 8, [some (.ref 34), some (.int v0)], [.int ((I 34 1) - 1), .int 0, .int v0], 0, 0, (mSH, I, L))) rfl ?_
  refine mCall (s2 := (d + 3, 112, 0, [some (.int v0), some (.int 0), some (.int ((I 34 1) - 1))], [], 0, 0, (mSH, I, L))) rfl ?_
  refine mB 2 (s2 := (d + 3, 112, 2, [some (.int v0), some (.int 0), some (.int ((I 34 1) - 1))], [.int 0, .int v0], 0, 0, (mSH, I, L))) rfl ?_
  refine mBr (s2 := (d + 3, 112, 14, [some (.int v0), some (.int 0), some (.int ((I 34 1) - 1))], [], 0, 0, (mSH, I, L))) (s3 := (d + 3, 112, 5, [some (.int v0), some (.int 0), some (.int ((I 34 1) - 1))], [], 0, 0, (mSH, I, L))) rfl (fun c0 => ?_) (fun c0 => ?_)
  · refine mB 1 (s2 := (d + 3, 112, 15, [some (.int v0), some (.int 0), some (.int ((I 34 1) - 1))], [.int 0], 0, 0, (mSH, I, L))) rfl ?_
    refine mRt (r := (some (.int 0))) (h := (mSH, I, L)) rfl rfl ?_
    show mWP mTb_ mFT ro (d + 4, 114, 11, [some (.ref 34), some (.int v0)], [.int 0], 0, 0, (mSH, I, L)) _
    refine mRt (r := (some (.int 0))) (h := (mSH, I, L)) rfl rfl ?_
    show mWP mTb_ mFT ro (d + 5, 138, 5, [some (.ref 34), some (.int v0)], [.int 0], 0, 0, (mSH, I, L)) _
    refine mBT (s2 := (d + 5, 138, 8, [some (.ref 34), some (.int v0)], [], 0, 0, (mSH, I, L))) rfl (by decide) ?_
    refine mB 2 (s2 := (d + 5, 138, 11, [some (.ref 34), some (.int v0)], [.int (-2), .ref 34], 0, 0, (mSH, I, L))) rfl ?_
    refine mCall (s2 := (d + 4, 113, 0, [some (.ref 34), some (.int (-2))], [], 0, 0, (mSH, I, L))) rfl ?_
    refine mB 6 (s2 := (d + 4, 113, 9, [some (.ref 34), some (.int (-2))], [.int 0, .ref 39, .int 0, .ref 39], 0, 0, (mSH, I, L))) rfl ?_
    refine mRq (s2 := (d + 4, 113, 10, [some (.ref 34), some (.int (-2))], [.int (I 39 0), .int 0, .ref 39], 0, 0, (mSH, I, L))) rfl (by decide) ?_
    refine mB 2 (s2 := (d + 4, 113, 12, [some (.ref 34), some (.int (-2))], [.int ((I 39 0) + 1), .int 0, .ref 39], 0, 0, (mSH, I, L))) rfl ?_
    refine mRq (s2 := (d + 4, 113, 13, [some (.ref 34), some (.int (-2))], [], 0, 0, (mSH, (mUp I 39 0 ((I 39 0) + 1)), L))) rfl (by decide) ?_
    refine mB 1 (s2 := (d + 4, 113, 14, [some (.ref 34), some (.int (-2))], [.int (-2)], 0, 0, (mSH, (mUp I 39 0 ((I 39 0) + 1)), L))) rfl ?_
    refine mRt (r := (some (.int (-2)))) (h := (mSH, (mUp I 39 0 ((I 39 0) + 1)), L)) rfl (mRet_int rfl) ?_
    show mWP mTb_ mFT ro (d + 5, 138, 14, [some (.ref 34), some (.int v0)], [.int (-2)], 0, 0, (mSH, (mUp I 39 0 ((I 39 0) + 1)), L)) _
    refine mRt (r := (some (.int (-2)))) (h := (mSH, (mUp I 39 0 ((I 39 0) + 1)), L)) rfl (mRet_int rfl) ?_
    exact hq _ _ _ (mGr.up (by rfl) mGr.rf) ⟨s, n, t, ((mGr.up (by rfl) mGr.rf)).m hm⟩ (if_neg (c := an_fk T v0) (by have e1 := pm_ti hM.1.1 (by have := hO.1.1; omega); have e2 := pm_ti hM.1.2.1 (by have := hO.1.2.1; omega); have e3 := mSub1 hM.1.1 hO.1.1; have e4 := mSub1 hM.1.2.1 (Nat.le_trans hO.1.2.1 (by omega)); have e5 := hO.1.1; have e6 := hO.1.2.1; have a0 := of_decide_eq_true c0; simp only [Int32.lt_iff_toInt_lt, Int32.le_iff_toInt_le, ← Int32.toInt_inj, mLi0, mLi1, mLi2, mLi3, mLi4, mLi5, mLi6, mLi7, mLi8, mLi9, mLi10, mLi16, mLi32, mLi48, mLi57, mLi59, mLi65, mLi90, mLi97, mLi99, mLi120, mLi122, mLi127, mLi1584, mLi999999, mLim] at a0 <;> omega)).symm
  · refine mB 2 (s2 := (d + 3, 112, 7, [some (.int v0), some (.int 0), some (.int ((I 34 1) - 1))], [.int ((I 34 1) - 1), .int v0], 0, 0, (mSH, I, L))) rfl ?_
    refine mBr (s2 := (d + 3, 112, 14, [some (.int v0), some (.int 0), some (.int ((I 34 1) - 1))], [], 0, 0, (mSH, I, L))) (s3 := (d + 3, 112, 10, [some (.int v0), some (.int 0), some (.int ((I 34 1) - 1))], [], 0, 0, (mSH, I, L))) rfl (fun c1 => ?_) (fun c1 => ?_)
    · refine mB 1 (s2 := (d + 3, 112, 15, [some (.int v0), some (.int 0), some (.int ((I 34 1) - 1))], [.int 0], 0, 0, (mSH, I, L))) rfl ?_
      refine mRt (r := (some (.int 0))) (h := (mSH, I, L)) rfl rfl ?_
      show mWP mTb_ mFT ro (d + 4, 114, 11, [some (.ref 34), some (.int v0)], [.int 0], 0, 0, (mSH, I, L)) _
      refine mRt (r := (some (.int 0))) (h := (mSH, I, L)) rfl rfl ?_
      show mWP mTb_ mFT ro (d + 5, 138, 5, [some (.ref 34), some (.int v0)], [.int 0], 0, 0, (mSH, I, L)) _
      refine mBT (s2 := (d + 5, 138, 8, [some (.ref 34), some (.int v0)], [], 0, 0, (mSH, I, L))) rfl (by decide) ?_
      refine mB 2 (s2 := (d + 5, 138, 11, [some (.ref 34), some (.int v0)], [.int (-2), .ref 34], 0, 0, (mSH, I, L))) rfl ?_
      refine mCall (s2 := (d + 4, 113, 0, [some (.ref 34), some (.int (-2))], [], 0, 0, (mSH, I, L))) rfl ?_
      refine mB 6 (s2 := (d + 4, 113, 9, [some (.ref 34), some (.int (-2))], [.int 0, .ref 39, .int 0, .ref 39], 0, 0, (mSH, I, L))) rfl ?_
      refine mRq (s2 := (d + 4, 113, 10, [some (.ref 34), some (.int (-2))], [.int (I 39 0), .int 0, .ref 39], 0, 0, (mSH, I, L))) rfl (by decide) ?_
      refine mB 2 (s2 := (d + 4, 113, 12, [some (.ref 34), some (.int (-2))], [.int ((I 39 0) + 1), .int 0, .ref 39], 0, 0, (mSH, I, L))) rfl ?_
      refine mRq (s2 := (d + 4, 113, 13, [some (.ref 34), some (.int (-2))], [], 0, 0, (mSH, (mUp I 39 0 ((I 39 0) + 1)), L))) rfl (by decide) ?_
      refine mB 1 (s2 := (d + 4, 113, 14, [some (.ref 34), some (.int (-2))], [.int (-2)], 0, 0, (mSH, (mUp I 39 0 ((I 39 0) + 1)), L))) rfl ?_
      refine mRt (r := (some (.int (-2)))) (h := (mSH, (mUp I 39 0 ((I 39 0) + 1)), L)) rfl (mRet_int rfl) ?_
      show mWP mTb_ mFT ro (d + 5, 138, 14, [some (.ref 34), some (.int v0)], [.int (-2)], 0, 0, (mSH, (mUp I 39 0 ((I 39 0) + 1)), L)) _
      refine mRt (r := (some (.int (-2)))) (h := (mSH, (mUp I 39 0 ((I 39 0) + 1)), L)) rfl (mRet_int rfl) ?_
      exact hq _ _ _ (mGr.up (by rfl) mGr.rf) ⟨s, n, t, ((mGr.up (by rfl) mGr.rf)).m hm⟩ (if_neg (c := an_fk T v0) (by have e1 := pm_ti hM.1.1 (by have := hO.1.1; omega); have e2 := pm_ti hM.1.2.1 (by have := hO.1.2.1; omega); have e3 := mSub1 hM.1.1 hO.1.1; have e4 := mSub1 hM.1.2.1 (Nat.le_trans hO.1.2.1 (by omega)); have e5 := hO.1.1; have e6 := hO.1.2.1; have a0 := of_decide_eq_false c0; have a1 := of_decide_eq_true c1; simp only [Int32.lt_iff_toInt_lt, Int32.le_iff_toInt_le, ← Int32.toInt_inj, mLi0, mLi1, mLi2, mLi3, mLi4, mLi5, mLi6, mLi7, mLi8, mLi9, mLi10, mLi16, mLi32, mLi48, mLi57, mLi59, mLi65, mLi90, mLi97, mLi99, mLi120, mLi122, mLi127, mLi1584, mLi999999, mLim] at a0 a1 <;> omega)).symm
    · refine mB 2 (s2 := (d + 3, 112, 15, [some (.int v0), some (.int 0), some (.int ((I 34 1) - 1))], [.int 1], 0, 0, (mSH, I, L))) rfl ?_
      refine mRt (r := (some (.int 1))) (h := (mSH, I, L)) rfl rfl ?_
      show mWP mTb_ mFT ro (d + 4, 114, 11, [some (.ref 34), some (.int v0)], [.int 1], 0, 0, (mSH, I, L)) _
      refine mRt (r := (some (.int 1))) (h := (mSH, I, L)) rfl rfl ?_
      show mWP mTb_ mFT ro (d + 5, 138, 5, [some (.ref 34), some (.int v0)], [.int 1], 0, 0, (mSH, I, L)) _
      refine mBF (s3 := (d + 5, 138, 15, [some (.ref 34), some (.int v0)], [], 0, 0, (mSH, I, L))) rfl (by decide) ?_
      (have ek : an_from T B kd g pe v0 = an_s (an_f T B kd g pe v0.toInt.toNat) := if_pos (c := an_fk T v0) (by have e1 := pm_ti hM.1.1 (by have := hO.1.1; omega); have e2 := pm_ti hM.1.2.1 (by have := hO.1.2.1; omega); have e3 := mSub1 hM.1.1 hO.1.1; have e4 := mSub1 hM.1.2.1 (Nat.le_trans hO.1.2.1 (by omega)); have e5 := hO.1.1; have e6 := hO.1.2.1; have a0 := of_decide_eq_false c0; have a1 := of_decide_eq_false c1; simp only [Int32.lt_iff_toInt_lt, Int32.le_iff_toInt_le, ← Int32.toInt_inj, mLi0, mLi1, mLi2, mLi3, mLi4, mLi5, mLi6, mLi7, mLi8, mLi9, mLi10, mLi16, mLi32, mLi48, mLi57, mLi59, mLi65, mLi90, mLi97, mLi99, mLi120, mLi122, mLi127, mLi1584, mLi999999, mLim] at a0 a1 <;> omega); obtain ⟨j, hj, e⟩ := mNat hM.1.1 hO.1.1 (of_decide_eq_false c0) (of_decide_eq_false c1); subst e; rw [pm_tn (by have := hO.1.1; omega)] at ek; exact v_nfrom2 hm hO hM hj (fun r I1 L1 a b e => hq r I1 L1 a b (e.trans ek.symm)))
