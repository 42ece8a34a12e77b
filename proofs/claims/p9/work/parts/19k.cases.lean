/-! A call of the law. Written by a program (wip/mk_c.py). -/
/-- what holds between two calls -/
def mR (I : Nat → Nat → Int32) : Prop := mIC I ∧ mIM I ∧ I 26 1 = I 34 11 ∧ ∀ j, j < 3 → I 9 j = I 38 j
section RL
variable {I J K : Nat → Nat → Int32} {S : List Nat}
theorem mIM.fr (h : mIM I) (f : mFr S I J) (h1 : mMem S 34 = false) (h2 : mMem S 35 = false) (h3 : mMem S 36 = false) (h4 : mMem S 41 = false) : mIM J := by
  obtain ⟨s, n, t, hm⟩ := h
  refine ⟨s, n, t, ?_⟩
  unfold mM
  rw [f 34 h1, f 35 h2, f 36 h3, f 41 h4]
  exact hm
theorem mCn.eq {q n : Nat} (e : J q = I q) (h : mCn I q n) : mCn J q n := by
  unfold mCn
  rw [e]
  exact h
theorem mIC.fr (h : mIC I) (f : ∀ c, mMem mML c = false → J c = I c) : mIC J := by
  obtain ⟨a, b, c, d, e, g, k⟩ := h
  refine ⟨a.eq (f 2 rfl), b.eq (f 4 rfl), c.eq (f 23 rfl), d.eq (f 26 rfl), e.eq (f 30 rfl), g.eq (f 32 rfl), ?_⟩
  unfold mRk
  rw [f 18 rfl, f 19 rfl]
  exact k
theorem mRel (hR : mR I) (f : mFr S I J) (h1 : mMem S 26 = false) (h2 : mMem S 34 = false) (c : mIC J) (x : ∀ c, mMem mML c = false → K c = J c) (e : K 34 11 = J 34 11) (y : mIM K) (h3 : mMem S 9 = false) (h4 : mMem S 38 = false) (e2 : K 38 = J 38) : mR K := ⟨c.fr x, y, by rw [x 26 rfl, e, f 26 h1, f 34 h2]; exact hR.2.2.1, by rw [x 9 rfl, e2, f 9 h3, f 38 h4]; exact hR.2.2.2⟩
end RL
theorem mJdN_c {f g : Nat → Int32} {w v : Int32} {j : Nat} (h : f j = g j) : mJdN f w v j = mJdN g w v j := by
  unfold mJdN
  rw [h]
theorem mJdR_c {f g : Nat → Int32} {w v : Int32} (h : ∀ j, j < 3 → f j = g j) : mJdR f w v = mJdR g w v := by
  unfold mJdR
  by_cases k : mJdK w v
  · rw [if_pos k, if_pos k]
    have e : w.toNatClampNeg = w.toInt.toNat := rfl
    exact h _ (by rw [e]; unfold mJdK at k; omega)
  · rw [if_neg k, if_neg k]
theorem c_span {ro : Nat → Nat × (Nat → Int32)} {Q : mPo} {I : Nat → Nat → Int32} {L : Nat → Nat → Int64} {i : Int32} (hR : mR I) (hJ : mRJ ro) (hB : mRB ro) (hv1 : vp_in (i + 1) (ro 0).1) (hv2 : vp_in (i + 2) (ro 0).1) (hv3 : vp_in (i + 3) (ro 0).1) (hq : ∀ I L, mR I → mWP mTb_ mFT ro (11, 168, 807, [some (.ref 1000), some (.ref 0), some (.ref 34), some (.int i)], [], 62, 3336, (mSH, I, L)) Q)   : mWP mTb_ mFT ro (11, 168, 156, [some (.ref 1000), some (.ref 0), some (.ref 34), some (.int i)], [], 62, 3336, (mSH, I, L)) Q := by
  refine mB 5 (s2 := (11, 168, 161, [some (.ref 1000), some (.ref 0), some (.ref 34), some (.int i)], [.int (i + 1), .ref 1000, .ref 0], 62, 3336, (mSH, I, L))) rfl ?_
  refine mRq (s2 := (11, 168, 162, [some (.ref 1000), some (.ref 0), some (.ref 34), some (.int i)], [.int ((ro 0).2 ((i + 1).toNatClampNeg)), .ref 0], 62, 3336, (mSH, I, L))) rfl (mVp_of hv1) ?_
  refine mCall (s2 := (10, 76, 0, [some (.ref 0), some (.int ((ro 0).2 ((i + 1).toNatClampNeg)))], [], 0, 0, (mSH, I, L))) rfl ?_
  refine t_span hR.1 (fun rJ1 J1 fJ1 cJ1  => ?_)
  show mWP mTb_ mFT ro (11, 168, 165, [some (.ref 1000), some (.ref 0), some (.ref 34), some (.int i)], [.int rJ1], 62, 3336, (mSH, J1, L)) _
  refine mB 6 (s2 := (11, 168, 171, [some (.ref 1000), some (.ref 0), some (.ref 34), some (.int i)], [.int (i + 1), .ref 1000, .ref 34], 62, 3336, (mSH, J1, L))) rfl ?_
  refine mRq (s2 := (11, 168, 172, [some (.ref 1000), some (.ref 0), some (.ref 34), some (.int i)], [.int ((ro 0).2 ((i + 1).toNatClampNeg)), .ref 34], 62, 3336, (mSH, J1, L))) rfl (mVp_of hv1) ?_
  refine mCall (s2 := (10, 116, 0, [some (.ref 34), some (.int ((ro 0).2 ((i + 1).toNatClampNeg)))], [], 0, 0, (mSH, J1, L))) rfl ?_
  (obtain ⟨sK2, nK2, tK2, mK2⟩ := hR.2.1.fr fJ1 (by rfl) (by rfl) (by rfl) (by rfl)); refine m_span mK2 (fun rK2 K2 LK2 xK2 yK2 => ?_)
  show mWP mTb_ mFT ro (11, 168, 175, [some (.ref 1000), some (.ref 0), some (.ref 34), some (.int i)], [.int rK2], 62, 3336, (mSH, K2, LK2)) _
  refine mB 2 (s2 := (11, 168, 807, [some (.ref 1000), some (.ref 0), some (.ref 34), some (.int i)], [], 62, 3336, (mSH, K2, LK2))) rfl ?_
  exact hq _ _ (mRel hR fJ1 (by rfl) (by rfl) cJ1 xK2.1 xK2.2.1 yK2 (by rfl) (by rfl) xK2.2.2)
theorem c_layer {ro : Nat → Nat × (Nat → Int32)} {Q : mPo} {I : Nat → Nat → Int32} {L : Nat → Nat → Int64} {i : Int32} (hR : mR I) (hJ : mRJ ro) (hB : mRB ro) (hv1 : vp_in (i + 1) (ro 0).1) (hv2 : vp_in (i + 2) (ro 0).1) (hv3 : vp_in (i + 3) (ro 0).1) (hq : ∀ I L, mR I → mWP mTb_ mFT ro (11, 168, 807, [some (.ref 1000), some (.ref 0), some (.ref 34), some (.int i)], [], 62, 3336, (mSH, I, L)) Q)   : mWP mTb_ mFT ro (11, 168, 179, [some (.ref 1000), some (.ref 0), some (.ref 34), some (.int i)], [], 62, 3336, (mSH, I, L)) Q := by
  refine mB 5 (s2 := (11, 168, 184, [some (.ref 1000), some (.ref 0), some (.ref 34), some (.int i)], [.int (i + 1), .ref 1000, .ref 0], 62, 3336, (mSH, I, L))) rfl ?_
  refine mRq (s2 := (11, 168, 185, [some (.ref 1000), some (.ref 0), some (.ref 34), some (.int i)], [.int ((ro 0).2 ((i + 1).toNatClampNeg)), .ref 0], 62, 3336, (mSH, I, L))) rfl (mVp_of hv1) ?_
  refine mCall (s2 := (10, 77, 0, [some (.ref 0), some (.int ((ro 0).2 ((i + 1).toNatClampNeg)))], [], 0, 0, (mSH, I, L))) rfl ?_
  refine t_layer hR.1 (fun rJ1 J1 fJ1 cJ1  => ?_)
  show mWP mTb_ mFT ro (11, 168, 188, [some (.ref 1000), some (.ref 0), some (.ref 34), some (.int i)], [.int rJ1], 62, 3336, (mSH, J1, L)) _
  refine mB 6 (s2 := (11, 168, 194, [some (.ref 1000), some (.ref 0), some (.ref 34), some (.int i)], [.int (i + 1), .ref 1000, .ref 34], 62, 3336, (mSH, J1, L))) rfl ?_
  refine mRq (s2 := (11, 168, 195, [some (.ref 1000), some (.ref 0), some (.ref 34), some (.int i)], [.int ((ro 0).2 ((i + 1).toNatClampNeg)), .ref 34], 62, 3336, (mSH, J1, L))) rfl (mVp_of hv1) ?_
  refine mCall (s2 := (10, 117, 0, [some (.ref 34), some (.int ((ro 0).2 ((i + 1).toNatClampNeg)))], [], 0, 0, (mSH, J1, L))) rfl ?_
  (obtain ⟨sK2, nK2, tK2, mK2⟩ := hR.2.1.fr fJ1 (by rfl) (by rfl) (by rfl) (by rfl)); refine m_layer mK2 (fun rK2 K2 LK2 xK2 yK2 => ?_)
  show mWP mTb_ mFT ro (11, 168, 198, [some (.ref 1000), some (.ref 0), some (.ref 34), some (.int i)], [.int rK2], 62, 3336, (mSH, K2, LK2)) _
  refine mB 2 (s2 := (11, 168, 807, [some (.ref 1000), some (.ref 0), some (.ref 34), some (.int i)], [], 62, 3336, (mSH, K2, LK2))) rfl ?_
  exact hq _ _ (mRel hR fJ1 (by rfl) (by rfl) cJ1 xK2.1 xK2.2.1 yK2 (by rfl) (by rfl) xK2.2.2)
theorem c_points {ro : Nat → Nat × (Nat → Int32)} {Q : mPo} {I : Nat → Nat → Int32} {L : Nat → Nat → Int64} {i : Int32} (hR : mR I) (hJ : mRJ ro) (hB : mRB ro) (hv1 : vp_in (i + 1) (ro 0).1) (hv2 : vp_in (i + 2) (ro 0).1) (hv3 : vp_in (i + 3) (ro 0).1) (hq : ∀ I L, mR I → mWP mTb_ mFT ro (11, 168, 807, [some (.ref 1000), some (.ref 0), some (.ref 34), some (.int i)], [], 62, 3336, (mSH, I, L)) Q)   : mWP mTb_ mFT ro (11, 168, 202, [some (.ref 1000), some (.ref 0), some (.ref 34), some (.int i)], [], 62, 3336, (mSH, I, L)) Q := by
  refine mB 5 (s2 := (11, 168, 207, [some (.ref 1000), some (.ref 0), some (.ref 34), some (.int i)], [.int (i + 1), .ref 1000, .ref 0], 62, 3336, (mSH, I, L))) rfl ?_
  refine mRq (s2 := (11, 168, 208, [some (.ref 1000), some (.ref 0), some (.ref 34), some (.int i)], [.int ((ro 0).2 ((i + 1).toNatClampNeg)), .ref 0], 62, 3336, (mSH, I, L))) rfl (mVp_of hv1) ?_
  refine mCall (s2 := (10, 78, 0, [some (.ref 0), some (.int ((ro 0).2 ((i + 1).toNatClampNeg))), none], [], 0, 0, (mSH, I, L))) rfl ?_
  refine t_points hR.1 (fun rJ1 J1 fJ1 cJ1  => ?_)
  show mWP mTb_ mFT ro (11, 168, 211, [some (.ref 1000), some (.ref 0), some (.ref 34), some (.int i)], [.int rJ1], 62, 3336, (mSH, J1, L)) _
  refine mB 6 (s2 := (11, 168, 217, [some (.ref 1000), some (.ref 0), some (.ref 34), some (.int i)], [.int (i + 1), .ref 1000, .ref 34], 62, 3336, (mSH, J1, L))) rfl ?_
  refine mRq (s2 := (11, 168, 218, [some (.ref 1000), some (.ref 0), some (.ref 34), some (.int i)], [.int ((ro 0).2 ((i + 1).toNatClampNeg)), .ref 34], 62, 3336, (mSH, J1, L))) rfl (mVp_of hv1) ?_
  refine mCall (s2 := (10, 118, 0, [some (.ref 34), some (.int ((ro 0).2 ((i + 1).toNatClampNeg))), none], [], 0, 0, (mSH, J1, L))) rfl ?_
  (obtain ⟨sK2, nK2, tK2, mK2⟩ := hR.2.1.fr fJ1 (by rfl) (by rfl) (by rfl) (by rfl)); refine m_points mK2 (fun rK2 K2 LK2 xK2 yK2 => ?_)
  show mWP mTb_ mFT ro (11, 168, 221, [some (.ref 1000), some (.ref 0), some (.ref 34), some (.int i)], [.int rK2], 62, 3336, (mSH, K2, LK2)) _
  refine mB 2 (s2 := (11, 168, 807, [some (.ref 1000), some (.ref 0), some (.ref 34), some (.int i)], [], 62, 3336, (mSH, K2, LK2))) rfl ?_
  exact hq _ _ (mRel hR fJ1 (by rfl) (by rfl) cJ1 xK2.1 xK2.2.1 yK2 (by rfl) (by rfl) xK2.2.2)
theorem c_sets {ro : Nat → Nat × (Nat → Int32)} {Q : mPo} {I : Nat → Nat → Int32} {L : Nat → Nat → Int64} {i : Int32} (hR : mR I) (hJ : mRJ ro) (hB : mRB ro) (hv1 : vp_in (i + 1) (ro 0).1) (hv2 : vp_in (i + 2) (ro 0).1) (hv3 : vp_in (i + 3) (ro 0).1) (hq : ∀ I L, mR I → mWP mTb_ mFT ro (11, 168, 807, [some (.ref 1000), some (.ref 0), some (.ref 34), some (.int i)], [], 62, 3336, (mSH, I, L)) Q)   : mWP mTb_ mFT ro (11, 168, 225, [some (.ref 1000), some (.ref 0), some (.ref 34), some (.int i)], [], 62, 3336, (mSH, I, L)) Q := by
  refine mB 5 (s2 := (11, 168, 230, [some (.ref 1000), some (.ref 0), some (.ref 34), some (.int i)], [.int (i + 1), .ref 1000, .ref 0], 62, 3336, (mSH, I, L))) rfl ?_
  refine mRq (s2 := (11, 168, 231, [some (.ref 1000), some (.ref 0), some (.ref 34), some (.int i)], [.int ((ro 0).2 ((i + 1).toNatClampNeg)), .ref 0], 62, 3336, (mSH, I, L))) rfl (mVp_of hv1) ?_
  refine mB 4 (s2 := (11, 168, 235, [some (.ref 1000), some (.ref 0), some (.ref 34), some (.int i)], [.int (i + 2), .ref 1000, .int ((ro 0).2 ((i + 1).toNatClampNeg)), .ref 0], 62, 3336, (mSH, I, L))) rfl ?_
  refine mRq (s2 := (11, 168, 236, [some (.ref 1000), some (.ref 0), some (.ref 34), some (.int i)], [.int ((ro 0).2 ((i + 2).toNatClampNeg)), .int ((ro 0).2 ((i + 1).toNatClampNeg)), .ref 0], 62, 3336, (mSH, I, L))) rfl (mVp_of hv2) ?_
  refine mB 4 (s2 := (11, 168, 240, [some (.ref 1000), some (.ref 0), some (.ref 34), some (.int i)], [.int (i + 3), .ref 1000, .int ((ro 0).2 ((i + 2).toNatClampNeg)), .int ((ro 0).2 ((i + 1).toNatClampNeg)), .ref 0], 62, 3336, (mSH, I, L))) rfl ?_
  refine mRq (s2 := (11, 168, 241, [some (.ref 1000), some (.ref 0), some (.ref 34), some (.int i)], [.int ((ro 0).2 ((i + 3).toNatClampNeg)), .int ((ro 0).2 ((i + 2).toNatClampNeg)), .int ((ro 0).2 ((i + 1).toNatClampNeg)), .ref 0], 62, 3336, (mSH, I, L))) rfl (mVp_of hv3) ?_
  refine mCall (s2 := (10, 79, 0, [some (.ref 0), some (.int ((ro 0).2 ((i + 1).toNatClampNeg))), some (.int ((ro 0).2 ((i + 2).toNatClampNeg))), some (.int ((ro 0).2 ((i + 3).toNatClampNeg))), none, none], [], 0, 0, (mSH, I, L))) rfl ?_
  refine t_sets hR.1 (fun rJ1 J1 fJ1 cJ1  => ?_)
  show mWP mTb_ mFT ro (11, 168, 244, [some (.ref 1000), some (.ref 0), some (.ref 34), some (.int i)], [.int rJ1], 62, 3336, (mSH, J1, L)) _
  refine mB 6 (s2 := (11, 168, 250, [some (.ref 1000), some (.ref 0), some (.ref 34), some (.int i)], [.int (i + 1), .ref 1000, .ref 34], 62, 3336, (mSH, J1, L))) rfl ?_
  refine mRq (s2 := (11, 168, 251, [some (.ref 1000), some (.ref 0), some (.ref 34), some (.int i)], [.int ((ro 0).2 ((i + 1).toNatClampNeg)), .ref 34], 62, 3336, (mSH, J1, L))) rfl (mVp_of hv1) ?_
  refine mB 4 (s2 := (11, 168, 255, [some (.ref 1000), some (.ref 0), some (.ref 34), some (.int i)], [.int (i + 2), .ref 1000, .int ((ro 0).2 ((i + 1).toNatClampNeg)), .ref 34], 62, 3336, (mSH, J1, L))) rfl ?_
  refine mRq (s2 := (11, 168, 256, [some (.ref 1000), some (.ref 0), some (.ref 34), some (.int i)], [.int ((ro 0).2 ((i + 2).toNatClampNeg)), .int ((ro 0).2 ((i + 1).toNatClampNeg)), .ref 34], 62, 3336, (mSH, J1, L))) rfl (mVp_of hv2) ?_
  refine mB 4 (s2 := (11, 168, 260, [some (.ref 1000), some (.ref 0), some (.ref 34), some (.int i)], [.int (i + 3), .ref 1000, .int ((ro 0).2 ((i + 2).toNatClampNeg)), .int ((ro 0).2 ((i + 1).toNatClampNeg)), .ref 34], 62, 3336, (mSH, J1, L))) rfl ?_
  refine mRq (s2 := (11, 168, 261, [some (.ref 1000), some (.ref 0), some (.ref 34), some (.int i)], [.int ((ro 0).2 ((i + 3).toNatClampNeg)), .int ((ro 0).2 ((i + 2).toNatClampNeg)), .int ((ro 0).2 ((i + 1).toNatClampNeg)), .ref 34], 62, 3336, (mSH, J1, L))) rfl (mVp_of hv3) ?_
  refine mCall (s2 := (10, 119, 0, [some (.ref 34), some (.int ((ro 0).2 ((i + 1).toNatClampNeg))), some (.int ((ro 0).2 ((i + 2).toNatClampNeg))), some (.int ((ro 0).2 ((i + 3).toNatClampNeg))), none], [], 0, 0, (mSH, J1, L))) rfl ?_
  (obtain ⟨sK2, nK2, tK2, mK2⟩ := hR.2.1.fr fJ1 (by rfl) (by rfl) (by rfl) (by rfl)); refine m_sets mK2 (fun rK2 K2 LK2 xK2 yK2 => ?_)
  show mWP mTb_ mFT ro (11, 168, 264, [some (.ref 1000), some (.ref 0), some (.ref 34), some (.int i)], [.int rK2], 62, 3336, (mSH, K2, LK2)) _
  refine mB 2 (s2 := (11, 168, 807, [some (.ref 1000), some (.ref 0), some (.ref 34), some (.int i)], [], 62, 3336, (mSH, K2, LK2))) rfl ?_
  exact hq _ _ (mRel hR fJ1 (by rfl) (by rfl) cJ1 xK2.1 xK2.2.1 yK2 (by rfl) (by rfl) xK2.2.2)
theorem c_empties {ro : Nat → Nat × (Nat → Int32)} {Q : mPo} {I : Nat → Nat → Int32} {L : Nat → Nat → Int64} {i : Int32} (hR : mR I) (hJ : mRJ ro) (hB : mRB ro) (hv1 : vp_in (i + 1) (ro 0).1) (hv2 : vp_in (i + 2) (ro 0).1) (hv3 : vp_in (i + 3) (ro 0).1) (hq : ∀ I L, mR I → mWP mTb_ mFT ro (11, 168, 807, [some (.ref 1000), some (.ref 0), some (.ref 34), some (.int i)], [], 62, 3336, (mSH, I, L)) Q)   : mWP mTb_ mFT ro (11, 168, 268, [some (.ref 1000), some (.ref 0), some (.ref 34), some (.int i)], [], 62, 3336, (mSH, I, L)) Q := by
  refine mB 5 (s2 := (11, 168, 273, [some (.ref 1000), some (.ref 0), some (.ref 34), some (.int i)], [.int (i + 1), .ref 1000, .ref 0], 62, 3336, (mSH, I, L))) rfl ?_
  refine mRq (s2 := (11, 168, 274, [some (.ref 1000), some (.ref 0), some (.ref 34), some (.int i)], [.int ((ro 0).2 ((i + 1).toNatClampNeg)), .ref 0], 62, 3336, (mSH, I, L))) rfl (mVp_of hv1) ?_
  refine mCall (s2 := (10, 80, 0, [some (.ref 0), some (.int ((ro 0).2 ((i + 1).toNatClampNeg)))], [], 0, 0, (mSH, I, L))) rfl ?_
  refine t_empties hR.1 (fun rJ1 J1 fJ1 cJ1  => ?_)
  show mWP mTb_ mFT ro (11, 168, 277, [some (.ref 1000), some (.ref 0), some (.ref 34), some (.int i)], [.int rJ1], 62, 3336, (mSH, J1, L)) _
  refine mB 6 (s2 := (11, 168, 283, [some (.ref 1000), some (.ref 0), some (.ref 34), some (.int i)], [.int (i + 1), .ref 1000, .ref 34], 62, 3336, (mSH, J1, L))) rfl ?_
  refine mRq (s2 := (11, 168, 284, [some (.ref 1000), some (.ref 0), some (.ref 34), some (.int i)], [.int ((ro 0).2 ((i + 1).toNatClampNeg)), .ref 34], 62, 3336, (mSH, J1, L))) rfl (mVp_of hv1) ?_
  refine mCall (s2 := (10, 120, 0, [some (.ref 34), some (.int ((ro 0).2 ((i + 1).toNatClampNeg))), none], [], 0, 0, (mSH, J1, L))) rfl ?_
  (obtain ⟨sK2, nK2, tK2, mK2⟩ := hR.2.1.fr fJ1 (by rfl) (by rfl) (by rfl) (by rfl)); refine m_empties mK2 (fun rK2 K2 LK2 xK2 yK2 => ?_)
  show mWP mTb_ mFT ro (11, 168, 287, [some (.ref 1000), some (.ref 0), some (.ref 34), some (.int i)], [.int rK2], 62, 3336, (mSH, K2, LK2)) _
  refine mB 2 (s2 := (11, 168, 807, [some (.ref 1000), some (.ref 0), some (.ref 34), some (.int i)], [], 62, 3336, (mSH, K2, LK2))) rfl ?_
  exact hq _ _ (mRel hR fJ1 (by rfl) (by rfl) cJ1 xK2.1 xK2.2.1 yK2 (by rfl) (by rfl) xK2.2.2)
theorem c_draw {ro : Nat → Nat × (Nat → Int32)} {Q : mPo} {I : Nat → Nat → Int32} {L : Nat → Nat → Int64} {i : Int32} (hR : mR I) (hJ : mRJ ro) (hB : mRB ro) (hv1 : vp_in (i + 1) (ro 0).1) (hv2 : vp_in (i + 2) (ro 0).1) (hv3 : vp_in (i + 3) (ro 0).1) (hq : ∀ I L, mR I → mWP mTb_ mFT ro (11, 168, 807, [some (.ref 1000), some (.ref 0), some (.ref 34), some (.int i)], [], 62, 3336, (mSH, I, L)) Q)   : mWP mTb_ mFT ro (11, 168, 291, [some (.ref 1000), some (.ref 0), some (.ref 34), some (.int i)], [], 62, 3336, (mSH, I, L)) Q := by
  refine mB 5 (s2 := (11, 168, 296, [some (.ref 1000), some (.ref 0), some (.ref 34), some (.int i)], [.int (i + 1), .ref 1000, .ref 0], 62, 3336, (mSH, I, L))) rfl ?_
  refine mRq (s2 := (11, 168, 297, [some (.ref 1000), some (.ref 0), some (.ref 34), some (.int i)], [.int ((ro 0).2 ((i + 1).toNatClampNeg)), .ref 0], 62, 3336, (mSH, I, L))) rfl (mVp_of hv1) ?_
  refine mB 4 (s2 := (11, 168, 301, [some (.ref 1000), some (.ref 0), some (.ref 34), some (.int i)], [.int (i + 2), .ref 1000, .int ((ro 0).2 ((i + 1).toNatClampNeg)), .ref 0], 62, 3336, (mSH, I, L))) rfl ?_
  refine mRq (s2 := (11, 168, 302, [some (.ref 1000), some (.ref 0), some (.ref 34), some (.int i)], [.int ((ro 0).2 ((i + 2).toNatClampNeg)), .int ((ro 0).2 ((i + 1).toNatClampNeg)), .ref 0], 62, 3336, (mSH, I, L))) rfl (mVp_of hv2) ?_
  refine mCall (s2 := (10, 81, 0, [some (.ref 0), some (.int ((ro 0).2 ((i + 1).toNatClampNeg))), some (.int ((ro 0).2 ((i + 2).toNatClampNeg)))], [], 0, 0, (mSH, I, L))) rfl ?_
  refine t_draw hR.1 (fun rJ1 J1 fJ1 cJ1 e0J1 => ?_)
  show mWP mTb_ mFT ro (11, 168, 305, [some (.ref 1000), some (.ref 0), some (.ref 34), some (.int i)], [.int rJ1], 62, 3336, (mSH, J1, L)) _
  refine mB 6 (s2 := (11, 168, 311, [some (.ref 1000), some (.ref 0), some (.ref 34), some (.int i)], [.int (i + 1), .ref 1000, .ref 34], 62, 3336, (mSH, J1, L))) rfl ?_
  refine mRq (s2 := (11, 168, 312, [some (.ref 1000), some (.ref 0), some (.ref 34), some (.int i)], [.int ((ro 0).2 ((i + 1).toNatClampNeg)), .ref 34], 62, 3336, (mSH, J1, L))) rfl (mVp_of hv1) ?_
  refine mB 4 (s2 := (11, 168, 316, [some (.ref 1000), some (.ref 0), some (.ref 34), some (.int i)], [.int (i + 2), .ref 1000, .int ((ro 0).2 ((i + 1).toNatClampNeg)), .ref 34], 62, 3336, (mSH, J1, L))) rfl ?_
  refine mRq (s2 := (11, 168, 317, [some (.ref 1000), some (.ref 0), some (.ref 34), some (.int i)], [.int ((ro 0).2 ((i + 2).toNatClampNeg)), .int ((ro 0).2 ((i + 1).toNatClampNeg)), .ref 34], 62, 3336, (mSH, J1, L))) rfl (mVp_of hv2) ?_
  refine mCall (s2 := (10, 121, 0, [some (.ref 34), some (.int ((ro 0).2 ((i + 1).toNatClampNeg))), some (.int ((ro 0).2 ((i + 2).toNatClampNeg))), none, none, none, none, none], [], 0, 0, (mSH, J1, L))) rfl ?_
  (obtain ⟨sK2, nK2, tK2, mK2⟩ := hR.2.1.fr fJ1 (by rfl) (by rfl) (by rfl) (by rfl)); refine m_draw mK2 (fun rK2 K2 LK2 xK2 yK2 e0K2 => ?_)
  show mWP mTb_ mFT ro (11, 168, 320, [some (.ref 1000), some (.ref 0), some (.ref 34), some (.int i)], [.int rK2], 62, 3336, (mSH, K2, LK2)) _
  refine mB 2 (s2 := (11, 168, 807, [some (.ref 1000), some (.ref 0), some (.ref 34), some (.int i)], [], 62, 3336, (mSH, K2, LK2))) rfl ?_
  exact hq _ _ (mRel hR fJ1 (by rfl) (by rfl) cJ1 xK2.1 xK2.2.1 yK2 (by rfl) (by rfl) xK2.2.2)
theorem c_bound {ro : Nat → Nat × (Nat → Int32)} {Q : mPo} {I : Nat → Nat → Int32} {L : Nat → Nat → Int64} {i : Int32} (hR : mR I) (hJ : mRJ ro) (hB : mRB ro) (hv1 : vp_in (i + 1) (ro 0).1) (hv2 : vp_in (i + 2) (ro 0).1) (hv3 : vp_in (i + 3) (ro 0).1) (hq : ∀ I L, mR I → mWP mTb_ mFT ro (11, 168, 807, [some (.ref 1000), some (.ref 0), some (.ref 34), some (.int i)], [], 62, 3336, (mSH, I, L)) Q)   : mWP mTb_ mFT ro (11, 168, 324, [some (.ref 1000), some (.ref 0), some (.ref 34), some (.int i)], [], 62, 3336, (mSH, I, L)) Q := by
  refine mB 5 (s2 := (11, 168, 329, [some (.ref 1000), some (.ref 0), some (.ref 34), some (.int i)], [.int (i + 1), .ref 1000, .ref 0], 62, 3336, (mSH, I, L))) rfl ?_
  refine mRq (s2 := (11, 168, 330, [some (.ref 1000), some (.ref 0), some (.ref 34), some (.int i)], [.int ((ro 0).2 ((i + 1).toNatClampNeg)), .ref 0], 62, 3336, (mSH, I, L))) rfl (mVp_of hv1) ?_
  refine mB 4 (s2 := (11, 168, 334, [some (.ref 1000), some (.ref 0), some (.ref 34), some (.int i)], [.int (i + 2), .ref 1000, .int ((ro 0).2 ((i + 1).toNatClampNeg)), .ref 0], 62, 3336, (mSH, I, L))) rfl ?_
  refine mRq (s2 := (11, 168, 335, [some (.ref 1000), some (.ref 0), some (.ref 34), some (.int i)], [.int ((ro 0).2 ((i + 2).toNatClampNeg)), .int ((ro 0).2 ((i + 1).toNatClampNeg)), .ref 0], 62, 3336, (mSH, I, L))) rfl (mVp_of hv2) ?_
  refine mB 4 (s2 := (11, 168, 339, [some (.ref 1000), some (.ref 0), some (.ref 34), some (.int i)], [.int (i + 3), .ref 1000, .int ((ro 0).2 ((i + 2).toNatClampNeg)), .int ((ro 0).2 ((i + 1).toNatClampNeg)), .ref 0], 62, 3336, (mSH, I, L))) rfl ?_
  refine mRq (s2 := (11, 168, 340, [some (.ref 1000), some (.ref 0), some (.ref 34), some (.int i)], [.int ((ro 0).2 ((i + 3).toNatClampNeg)), .int ((ro 0).2 ((i + 2).toNatClampNeg)), .int ((ro 0).2 ((i + 1).toNatClampNeg)), .ref 0], 62, 3336, (mSH, I, L))) rfl (mVp_of hv3) ?_
  refine mCall (s2 := (10, 82, 0, [some (.ref 0), some (.int ((ro 0).2 ((i + 1).toNatClampNeg))), some (.int ((ro 0).2 ((i + 2).toNatClampNeg))), some (.int ((ro 0).2 ((i + 3).toNatClampNeg)))], [], 0, 0, (mSH, I, L))) rfl ?_
  refine t_bound hR.1 (fun rJ1 J1 fJ1 cJ1 e0J1 => ?_)
  show mWP mTb_ mFT ro (11, 168, 343, [some (.ref 1000), some (.ref 0), some (.ref 34), some (.int i)], [.int rJ1], 62, 3336, (mSH, J1, L)) _
  refine mB 6 (s2 := (11, 168, 349, [some (.ref 1000), some (.ref 0), some (.ref 34), some (.int i)], [.int (i + 1), .ref 1000, .ref 34], 62, 3336, (mSH, J1, L))) rfl ?_
  refine mRq (s2 := (11, 168, 350, [some (.ref 1000), some (.ref 0), some (.ref 34), some (.int i)], [.int ((ro 0).2 ((i + 1).toNatClampNeg)), .ref 34], 62, 3336, (mSH, J1, L))) rfl (mVp_of hv1) ?_
  refine mB 4 (s2 := (11, 168, 354, [some (.ref 1000), some (.ref 0), some (.ref 34), some (.int i)], [.int (i + 2), .ref 1000, .int ((ro 0).2 ((i + 1).toNatClampNeg)), .ref 34], 62, 3336, (mSH, J1, L))) rfl ?_
  refine mRq (s2 := (11, 168, 355, [some (.ref 1000), some (.ref 0), some (.ref 34), some (.int i)], [.int ((ro 0).2 ((i + 2).toNatClampNeg)), .int ((ro 0).2 ((i + 1).toNatClampNeg)), .ref 34], 62, 3336, (mSH, J1, L))) rfl (mVp_of hv2) ?_
  refine mB 4 (s2 := (11, 168, 359, [some (.ref 1000), some (.ref 0), some (.ref 34), some (.int i)], [.int (i + 3), .ref 1000, .int ((ro 0).2 ((i + 2).toNatClampNeg)), .int ((ro 0).2 ((i + 1).toNatClampNeg)), .ref 34], 62, 3336, (mSH, J1, L))) rfl ?_
  refine mRq (s2 := (11, 168, 360, [some (.ref 1000), some (.ref 0), some (.ref 34), some (.int i)], [.int ((ro 0).2 ((i + 3).toNatClampNeg)), .int ((ro 0).2 ((i + 2).toNatClampNeg)), .int ((ro 0).2 ((i + 1).toNatClampNeg)), .ref 34], 62, 3336, (mSH, J1, L))) rfl (mVp_of hv3) ?_
  refine mCall (s2 := (10, 122, 0, [some (.ref 34), some (.int ((ro 0).2 ((i + 1).toNatClampNeg))), some (.int ((ro 0).2 ((i + 2).toNatClampNeg))), some (.int ((ro 0).2 ((i + 3).toNatClampNeg)))], [], 0, 0, (mSH, J1, L))) rfl ?_
  (obtain ⟨sK2, nK2, tK2, mK2⟩ := hR.2.1.fr fJ1 (by rfl) (by rfl) (by rfl) (by rfl)); refine m_bound mK2 (fun rK2 K2 LK2 xK2 yK2 e0K2 => ?_)
  show mWP mTb_ mFT ro (11, 168, 363, [some (.ref 1000), some (.ref 0), some (.ref 34), some (.int i)], [.int rK2], 62, 3336, (mSH, K2, LK2)) _
  refine mB 2 (s2 := (11, 168, 807, [some (.ref 1000), some (.ref 0), some (.ref 34), some (.int i)], [], 62, 3336, (mSH, K2, LK2))) rfl ?_
  exact hq _ _ (mRel hR fJ1 (by rfl) (by rfl) cJ1 xK2.1 xK2.2.1 yK2 (by rfl) (by rfl) xK2.2.2)
theorem c_judge {ro : Nat → Nat × (Nat → Int32)} {Q : mPo} {I : Nat → Nat → Int32} {L : Nat → Nat → Int64} {i : Int32} (hR : mR I) (hJ : mRJ ro) (hB : mRB ro) (hv1 : vp_in (i + 1) (ro 0).1) (hv2 : vp_in (i + 2) (ro 0).1) (hv3 : vp_in (i + 3) (ro 0).1) (hq : ∀ I L, mR I → mWP mTb_ mFT ro (11, 168, 807, [some (.ref 1000), some (.ref 0), some (.ref 34), some (.int i)], [], 62, 3336, (mSH, I, L)) Q)   : mWP mTb_ mFT ro (11, 168, 367, [some (.ref 1000), some (.ref 0), some (.ref 34), some (.int i)], [], 62, 3336, (mSH, I, L)) Q := by
  refine mB 5 (s2 := (11, 168, 372, [some (.ref 1000), some (.ref 0), some (.ref 34), some (.int i)], [.int (i + 1), .ref 1000, .ref 0], 62, 3336, (mSH, I, L))) rfl ?_
  refine mRq (s2 := (11, 168, 373, [some (.ref 1000), some (.ref 0), some (.ref 34), some (.int i)], [.int ((ro 0).2 ((i + 1).toNatClampNeg)), .ref 0], 62, 3336, (mSH, I, L))) rfl (mVp_of hv1) ?_
  refine mB 4 (s2 := (11, 168, 377, [some (.ref 1000), some (.ref 0), some (.ref 34), some (.int i)], [.int (i + 2), .ref 1000, .int ((ro 0).2 ((i + 1).toNatClampNeg)), .ref 0], 62, 3336, (mSH, I, L))) rfl ?_
  refine mRq (s2 := (11, 168, 378, [some (.ref 1000), some (.ref 0), some (.ref 34), some (.int i)], [.int ((ro 0).2 ((i + 2).toNatClampNeg)), .int ((ro 0).2 ((i + 1).toNatClampNeg)), .ref 0], 62, 3336, (mSH, I, L))) rfl (mVp_of hv2) ?_
  refine mCall (s2 := (10, 83, 0, [some (.ref 0), some (.int ((ro 0).2 ((i + 1).toNatClampNeg))), some (.int ((ro 0).2 ((i + 2).toNatClampNeg))), none], [], 0, 0, (mSH, I, L))) rfl ?_
  refine t_judge hR.1 hJ (fun rJ1 J1 fJ1 cJ1 e0J1 e1J1 => ?_)
  show mWP mTb_ mFT ro (11, 168, 381, [some (.ref 1000), some (.ref 0), some (.ref 34), some (.int i)], [.int rJ1], 62, 3336, (mSH, J1, L)) _
  refine mB 5 (s2 := (11, 168, 386, [some (.ref 1000), some (.ref 0), some (.ref 34), some (.int i)], [.int (i + 1), .ref 1000, .ref 34, .int rJ1], 62, 3336, (mSH, J1, L))) rfl ?_
  refine mRq (s2 := (11, 168, 387, [some (.ref 1000), some (.ref 0), some (.ref 34), some (.int i)], [.int ((ro 0).2 ((i + 1).toNatClampNeg)), .ref 34, .int rJ1], 62, 3336, (mSH, J1, L))) rfl (mVp_of hv1) ?_
  refine mB 4 (s2 := (11, 168, 391, [some (.ref 1000), some (.ref 0), some (.ref 34), some (.int i)], [.int (i + 2), .ref 1000, .int ((ro 0).2 ((i + 1).toNatClampNeg)), .ref 34, .int rJ1], 62, 3336, (mSH, J1, L))) rfl ?_
  refine mRq (s2 := (11, 168, 392, [some (.ref 1000), some (.ref 0), some (.ref 34), some (.int i)], [.int ((ro 0).2 ((i + 2).toNatClampNeg)), .int ((ro 0).2 ((i + 1).toNatClampNeg)), .ref 34, .int rJ1], 62, 3336, (mSH, J1, L))) rfl (mVp_of hv2) ?_
  refine mCall (s2 := (10, 123, 0, [some (.ref 34), some (.int ((ro 0).2 ((i + 1).toNatClampNeg))), some (.int ((ro 0).2 ((i + 2).toNatClampNeg))), none], [], 0, 0, (mSH, J1, L))) rfl ?_
  (obtain ⟨sK2, nK2, tK2, mK2⟩ := hR.2.1.fr fJ1 (by rfl) (by rfl) (by rfl) (by rfl)); refine m_judge mK2 (fun rK2 K2 LK2 xK2 tK2 yK2 e0K2 e1K2 => ?_)
  show mWP mTb_ mFT ro (11, 168, 395, [some (.ref 1000), some (.ref 0), some (.ref 34), some (.int i)], [.int rK2, .int rJ1], 62, 3336, (mSH, K2, LK2)) _
  refine mBr (s2 := (11, 168, 807, [some (.ref 1000), some (.ref 0), some (.ref 34), some (.int i)], [], 62, 3336, (mSH, K2, LK2))) (s3 := (11, 168, 398, [some (.ref 1000), some (.ref 0), some (.ref 34), some (.int i)], [], 62, 3336, (mSH, K2, LK2))) rfl (fun c0 => ?_) (fun c0 => ?_)
  · exact hq _ _ (⟨cJ1.fr xK2, yK2, by rw [xK2 26 rfl, tK2, fJ1 26 rfl, fJ1 34 rfl]; exact hR.2.2.1, fun j hj => by rw [xK2 9 rfl, e1J1, e1K2, fJ1 38 rfl, mJdN_c (hR.2.2.2 j hj)]⟩)
  · refine mB 1 (s2 := (11, 168, 399, [some (.ref 1000), some (.ref 0), some (.ref 34), some (.int i)], [.int 0], 62, 3336, (mSH, K2, LK2))) rfl ?_
    refine mRt (r := (some (.int 0))) (h := (mSH, K2, LK2)) rfl rfl ?_
    exact absurd (e0J1.trans (by rw [e0K2, fJ1 38 rfl, mJdR_c hR.2.2.2])) (of_decide_eq_false c0)
theorem c_misfit {ro : Nat → Nat × (Nat → Int32)} {Q : mPo} {I : Nat → Nat → Int32} {L : Nat → Nat → Int64} {i : Int32} (hR : mR I) (hJ : mRJ ro) (hB : mRB ro) (hv1 : vp_in (i + 1) (ro 0).1) (hv2 : vp_in (i + 2) (ro 0).1) (hv3 : vp_in (i + 3) (ro 0).1) (hq : ∀ I L, mR I → mWP mTb_ mFT ro (11, 168, 807, [some (.ref 1000), some (.ref 0), some (.ref 34), some (.int i)], [], 62, 3336, (mSH, I, L)) Q)   : mWP mTb_ mFT ro (11, 168, 400, [some (.ref 1000), some (.ref 0), some (.ref 34), some (.int i)], [], 62, 3336, (mSH, I, L)) Q := by
  refine mB 5 (s2 := (11, 168, 405, [some (.ref 1000), some (.ref 0), some (.ref 34), some (.int i)], [.int (i + 1), .ref 1000, .ref 0], 62, 3336, (mSH, I, L))) rfl ?_
  refine mRq (s2 := (11, 168, 406, [some (.ref 1000), some (.ref 0), some (.ref 34), some (.int i)], [.int ((ro 0).2 ((i + 1).toNatClampNeg)), .ref 0], 62, 3336, (mSH, I, L))) rfl (mVp_of hv1) ?_
  refine mB 4 (s2 := (11, 168, 410, [some (.ref 1000), some (.ref 0), some (.ref 34), some (.int i)], [.int (i + 2), .ref 1000, .int ((ro 0).2 ((i + 1).toNatClampNeg)), .ref 0], 62, 3336, (mSH, I, L))) rfl ?_
  refine mRq (s2 := (11, 168, 411, [some (.ref 1000), some (.ref 0), some (.ref 34), some (.int i)], [.int ((ro 0).2 ((i + 2).toNatClampNeg)), .int ((ro 0).2 ((i + 1).toNatClampNeg)), .ref 0], 62, 3336, (mSH, I, L))) rfl (mVp_of hv2) ?_
  refine mB 4 (s2 := (11, 168, 415, [some (.ref 1000), some (.ref 0), some (.ref 34), some (.int i)], [.int (i + 3), .ref 1000, .int ((ro 0).2 ((i + 2).toNatClampNeg)), .int ((ro 0).2 ((i + 1).toNatClampNeg)), .ref 0], 62, 3336, (mSH, I, L))) rfl ?_
  refine mRq (s2 := (11, 168, 416, [some (.ref 1000), some (.ref 0), some (.ref 34), some (.int i)], [.int ((ro 0).2 ((i + 3).toNatClampNeg)), .int ((ro 0).2 ((i + 2).toNatClampNeg)), .int ((ro 0).2 ((i + 1).toNatClampNeg)), .ref 0], 62, 3336, (mSH, I, L))) rfl (mVp_of hv3) ?_
  refine mCall (s2 := (10, 84, 0, [some (.ref 0), some (.int ((ro 0).2 ((i + 1).toNatClampNeg))), some (.int ((ro 0).2 ((i + 2).toNatClampNeg))), some (.int ((ro 0).2 ((i + 3).toNatClampNeg)))], [], 0, 0, (mSH, I, L))) rfl ?_
  refine t_misfit hR.1 (fun rJ1 J1 fJ1 cJ1  => ?_)
  show mWP mTb_ mFT ro (11, 168, 419, [some (.ref 1000), some (.ref 0), some (.ref 34), some (.int i)], [.int rJ1], 62, 3336, (mSH, J1, L)) _
  refine mB 6 (s2 := (11, 168, 425, [some (.ref 1000), some (.ref 0), some (.ref 34), some (.int i)], [.int (i + 1), .ref 1000, .ref 34], 62, 3336, (mSH, J1, L))) rfl ?_
  refine mRq (s2 := (11, 168, 426, [some (.ref 1000), some (.ref 0), some (.ref 34), some (.int i)], [.int ((ro 0).2 ((i + 1).toNatClampNeg)), .ref 34], 62, 3336, (mSH, J1, L))) rfl (mVp_of hv1) ?_
  refine mB 4 (s2 := (11, 168, 430, [some (.ref 1000), some (.ref 0), some (.ref 34), some (.int i)], [.int (i + 2), .ref 1000, .int ((ro 0).2 ((i + 1).toNatClampNeg)), .ref 34], 62, 3336, (mSH, J1, L))) rfl ?_
  refine mRq (s2 := (11, 168, 431, [some (.ref 1000), some (.ref 0), some (.ref 34), some (.int i)], [.int ((ro 0).2 ((i + 2).toNatClampNeg)), .int ((ro 0).2 ((i + 1).toNatClampNeg)), .ref 34], 62, 3336, (mSH, J1, L))) rfl (mVp_of hv2) ?_
  refine mB 4 (s2 := (11, 168, 435, [some (.ref 1000), some (.ref 0), some (.ref 34), some (.int i)], [.int (i + 3), .ref 1000, .int ((ro 0).2 ((i + 2).toNatClampNeg)), .int ((ro 0).2 ((i + 1).toNatClampNeg)), .ref 34], 62, 3336, (mSH, J1, L))) rfl ?_
  refine mRq (s2 := (11, 168, 436, [some (.ref 1000), some (.ref 0), some (.ref 34), some (.int i)], [.int ((ro 0).2 ((i + 3).toNatClampNeg)), .int ((ro 0).2 ((i + 2).toNatClampNeg)), .int ((ro 0).2 ((i + 1).toNatClampNeg)), .ref 34], 62, 3336, (mSH, J1, L))) rfl (mVp_of hv3) ?_
  refine mCall (s2 := (10, 126, 0, [some (.ref 34), some (.int ((ro 0).2 ((i + 1).toNatClampNeg))), some (.int ((ro 0).2 ((i + 2).toNatClampNeg))), some (.int ((ro 0).2 ((i + 3).toNatClampNeg)))], [], 0, 0, (mSH, J1, L))) rfl ?_
  (obtain ⟨sK2, nK2, tK2, mK2⟩ := hR.2.1.fr fJ1 (by rfl) (by rfl) (by rfl) (by rfl)); refine m_misfit mK2 (fun rK2 K2 LK2 xK2 yK2 => ?_)
  show mWP mTb_ mFT ro (11, 168, 439, [some (.ref 1000), some (.ref 0), some (.ref 34), some (.int i)], [.int rK2], 62, 3336, (mSH, K2, LK2)) _
  refine mB 2 (s2 := (11, 168, 807, [some (.ref 1000), some (.ref 0), some (.ref 34), some (.int i)], [], 62, 3336, (mSH, K2, LK2))) rfl ?_
  exact hq _ _ (mRel hR fJ1 (by rfl) (by rfl) cJ1 xK2.1 xK2.2.1 yK2 (by rfl) (by rfl) xK2.2.2)
theorem c_match {ro : Nat → Nat × (Nat → Int32)} {Q : mPo} {I : Nat → Nat → Int32} {L : Nat → Nat → Int64} {i : Int32} (hR : mR I) (hJ : mRJ ro) (hB : mRB ro) (hv1 : vp_in (i + 1) (ro 0).1) (hv2 : vp_in (i + 2) (ro 0).1) (hv3 : vp_in (i + 3) (ro 0).1) (hq : ∀ I L, mR I → mWP mTb_ mFT ro (11, 168, 807, [some (.ref 1000), some (.ref 0), some (.ref 34), some (.int i)], [], 62, 3336, (mSH, I, L)) Q)   : mWP mTb_ mFT ro (11, 168, 443, [some (.ref 1000), some (.ref 0), some (.ref 34), some (.int i)], [], 62, 3336, (mSH, I, L)) Q := by
  refine mB 5 (s2 := (11, 168, 448, [some (.ref 1000), some (.ref 0), some (.ref 34), some (.int i)], [.int (i + 1), .ref 1000, .ref 0], 62, 3336, (mSH, I, L))) rfl ?_
  refine mRq (s2 := (11, 168, 449, [some (.ref 1000), some (.ref 0), some (.ref 34), some (.int i)], [.int ((ro 0).2 ((i + 1).toNatClampNeg)), .ref 0], 62, 3336, (mSH, I, L))) rfl (mVp_of hv1) ?_
  refine mB 4 (s2 := (11, 168, 453, [some (.ref 1000), some (.ref 0), some (.ref 34), some (.int i)], [.int (i + 2), .ref 1000, .int ((ro 0).2 ((i + 1).toNatClampNeg)), .ref 0], 62, 3336, (mSH, I, L))) rfl ?_
  refine mRq (s2 := (11, 168, 454, [some (.ref 1000), some (.ref 0), some (.ref 34), some (.int i)], [.int ((ro 0).2 ((i + 2).toNatClampNeg)), .int ((ro 0).2 ((i + 1).toNatClampNeg)), .ref 0], 62, 3336, (mSH, I, L))) rfl (mVp_of hv2) ?_
  refine mCall (s2 := (10, 85, 0, [some (.ref 0), some (.int ((ro 0).2 ((i + 1).toNatClampNeg))), some (.int ((ro 0).2 ((i + 2).toNatClampNeg)))], [], 0, 0, (mSH, I, L))) rfl ?_
  refine t_match hR.1 (fun rJ1 J1 fJ1 cJ1  => ?_)
  show mWP mTb_ mFT ro (11, 168, 457, [some (.ref 1000), some (.ref 0), some (.ref 34), some (.int i)], [.int rJ1], 62, 3336, (mSH, J1, L)) _
  refine mB 6 (s2 := (11, 168, 463, [some (.ref 1000), some (.ref 0), some (.ref 34), some (.int i)], [.int (i + 1), .ref 1000, .ref 34], 62, 3336, (mSH, J1, L))) rfl ?_
  refine mRq (s2 := (11, 168, 464, [some (.ref 1000), some (.ref 0), some (.ref 34), some (.int i)], [.int ((ro 0).2 ((i + 1).toNatClampNeg)), .ref 34], 62, 3336, (mSH, J1, L))) rfl (mVp_of hv1) ?_
  refine mB 4 (s2 := (11, 168, 468, [some (.ref 1000), some (.ref 0), some (.ref 34), some (.int i)], [.int (i + 2), .ref 1000, .int ((ro 0).2 ((i + 1).toNatClampNeg)), .ref 34], 62, 3336, (mSH, J1, L))) rfl ?_
  refine mRq (s2 := (11, 168, 469, [some (.ref 1000), some (.ref 0), some (.ref 34), some (.int i)], [.int ((ro 0).2 ((i + 2).toNatClampNeg)), .int ((ro 0).2 ((i + 1).toNatClampNeg)), .ref 34], 62, 3336, (mSH, J1, L))) rfl (mVp_of hv2) ?_
  refine mCall (s2 := (10, 133, 0, [some (.ref 34), some (.int ((ro 0).2 ((i + 1).toNatClampNeg))), some (.int ((ro 0).2 ((i + 2).toNatClampNeg))), none, none, none], [], 0, 0, (mSH, J1, L))) rfl ?_
  (obtain ⟨sK2, nK2, tK2, mK2⟩ := hR.2.1.fr fJ1 (by rfl) (by rfl) (by rfl) (by rfl)); refine m_match mK2 (fun rK2 K2 LK2 xK2 yK2 => ?_)
  show mWP mTb_ mFT ro (11, 168, 472, [some (.ref 1000), some (.ref 0), some (.ref 34), some (.int i)], [.int rK2], 62, 3336, (mSH, K2, LK2)) _
  refine mB 2 (s2 := (11, 168, 807, [some (.ref 1000), some (.ref 0), some (.ref 34), some (.int i)], [], 62, 3336, (mSH, K2, LK2))) rfl ?_
  exact hq _ _ (mRel hR fJ1 (by rfl) (by rfl) cJ1 xK2.1 xK2.2.1 yK2 (by rfl) (by rfl) xK2.2.2)
theorem c_block {ro : Nat → Nat × (Nat → Int32)} {Q : mPo} {I : Nat → Nat → Int32} {L : Nat → Nat → Int64} {i : Int32} (hR : mR I) (hJ : mRJ ro) (hB : mRB ro) (hv1 : vp_in (i + 1) (ro 0).1) (hv2 : vp_in (i + 2) (ro 0).1) (hv3 : vp_in (i + 3) (ro 0).1) (hq : ∀ I L, mR I → mWP mTb_ mFT ro (11, 168, 807, [some (.ref 1000), some (.ref 0), some (.ref 34), some (.int i)], [], 62, 3336, (mSH, I, L)) Q)   : mWP mTb_ mFT ro (11, 168, 476, [some (.ref 1000), some (.ref 0), some (.ref 34), some (.int i)], [], 62, 3336, (mSH, I, L)) Q := by
  refine mB 5 (s2 := (11, 168, 481, [some (.ref 1000), some (.ref 0), some (.ref 34), some (.int i)], [.int (i + 1), .ref 1000, .ref 0], 62, 3336, (mSH, I, L))) rfl ?_
  refine mRq (s2 := (11, 168, 482, [some (.ref 1000), some (.ref 0), some (.ref 34), some (.int i)], [.int ((ro 0).2 ((i + 1).toNatClampNeg)), .ref 0], 62, 3336, (mSH, I, L))) rfl (mVp_of hv1) ?_
  refine mB 4 (s2 := (11, 168, 486, [some (.ref 1000), some (.ref 0), some (.ref 34), some (.int i)], [.int (i + 2), .ref 1000, .int ((ro 0).2 ((i + 1).toNatClampNeg)), .ref 0], 62, 3336, (mSH, I, L))) rfl ?_
  refine mRq (s2 := (11, 168, 487, [some (.ref 1000), some (.ref 0), some (.ref 34), some (.int i)], [.int ((ro 0).2 ((i + 2).toNatClampNeg)), .int ((ro 0).2 ((i + 1).toNatClampNeg)), .ref 0], 62, 3336, (mSH, I, L))) rfl (mVp_of hv2) ?_
  refine mCall (s2 := (10, 86, 0, [some (.ref 0), some (.int ((ro 0).2 ((i + 1).toNatClampNeg))), some (.int ((ro 0).2 ((i + 2).toNatClampNeg)))], [], 0, 0, (mSH, I, L))) rfl ?_
  refine t_block hR.1 (fun rJ1 J1 fJ1 cJ1  => ?_)
  show mWP mTb_ mFT ro (11, 168, 490, [some (.ref 1000), some (.ref 0), some (.ref 34), some (.int i)], [.int rJ1], 62, 3336, (mSH, J1, L)) _
  refine mB 6 (s2 := (11, 168, 496, [some (.ref 1000), some (.ref 0), some (.ref 34), some (.int i)], [.int (i + 1), .ref 1000, .ref 34], 62, 3336, (mSH, J1, L))) rfl ?_
  refine mRq (s2 := (11, 168, 497, [some (.ref 1000), some (.ref 0), some (.ref 34), some (.int i)], [.int ((ro 0).2 ((i + 1).toNatClampNeg)), .ref 34], 62, 3336, (mSH, J1, L))) rfl (mVp_of hv1) ?_
  refine mB 4 (s2 := (11, 168, 501, [some (.ref 1000), some (.ref 0), some (.ref 34), some (.int i)], [.int (i + 2), .ref 1000, .int ((ro 0).2 ((i + 1).toNatClampNeg)), .ref 34], 62, 3336, (mSH, J1, L))) rfl ?_
  refine mRq (s2 := (11, 168, 502, [some (.ref 1000), some (.ref 0), some (.ref 34), some (.int i)], [.int ((ro 0).2 ((i + 2).toNatClampNeg)), .int ((ro 0).2 ((i + 1).toNatClampNeg)), .ref 34], 62, 3336, (mSH, J1, L))) rfl (mVp_of hv2) ?_
  refine mCall (s2 := (10, 134, 0, [some (.ref 34), some (.int ((ro 0).2 ((i + 1).toNatClampNeg))), some (.int ((ro 0).2 ((i + 2).toNatClampNeg)))], [], 0, 0, (mSH, J1, L))) rfl ?_
  (obtain ⟨sK2, nK2, tK2, mK2⟩ := hR.2.1.fr fJ1 (by rfl) (by rfl) (by rfl) (by rfl)); refine m_block mK2 (fun rK2 K2 LK2 xK2 yK2 => ?_)
  show mWP mTb_ mFT ro (11, 168, 505, [some (.ref 1000), some (.ref 0), some (.ref 34), some (.int i)], [.int rK2], 62, 3336, (mSH, K2, LK2)) _
  refine mB 2 (s2 := (11, 168, 807, [some (.ref 1000), some (.ref 0), some (.ref 34), some (.int i)], [], 62, 3336, (mSH, K2, LK2))) rfl ?_
  exact hq _ _ (mRel hR fJ1 (by rfl) (by rfl) cJ1 xK2.1 xK2.2.1 yK2 (by rfl) (by rfl) xK2.2.2)
theorem c_many {ro : Nat → Nat × (Nat → Int32)} {Q : mPo} {I : Nat → Nat → Int32} {L : Nat → Nat → Int64} {i : Int32} (hR : mR I) (hJ : mRJ ro) (hB : mRB ro) (hv1 : vp_in (i + 1) (ro 0).1) (hv2 : vp_in (i + 2) (ro 0).1) (hv3 : vp_in (i + 3) (ro 0).1) (hq : ∀ I L, mR I → mWP mTb_ mFT ro (11, 168, 807, [some (.ref 1000), some (.ref 0), some (.ref 34), some (.int i)], [], 62, 3336, (mSH, I, L)) Q)   : mWP mTb_ mFT ro (11, 168, 509, [some (.ref 1000), some (.ref 0), some (.ref 34), some (.int i)], [], 62, 3336, (mSH, I, L)) Q := by
  refine mB 1 (s2 := (11, 168, 510, [some (.ref 1000), some (.ref 0), some (.ref 34), some (.int i)], [.ref 0], 62, 3336, (mSH, I, L))) rfl ?_
  refine mCall (s2 := (10, 87, 0, [some (.ref 0)], [], 0, 0, (mSH, I, L))) rfl ?_
  refine t_many hR.1 (fun rJ1 J1 fJ1 cJ1  => ?_)
  show mWP mTb_ mFT ro (11, 168, 513, [some (.ref 1000), some (.ref 0), some (.ref 34), some (.int i)], [.int rJ1], 62, 3336, (mSH, J1, L)) _
  refine mB 2 (s2 := (11, 168, 515, [some (.ref 1000), some (.ref 0), some (.ref 34), some (.int i)], [.ref 34], 62, 3336, (mSH, J1, L))) rfl ?_
  refine mCall (s2 := (10, 135, 0, [some (.ref 34)], [], 0, 0, (mSH, J1, L))) rfl ?_
  (obtain ⟨sK2, nK2, tK2, mK2⟩ := hR.2.1.fr fJ1 (by rfl) (by rfl) (by rfl) (by rfl)); refine m_many mK2 (fun rK2 K2 LK2 xK2 yK2 => ?_)
  show mWP mTb_ mFT ro (11, 168, 518, [some (.ref 1000), some (.ref 0), some (.ref 34), some (.int i)], [.int rK2], 62, 3336, (mSH, K2, LK2)) _
  refine mB 2 (s2 := (11, 168, 807, [some (.ref 1000), some (.ref 0), some (.ref 34), some (.int i)], [], 62, 3336, (mSH, K2, LK2))) rfl ?_
  exact hq _ _ (mRel hR fJ1 (by rfl) (by rfl) cJ1 xK2.1 xK2.2.1 yK2 (by rfl) (by rfl) xK2.2.2)
theorem c_alike {ro : Nat → Nat × (Nat → Int32)} {Q : mPo} {I : Nat → Nat → Int32} {L : Nat → Nat → Int64} {i : Int32} (hR : mR I) (hJ : mRJ ro) (hB : mRB ro) (hv1 : vp_in (i + 1) (ro 0).1) (hv2 : vp_in (i + 2) (ro 0).1) (hv3 : vp_in (i + 3) (ro 0).1) (hq : ∀ I L, mR I → mWP mTb_ mFT ro (11, 168, 807, [some (.ref 1000), some (.ref 0), some (.ref 34), some (.int i)], [], 62, 3336, (mSH, I, L)) Q)   : mWP mTb_ mFT ro (11, 168, 522, [some (.ref 1000), some (.ref 0), some (.ref 34), some (.int i)], [], 62, 3336, (mSH, I, L)) Q := by
  refine mB 1 (s2 := (11, 168, 523, [some (.ref 1000), some (.ref 0), some (.ref 34), some (.int i)], [.ref 0], 62, 3336, (mSH, I, L))) rfl ?_
  refine mCall (s2 := (10, 88, 0, [some (.ref 0)], [], 0, 0, (mSH, I, L))) rfl ?_
  refine t_alike hR.1 (fun rJ1 J1 fJ1 cJ1  => ?_)
  show mWP mTb_ mFT ro (11, 168, 526, [some (.ref 1000), some (.ref 0), some (.ref 34), some (.int i)], [.int rJ1], 62, 3336, (mSH, J1, L)) _
  refine mB 2 (s2 := (11, 168, 528, [some (.ref 1000), some (.ref 0), some (.ref 34), some (.int i)], [.ref 34], 62, 3336, (mSH, J1, L))) rfl ?_
  refine mCall (s2 := (10, 136, 0, [some (.ref 34)], [], 0, 0, (mSH, J1, L))) rfl ?_
  (obtain ⟨sK2, nK2, tK2, mK2⟩ := hR.2.1.fr fJ1 (by rfl) (by rfl) (by rfl) (by rfl)); refine m_alike mK2 (fun rK2 K2 LK2 xK2 yK2 => ?_)
  show mWP mTb_ mFT ro (11, 168, 531, [some (.ref 1000), some (.ref 0), some (.ref 34), some (.int i)], [.int rK2], 62, 3336, (mSH, K2, LK2)) _
  refine mB 2 (s2 := (11, 168, 807, [some (.ref 1000), some (.ref 0), some (.ref 34), some (.int i)], [], 62, 3336, (mSH, K2, LK2))) rfl ?_
  exact hq _ _ (mRel hR fJ1 (by rfl) (by rfl) cJ1 xK2.1 xK2.2.1 yK2 (by rfl) (by rfl) xK2.2.2)
theorem c_begins {ro : Nat → Nat × (Nat → Int32)} {Q : mPo} {I : Nat → Nat → Int32} {L : Nat → Nat → Int64} {i : Int32} (hR : mR I) (hJ : mRJ ro) (hB : mRB ro) (hv1 : vp_in (i + 1) (ro 0).1) (hv2 : vp_in (i + 2) (ro 0).1) (hv3 : vp_in (i + 3) (ro 0).1) (hq : ∀ I L, mR I → mWP mTb_ mFT ro (11, 168, 807, [some (.ref 1000), some (.ref 0), some (.ref 34), some (.int i)], [], 62, 3336, (mSH, I, L)) Q)   : mWP mTb_ mFT ro (11, 168, 535, [some (.ref 1000), some (.ref 0), some (.ref 34), some (.int i)], [], 62, 3336, (mSH, I, L)) Q := by
  refine mB 1 (s2 := (11, 168, 536, [some (.ref 1000), some (.ref 0), some (.ref 34), some (.int i)], [.ref 0], 62, 3336, (mSH, I, L))) rfl ?_
  refine mCall (s2 := (10, 89, 0, [some (.ref 0), none, none], [], 0, 0, (mSH, I, L))) rfl ?_
  refine t_begins hR.1 (fun rJ1 J1 fJ1 cJ1  => ?_)
  show mWP mTb_ mFT ro (11, 168, 539, [some (.ref 1000), some (.ref 0), some (.ref 34), some (.int i)], [.int rJ1], 62, 3336, (mSH, J1, L)) _
  refine mB 2 (s2 := (11, 168, 541, [some (.ref 1000), some (.ref 0), some (.ref 34), some (.int i)], [.ref 34], 62, 3336, (mSH, J1, L))) rfl ?_
  refine mCall (s2 := (10, 137, 0, [some (.ref 34)], [], 0, 0, (mSH, J1, L))) rfl ?_
  (obtain ⟨sK2, nK2, tK2, mK2⟩ := hR.2.1.fr fJ1 (by rfl) (by rfl) (by rfl) (by rfl)); refine m_begins mK2 (fun rK2 K2 LK2 xK2 yK2 => ?_)
  show mWP mTb_ mFT ro (11, 168, 544, [some (.ref 1000), some (.ref 0), some (.ref 34), some (.int i)], [.int rK2], 62, 3336, (mSH, K2, LK2)) _
  refine mB 2 (s2 := (11, 168, 807, [some (.ref 1000), some (.ref 0), some (.ref 34), some (.int i)], [], 62, 3336, (mSH, K2, LK2))) rfl ?_
  exact hq _ _ (mRel hR fJ1 (by rfl) (by rfl) cJ1 xK2.1 xK2.2.1 yK2 (by rfl) (by rfl) xK2.2.2)
theorem c_from {ro : Nat → Nat × (Nat → Int32)} {Q : mPo} {I : Nat → Nat → Int32} {L : Nat → Nat → Int64} {i : Int32} (hR : mR I) (hJ : mRJ ro) (hB : mRB ro) (hv1 : vp_in (i + 1) (ro 0).1) (hv2 : vp_in (i + 2) (ro 0).1) (hv3 : vp_in (i + 3) (ro 0).1) (hq : ∀ I L, mR I → mWP mTb_ mFT ro (11, 168, 807, [some (.ref 1000), some (.ref 0), some (.ref 34), some (.int i)], [], 62, 3336, (mSH, I, L)) Q)   : mWP mTb_ mFT ro (11, 168, 548, [some (.ref 1000), some (.ref 0), some (.ref 34), some (.int i)], [], 62, 3336, (mSH, I, L)) Q := by
  refine mB 5 (s2 := (11, 168, 553, [some (.ref 1000), some (.ref 0), some (.ref 34), some (.int i)], [.int (i + 1), .ref 1000, .ref 0], 62, 3336, (mSH, I, L))) rfl ?_
  refine mRq (s2 := (11, 168, 554, [some (.ref 1000), some (.ref 0), some (.ref 34), some (.int i)], [.int ((ro 0).2 ((i + 1).toNatClampNeg)), .ref 0], 62, 3336, (mSH, I, L))) rfl (mVp_of hv1) ?_
  refine mCall (s2 := (10, 90, 0, [some (.ref 0), some (.int ((ro 0).2 ((i + 1).toNatClampNeg)))], [], 0, 0, (mSH, I, L))) rfl ?_
  refine t_from hR.1 (fun rJ1 J1 fJ1 cJ1  => ?_)
  show mWP mTb_ mFT ro (11, 168, 557, [some (.ref 1000), some (.ref 0), some (.ref 34), some (.int i)], [.int rJ1], 62, 3336, (mSH, J1, L)) _
  refine mB 6 (s2 := (11, 168, 563, [some (.ref 1000), some (.ref 0), some (.ref 34), some (.int i)], [.int (i + 1), .ref 1000, .ref 34], 62, 3336, (mSH, J1, L))) rfl ?_
  refine mRq (s2 := (11, 168, 564, [some (.ref 1000), some (.ref 0), some (.ref 34), some (.int i)], [.int ((ro 0).2 ((i + 1).toNatClampNeg)), .ref 34], 62, 3336, (mSH, J1, L))) rfl (mVp_of hv1) ?_
  refine mCall (s2 := (10, 138, 0, [some (.ref 34), some (.int ((ro 0).2 ((i + 1).toNatClampNeg)))], [], 0, 0, (mSH, J1, L))) rfl ?_
  (obtain ⟨sK2, nK2, tK2, mK2⟩ := hR.2.1.fr fJ1 (by rfl) (by rfl) (by rfl) (by rfl)); refine m_from mK2 (fun rK2 K2 LK2 xK2 yK2 => ?_)
  show mWP mTb_ mFT ro (11, 168, 567, [some (.ref 1000), some (.ref 0), some (.ref 34), some (.int i)], [.int rK2], 62, 3336, (mSH, K2, LK2)) _
  refine mB 2 (s2 := (11, 168, 807, [some (.ref 1000), some (.ref 0), some (.ref 34), some (.int i)], [], 62, 3336, (mSH, K2, LK2))) rfl ?_
  exact hq _ _ (mRel hR fJ1 (by rfl) (by rfl) cJ1 xK2.1 xK2.2.1 yK2 (by rfl) (by rfl) xK2.2.2)
theorem c_mildest {ro : Nat → Nat × (Nat → Int32)} {Q : mPo} {I : Nat → Nat → Int32} {L : Nat → Nat → Int64} {i : Int32} (hR : mR I) (hJ : mRJ ro) (hB : mRB ro) (hv1 : vp_in (i + 1) (ro 0).1) (hv2 : vp_in (i + 2) (ro 0).1) (hv3 : vp_in (i + 3) (ro 0).1) (hq : ∀ I L, mR I → mWP mTb_ mFT ro (11, 168, 807, [some (.ref 1000), some (.ref 0), some (.ref 34), some (.int i)], [], 62, 3336, (mSH, I, L)) Q)   : mWP mTb_ mFT ro (11, 168, 571, [some (.ref 1000), some (.ref 0), some (.ref 34), some (.int i)], [], 62, 3336, (mSH, I, L)) Q := by
  refine mB 5 (s2 := (11, 168, 576, [some (.ref 1000), some (.ref 0), some (.ref 34), some (.int i)], [.int (i + 1), .ref 1000, .ref 0], 62, 3336, (mSH, I, L))) rfl ?_
  refine mRq (s2 := (11, 168, 577, [some (.ref 1000), some (.ref 0), some (.ref 34), some (.int i)], [.int ((ro 0).2 ((i + 1).toNatClampNeg)), .ref 0], 62, 3336, (mSH, I, L))) rfl (mVp_of hv1) ?_
  refine mCall (s2 := (10, 91, 0, [some (.ref 0), some (.int ((ro 0).2 ((i + 1).toNatClampNeg))), none, none, none, none], [], 0, 0, (mSH, I, L))) rfl ?_
  refine t_mildest hR.1 (fun rJ1 J1 fJ1 cJ1  => ?_)
  show mWP mTb_ mFT ro (11, 168, 580, [some (.ref 1000), some (.ref 0), some (.ref 34), some (.int i)], [.int rJ1], 62, 3336, (mSH, J1, L)) _
  refine mB 6 (s2 := (11, 168, 586, [some (.ref 1000), some (.ref 0), some (.ref 34), some (.int i)], [.int (i + 1), .ref 1000, .ref 34], 62, 3336, (mSH, J1, L))) rfl ?_
  refine mRq (s2 := (11, 168, 587, [some (.ref 1000), some (.ref 0), some (.ref 34), some (.int i)], [.int ((ro 0).2 ((i + 1).toNatClampNeg)), .ref 34], 62, 3336, (mSH, J1, L))) rfl (mVp_of hv1) ?_
  refine mCall (s2 := (10, 139, 0, [some (.ref 34), some (.int ((ro 0).2 ((i + 1).toNatClampNeg))), none, none, none], [], 0, 0, (mSH, J1, L))) rfl ?_
  (obtain ⟨sK2, nK2, tK2, mK2⟩ := hR.2.1.fr fJ1 (by rfl) (by rfl) (by rfl) (by rfl)); refine m_mildest mK2 (fun rK2 K2 LK2 xK2 yK2 => ?_)
  show mWP mTb_ mFT ro (11, 168, 590, [some (.ref 1000), some (.ref 0), some (.ref 34), some (.int i)], [.int rK2], 62, 3336, (mSH, K2, LK2)) _
  refine mB 2 (s2 := (11, 168, 807, [some (.ref 1000), some (.ref 0), some (.ref 34), some (.int i)], [], 62, 3336, (mSH, K2, LK2))) rfl ?_
  exact hq _ _ (mRel hR fJ1 (by rfl) (by rfl) cJ1 xK2.1 xK2.2.1 yK2 (by rfl) (by rfl) xK2.2.2)
theorem c_unbound {ro : Nat → Nat × (Nat → Int32)} {Q : mPo} {I : Nat → Nat → Int32} {L : Nat → Nat → Int64} {i : Int32} (hR : mR I) (hJ : mRJ ro) (hB : mRB ro) (hv1 : vp_in (i + 1) (ro 0).1) (hv2 : vp_in (i + 2) (ro 0).1) (hv3 : vp_in (i + 3) (ro 0).1) (hq : ∀ I L, mR I → mWP mTb_ mFT ro (11, 168, 807, [some (.ref 1000), some (.ref 0), some (.ref 34), some (.int i)], [], 62, 3336, (mSH, I, L)) Q)   : mWP mTb_ mFT ro (11, 168, 594, [some (.ref 1000), some (.ref 0), some (.ref 34), some (.int i)], [], 62, 3336, (mSH, I, L)) Q := by
  refine mB 1 (s2 := (11, 168, 595, [some (.ref 1000), some (.ref 0), some (.ref 34), some (.int i)], [.ref 0], 62, 3336, (mSH, I, L))) rfl ?_
  refine mCall (s2 := (10, 92, 0, [some (.ref 0)], [], 0, 0, (mSH, I, L))) rfl ?_
  refine t_unbound hR.1 (fun rJ1 J1 fJ1 cJ1  => ?_)
  show mWP mTb_ mFT ro (11, 168, 598, [some (.ref 1000), some (.ref 0), some (.ref 34), some (.int i)], [.int rJ1], 62, 3336, (mSH, J1, L)) _
  refine mB 2 (s2 := (11, 168, 600, [some (.ref 1000), some (.ref 0), some (.ref 34), some (.int i)], [.ref 34], 62, 3336, (mSH, J1, L))) rfl ?_
  refine mCall (s2 := (10, 140, 0, [some (.ref 34)], [], 0, 0, (mSH, J1, L))) rfl ?_
  (obtain ⟨sK2, nK2, tK2, mK2⟩ := hR.2.1.fr fJ1 (by rfl) (by rfl) (by rfl) (by rfl)); refine m_unbound mK2 (fun rK2 K2 LK2 xK2 yK2 => ?_)
  show mWP mTb_ mFT ro (11, 168, 603, [some (.ref 1000), some (.ref 0), some (.ref 34), some (.int i)], [.int rK2], 62, 3336, (mSH, K2, LK2)) _
  refine mB 2 (s2 := (11, 168, 807, [some (.ref 1000), some (.ref 0), some (.ref 34), some (.int i)], [], 62, 3336, (mSH, K2, LK2))) rfl ?_
  exact hq _ _ (mRel hR fJ1 (by rfl) (by rfl) cJ1 xK2.1 xK2.2.1 yK2 (by rfl) (by rfl) xK2.2.2)
theorem c_age {ro : Nat → Nat × (Nat → Int32)} {Q : mPo} {I : Nat → Nat → Int32} {L : Nat → Nat → Int64} {i : Int32} (hR : mR I) (hJ : mRJ ro) (hB : mRB ro) (hv1 : vp_in (i + 1) (ro 0).1) (hv2 : vp_in (i + 2) (ro 0).1) (hv3 : vp_in (i + 3) (ro 0).1) (hq : ∀ I L, mR I → mWP mTb_ mFT ro (11, 168, 807, [some (.ref 1000), some (.ref 0), some (.ref 34), some (.int i)], [], 62, 3336, (mSH, I, L)) Q)   : mWP mTb_ mFT ro (11, 168, 607, [some (.ref 1000), some (.ref 0), some (.ref 34), some (.int i)], [], 62, 3336, (mSH, I, L)) Q := by
  refine mB 5 (s2 := (11, 168, 612, [some (.ref 1000), some (.ref 0), some (.ref 34), some (.int i)], [.int (i + 1), .ref 1000, .ref 0], 62, 3336, (mSH, I, L))) rfl ?_
  refine mRq (s2 := (11, 168, 613, [some (.ref 1000), some (.ref 0), some (.ref 34), some (.int i)], [.int ((ro 0).2 ((i + 1).toNatClampNeg)), .ref 0], 62, 3336, (mSH, I, L))) rfl (mVp_of hv1) ?_
  refine mCall (s2 := (10, 93, 0, [some (.ref 0), some (.int ((ro 0).2 ((i + 1).toNatClampNeg)))], [], 0, 0, (mSH, I, L))) rfl ?_
  refine t_age hR.1 (fun rJ1 J1 fJ1 cJ1  => ?_)
  show mWP mTb_ mFT ro (11, 168, 616, [some (.ref 1000), some (.ref 0), some (.ref 34), some (.int i)], [.int rJ1], 62, 3336, (mSH, J1, L)) _
  refine mB 6 (s2 := (11, 168, 622, [some (.ref 1000), some (.ref 0), some (.ref 34), some (.int i)], [.int (i + 1), .ref 1000, .ref 34], 62, 3336, (mSH, J1, L))) rfl ?_
  refine mRq (s2 := (11, 168, 623, [some (.ref 1000), some (.ref 0), some (.ref 34), some (.int i)], [.int ((ro 0).2 ((i + 1).toNatClampNeg)), .ref 34], 62, 3336, (mSH, J1, L))) rfl (mVp_of hv1) ?_
  refine mCall (s2 := (10, 143, 0, [some (.ref 34), some (.int ((ro 0).2 ((i + 1).toNatClampNeg))), none, none, none, none, none], [], 0, 0, (mSH, J1, L))) rfl ?_
  (obtain ⟨sK2, nK2, tK2, mK2⟩ := hR.2.1.fr fJ1 (by rfl) (by rfl) (by rfl) (by rfl)); refine m_age mK2 (fun rK2 K2 LK2 xK2 yK2 => ?_)
  show mWP mTb_ mFT ro (11, 168, 626, [some (.ref 1000), some (.ref 0), some (.ref 34), some (.int i)], [.int rK2], 62, 3336, (mSH, K2, LK2)) _
  refine mB 2 (s2 := (11, 168, 807, [some (.ref 1000), some (.ref 0), some (.ref 34), some (.int i)], [], 62, 3336, (mSH, K2, LK2))) rfl ?_
  exact hq _ _ (mRel hR fJ1 (by rfl) (by rfl) cJ1 xK2.1 xK2.2.1 yK2 (by rfl) (by rfl) xK2.2.2)
theorem c_depth {ro : Nat → Nat × (Nat → Int32)} {Q : mPo} {I : Nat → Nat → Int32} {L : Nat → Nat → Int64} {i : Int32} (hR : mR I) (hJ : mRJ ro) (hB : mRB ro) (hv1 : vp_in (i + 1) (ro 0).1) (hv2 : vp_in (i + 2) (ro 0).1) (hv3 : vp_in (i + 3) (ro 0).1) (hq : ∀ I L, mR I → mWP mTb_ mFT ro (11, 168, 807, [some (.ref 1000), some (.ref 0), some (.ref 34), some (.int i)], [], 62, 3336, (mSH, I, L)) Q)   : mWP mTb_ mFT ro (11, 168, 630, [some (.ref 1000), some (.ref 0), some (.ref 34), some (.int i)], [], 62, 3336, (mSH, I, L)) Q := by
  refine mB 5 (s2 := (11, 168, 635, [some (.ref 1000), some (.ref 0), some (.ref 34), some (.int i)], [.int (i + 1), .ref 1000, .ref 0], 62, 3336, (mSH, I, L))) rfl ?_
  refine mRq (s2 := (11, 168, 636, [some (.ref 1000), some (.ref 0), some (.ref 34), some (.int i)], [.int ((ro 0).2 ((i + 1).toNatClampNeg)), .ref 0], 62, 3336, (mSH, I, L))) rfl (mVp_of hv1) ?_
  refine mCall (s2 := (10, 94, 0, [some (.ref 0), some (.int ((ro 0).2 ((i + 1).toNatClampNeg)))], [], 0, 0, (mSH, I, L))) rfl ?_
  refine t_depth hR.1 (fun rJ1 J1 fJ1 cJ1  => ?_)
  show mWP mTb_ mFT ro (11, 168, 639, [some (.ref 1000), some (.ref 0), some (.ref 34), some (.int i)], [.int rJ1], 62, 3336, (mSH, J1, L)) _
  refine mB 6 (s2 := (11, 168, 645, [some (.ref 1000), some (.ref 0), some (.ref 34), some (.int i)], [.int (i + 1), .ref 1000, .ref 34], 62, 3336, (mSH, J1, L))) rfl ?_
  refine mRq (s2 := (11, 168, 646, [some (.ref 1000), some (.ref 0), some (.ref 34), some (.int i)], [.int ((ro 0).2 ((i + 1).toNatClampNeg)), .ref 34], 62, 3336, (mSH, J1, L))) rfl (mVp_of hv1) ?_
  refine mCall (s2 := (10, 144, 0, [some (.ref 34), some (.int ((ro 0).2 ((i + 1).toNatClampNeg))), none, none, none, none, none], [], 0, 0, (mSH, J1, L))) rfl ?_
  (obtain ⟨sK2, nK2, tK2, mK2⟩ := hR.2.1.fr fJ1 (by rfl) (by rfl) (by rfl) (by rfl)); refine m_depth mK2 (fun rK2 K2 LK2 xK2 yK2 => ?_)
  show mWP mTb_ mFT ro (11, 168, 649, [some (.ref 1000), some (.ref 0), some (.ref 34), some (.int i)], [.int rK2], 62, 3336, (mSH, K2, LK2)) _
  refine mB 2 (s2 := (11, 168, 807, [some (.ref 1000), some (.ref 0), some (.ref 34), some (.int i)], [], 62, 3336, (mSH, K2, LK2))) rfl ?_
  exact hq _ _ (mRel hR fJ1 (by rfl) (by rfl) cJ1 xK2.1 xK2.2.1 yK2 (by rfl) (by rfl) xK2.2.2)
theorem c_rate {ro : Nat → Nat × (Nat → Int32)} {Q : mPo} {I : Nat → Nat → Int32} {L : Nat → Nat → Int64} {i : Int32} (hR : mR I) (hJ : mRJ ro) (hB : mRB ro) (hv1 : vp_in (i + 1) (ro 0).1) (hv2 : vp_in (i + 2) (ro 0).1) (hv3 : vp_in (i + 3) (ro 0).1) (hq : ∀ I L, mR I → mWP mTb_ mFT ro (11, 168, 807, [some (.ref 1000), some (.ref 0), some (.ref 34), some (.int i)], [], 62, 3336, (mSH, I, L)) Q)   : mWP mTb_ mFT ro (11, 168, 653, [some (.ref 1000), some (.ref 0), some (.ref 34), some (.int i)], [], 62, 3336, (mSH, I, L)) Q := by
  refine mB 5 (s2 := (11, 168, 658, [some (.ref 1000), some (.ref 0), some (.ref 34), some (.int i)], [.int (i + 1), .ref 1000, .ref 0], 62, 3336, (mSH, I, L))) rfl ?_
  refine mRq (s2 := (11, 168, 659, [some (.ref 1000), some (.ref 0), some (.ref 34), some (.int i)], [.int ((ro 0).2 ((i + 1).toNatClampNeg)), .ref 0], 62, 3336, (mSH, I, L))) rfl (mVp_of hv1) ?_
  refine mCall (s2 := (10, 95, 0, [some (.ref 0), some (.int ((ro 0).2 ((i + 1).toNatClampNeg)))], [], 0, 0, (mSH, I, L))) rfl ?_
  refine t_rate hR.1 (fun rJ1 J1 fJ1 cJ1  => ?_)
  show mWP mTb_ mFT ro (11, 168, 662, [some (.ref 1000), some (.ref 0), some (.ref 34), some (.int i)], [.int rJ1], 62, 3336, (mSH, J1, L)) _
  refine mB 6 (s2 := (11, 168, 668, [some (.ref 1000), some (.ref 0), some (.ref 34), some (.int i)], [.int (i + 1), .ref 1000, .ref 34], 62, 3336, (mSH, J1, L))) rfl ?_
  refine mRq (s2 := (11, 168, 669, [some (.ref 1000), some (.ref 0), some (.ref 34), some (.int i)], [.int ((ro 0).2 ((i + 1).toNatClampNeg)), .ref 34], 62, 3336, (mSH, J1, L))) rfl (mVp_of hv1) ?_
  refine mCall (s2 := (10, 146, 0, [some (.ref 34), some (.int ((ro 0).2 ((i + 1).toNatClampNeg)))], [], 0, 0, (mSH, J1, L))) rfl ?_
  (obtain ⟨sK2, nK2, tK2, mK2⟩ := hR.2.1.fr fJ1 (by rfl) (by rfl) (by rfl) (by rfl)); refine m_rate mK2 (fun rK2 K2 LK2 xK2 yK2 => ?_)
  show mWP mTb_ mFT ro (11, 168, 672, [some (.ref 1000), some (.ref 0), some (.ref 34), some (.int i)], [.int rK2], 62, 3336, (mSH, K2, LK2)) _
  refine mB 2 (s2 := (11, 168, 807, [some (.ref 1000), some (.ref 0), some (.ref 34), some (.int i)], [], 62, 3336, (mSH, K2, LK2))) rfl ?_
  exact hq _ _ (mRel hR fJ1 (by rfl) (by rfl) cJ1 xK2.1 xK2.2.1 yK2 (by rfl) (by rfl) xK2.2.2)
theorem c_fastest {ro : Nat → Nat × (Nat → Int32)} {Q : mPo} {I : Nat → Nat → Int32} {L : Nat → Nat → Int64} {i : Int32} (hR : mR I) (hJ : mRJ ro) (hB : mRB ro) (hv1 : vp_in (i + 1) (ro 0).1) (hv2 : vp_in (i + 2) (ro 0).1) (hv3 : vp_in (i + 3) (ro 0).1) (hq : ∀ I L, mR I → mWP mTb_ mFT ro (11, 168, 807, [some (.ref 1000), some (.ref 0), some (.ref 34), some (.int i)], [], 62, 3336, (mSH, I, L)) Q)   : mWP mTb_ mFT ro (11, 168, 676, [some (.ref 1000), some (.ref 0), some (.ref 34), some (.int i)], [], 62, 3336, (mSH, I, L)) Q := by
  refine mB 5 (s2 := (11, 168, 681, [some (.ref 1000), some (.ref 0), some (.ref 34), some (.int i)], [.int (i + 1), .ref 1000, .ref 0], 62, 3336, (mSH, I, L))) rfl ?_
  refine mRq (s2 := (11, 168, 682, [some (.ref 1000), some (.ref 0), some (.ref 34), some (.int i)], [.int ((ro 0).2 ((i + 1).toNatClampNeg)), .ref 0], 62, 3336, (mSH, I, L))) rfl (mVp_of hv1) ?_
  refine mCall (s2 := (10, 96, 0, [some (.ref 0), some (.int ((ro 0).2 ((i + 1).toNatClampNeg)))], [], 0, 0, (mSH, I, L))) rfl ?_
  refine t_fastest hR.1 (fun rJ1 J1 fJ1 cJ1  => ?_)
  show mWP mTb_ mFT ro (11, 168, 685, [some (.ref 1000), some (.ref 0), some (.ref 34), some (.int i)], [.int rJ1], 62, 3336, (mSH, J1, L)) _
  refine mB 6 (s2 := (11, 168, 691, [some (.ref 1000), some (.ref 0), some (.ref 34), some (.int i)], [.int (i + 1), .ref 1000, .ref 34], 62, 3336, (mSH, J1, L))) rfl ?_
  refine mRq (s2 := (11, 168, 692, [some (.ref 1000), some (.ref 0), some (.ref 34), some (.int i)], [.int ((ro 0).2 ((i + 1).toNatClampNeg)), .ref 34], 62, 3336, (mSH, J1, L))) rfl (mVp_of hv1) ?_
  refine mCall (s2 := (10, 147, 0, [some (.ref 34), some (.int ((ro 0).2 ((i + 1).toNatClampNeg))), none, none, none], [], 0, 0, (mSH, J1, L))) rfl ?_
  (obtain ⟨sK2, nK2, tK2, mK2⟩ := hR.2.1.fr fJ1 (by rfl) (by rfl) (by rfl) (by rfl)); refine m_fastest mK2 (fun rK2 K2 LK2 xK2 yK2 => ?_)
  show mWP mTb_ mFT ro (11, 168, 695, [some (.ref 1000), some (.ref 0), some (.ref 34), some (.int i)], [.int rK2], 62, 3336, (mSH, K2, LK2)) _
  refine mB 2 (s2 := (11, 168, 807, [some (.ref 1000), some (.ref 0), some (.ref 34), some (.int i)], [], 62, 3336, (mSH, K2, LK2))) rfl ?_
  exact hq _ _ (mRel hR fJ1 (by rfl) (by rfl) cJ1 xK2.1 xK2.2.1 yK2 (by rfl) (by rfl) xK2.2.2)
theorem c_part {ro : Nat → Nat × (Nat → Int32)} {Q : mPo} {I : Nat → Nat → Int32} {L : Nat → Nat → Int64} {i : Int32} (hR : mR I) (hJ : mRJ ro) (hB : mRB ro) (hv1 : vp_in (i + 1) (ro 0).1) (hv2 : vp_in (i + 2) (ro 0).1) (hv3 : vp_in (i + 3) (ro 0).1) (hq : ∀ I L, mR I → mWP mTb_ mFT ro (11, 168, 807, [some (.ref 1000), some (.ref 0), some (.ref 34), some (.int i)], [], 62, 3336, (mSH, I, L)) Q)   : mWP mTb_ mFT ro (11, 168, 699, [some (.ref 1000), some (.ref 0), some (.ref 34), some (.int i)], [], 62, 3336, (mSH, I, L)) Q := by
  refine mB 5 (s2 := (11, 168, 704, [some (.ref 1000), some (.ref 0), some (.ref 34), some (.int i)], [.int (i + 1), .ref 1000, .ref 0], 62, 3336, (mSH, I, L))) rfl ?_
  refine mRq (s2 := (11, 168, 705, [some (.ref 1000), some (.ref 0), some (.ref 34), some (.int i)], [.int ((ro 0).2 ((i + 1).toNatClampNeg)), .ref 0], 62, 3336, (mSH, I, L))) rfl (mVp_of hv1) ?_
  refine mCall (s2 := (10, 97, 0, [some (.ref 0), some (.int ((ro 0).2 ((i + 1).toNatClampNeg)))], [], 0, 0, (mSH, I, L))) rfl ?_
  refine t_part hR.1 (fun rJ1 J1 fJ1 cJ1  => ?_)
  show mWP mTb_ mFT ro (11, 168, 708, [some (.ref 1000), some (.ref 0), some (.ref 34), some (.int i)], [.int rJ1], 62, 3336, (mSH, J1, L)) _
  refine mB 6 (s2 := (11, 168, 714, [some (.ref 1000), some (.ref 0), some (.ref 34), some (.int i)], [.int (i + 1), .ref 1000, .ref 34], 62, 3336, (mSH, J1, L))) rfl ?_
  refine mRq (s2 := (11, 168, 715, [some (.ref 1000), some (.ref 0), some (.ref 34), some (.int i)], [.int ((ro 0).2 ((i + 1).toNatClampNeg)), .ref 34], 62, 3336, (mSH, J1, L))) rfl (mVp_of hv1) ?_
  refine mCall (s2 := (10, 148, 0, [some (.ref 34), some (.int ((ro 0).2 ((i + 1).toNatClampNeg)))], [], 0, 0, (mSH, J1, L))) rfl ?_
  (obtain ⟨sK2, nK2, tK2, mK2⟩ := hR.2.1.fr fJ1 (by rfl) (by rfl) (by rfl) (by rfl)); refine m_part mK2 (fun rK2 K2 LK2 xK2 yK2 => ?_)
  show mWP mTb_ mFT ro (11, 168, 718, [some (.ref 1000), some (.ref 0), some (.ref 34), some (.int i)], [.int rK2], 62, 3336, (mSH, K2, LK2)) _
  refine mB 2 (s2 := (11, 168, 807, [some (.ref 1000), some (.ref 0), some (.ref 34), some (.int i)], [], 62, 3336, (mSH, K2, LK2))) rfl ?_
  exact hq _ _ (mRel hR fJ1 (by rfl) (by rfl) cJ1 xK2.1 xK2.2.1 yK2 (by rfl) (by rfl) xK2.2.2)
theorem c_type {ro : Nat → Nat × (Nat → Int32)} {Q : mPo} {I : Nat → Nat → Int32} {L : Nat → Nat → Int64} {i : Int32} (hR : mR I) (hJ : mRJ ro) (hB : mRB ro) (hv1 : vp_in (i + 1) (ro 0).1) (hv2 : vp_in (i + 2) (ro 0).1) (hv3 : vp_in (i + 3) (ro 0).1) (hq : ∀ I L, mR I → mWP mTb_ mFT ro (11, 168, 807, [some (.ref 1000), some (.ref 0), some (.ref 34), some (.int i)], [], 62, 3336, (mSH, I, L)) Q)   : mWP mTb_ mFT ro (11, 168, 722, [some (.ref 1000), some (.ref 0), some (.ref 34), some (.int i)], [], 62, 3336, (mSH, I, L)) Q := by
  refine mB 5 (s2 := (11, 168, 727, [some (.ref 1000), some (.ref 0), some (.ref 34), some (.int i)], [.int (i + 1), .ref 1000, .ref 0], 62, 3336, (mSH, I, L))) rfl ?_
  refine mRq (s2 := (11, 168, 728, [some (.ref 1000), some (.ref 0), some (.ref 34), some (.int i)], [.int ((ro 0).2 ((i + 1).toNatClampNeg)), .ref 0], 62, 3336, (mSH, I, L))) rfl (mVp_of hv1) ?_
  refine mCall (s2 := (10, 98, 0, [some (.ref 0), some (.int ((ro 0).2 ((i + 1).toNatClampNeg)))], [], 0, 0, (mSH, I, L))) rfl ?_
  refine t_type hR.1 (fun rJ1 J1 fJ1 cJ1 e0J1 e1J1 => ?_)
  show mWP mTb_ mFT ro (11, 168, 731, [some (.ref 1000), some (.ref 0), some (.ref 34), some (.int i)], [.int rJ1], 62, 3336, (mSH, J1, L)) _
  refine mB 6 (s2 := (11, 168, 737, [some (.ref 1000), some (.ref 0), some (.ref 34), some (.int i)], [.int (i + 1), .ref 1000, .ref 34], 62, 3336, (mSH, J1, L))) rfl ?_
  refine mRq (s2 := (11, 168, 738, [some (.ref 1000), some (.ref 0), some (.ref 34), some (.int i)], [.int ((ro 0).2 ((i + 1).toNatClampNeg)), .ref 34], 62, 3336, (mSH, J1, L))) rfl (mVp_of hv1) ?_
  refine mCall (s2 := (10, 149, 0, [some (.ref 34), some (.int ((ro 0).2 ((i + 1).toNatClampNeg)))], [], 0, 0, (mSH, J1, L))) rfl ?_
  (obtain ⟨sK2, nK2, tK2, mK2⟩ := hR.2.1.fr fJ1 (by rfl) (by rfl) (by rfl) (by rfl)); refine m_type mK2 (fun rK2 K2 LK2 xK2 yK2 e0K2 e1K2 zK2 => ?_)
  show mWP mTb_ mFT ro (11, 168, 741, [some (.ref 1000), some (.ref 0), some (.ref 34), some (.int i)], [.int rK2], 62, 3336, (mSH, K2, LK2)) _
  refine mB 2 (s2 := (11, 168, 807, [some (.ref 1000), some (.ref 0), some (.ref 34), some (.int i)], [], 62, 3336, (mSH, K2, LK2))) rfl ?_
  exact hq _ _ (⟨cJ1.fr xK2, yK2, by rw [xK2 26 rfl, e1J1, e1K2, fJ1 34 rfl, hR.2.2.1], by rw [xK2 9 rfl, zK2, fJ1 9 rfl, fJ1 38 rfl]; exact hR.2.2.2⟩)
theorem c_clear {ro : Nat → Nat × (Nat → Int32)} {Q : mPo} {I : Nat → Nat → Int32} {L : Nat → Nat → Int64} {i : Int32} (hR : mR I) (hJ : mRJ ro) (hB : mRB ro) (hv1 : vp_in (i + 1) (ro 0).1) (hv2 : vp_in (i + 2) (ro 0).1) (hv3 : vp_in (i + 3) (ro 0).1) (hq : ∀ I L, mR I → mWP mTb_ mFT ro (11, 168, 807, [some (.ref 1000), some (.ref 0), some (.ref 34), some (.int i)], [], 62, 3336, (mSH, I, L)) Q)   : mWP mTb_ mFT ro (11, 168, 745, [some (.ref 1000), some (.ref 0), some (.ref 34), some (.int i)], [], 62, 3336, (mSH, I, L)) Q := by
  refine mB 1 (s2 := (11, 168, 746, [some (.ref 1000), some (.ref 0), some (.ref 34), some (.int i)], [.ref 0], 62, 3336, (mSH, I, L))) rfl ?_
  refine mCall (s2 := (10, 99, 0, [some (.ref 0)], [], 0, 0, (mSH, I, L))) rfl ?_
  refine t_clear hR.1 (fun rJ1 J1 fJ1 cJ1 e0J1 e1J1 => ?_)
  show mWP mTb_ mFT ro (11, 168, 749, [some (.ref 1000), some (.ref 0), some (.ref 34), some (.int i)], [.int rJ1], 62, 3336, (mSH, J1, L)) _
  refine mB 2 (s2 := (11, 168, 751, [some (.ref 1000), some (.ref 0), some (.ref 34), some (.int i)], [.ref 34], 62, 3336, (mSH, J1, L))) rfl ?_
  refine mCall (s2 := (10, 150, 0, [some (.ref 34), none], [], 0, 0, (mSH, J1, L))) rfl ?_
  (obtain ⟨sK2, nK2, tK2, mK2⟩ := hR.2.1.fr fJ1 (by rfl) (by rfl) (by rfl) (by rfl)); refine m_clear mK2 (fun rK2 K2 LK2 xK2 yK2 e0K2 e1K2 zK2 => ?_)
  show mWP mTb_ mFT ro (11, 168, 754, [some (.ref 1000), some (.ref 0), some (.ref 34), some (.int i)], [.int rK2], 62, 3336, (mSH, K2, LK2)) _
  refine mB 2 (s2 := (11, 168, 807, [some (.ref 1000), some (.ref 0), some (.ref 34), some (.int i)], [], 62, 3336, (mSH, K2, LK2))) rfl ?_
  exact hq _ _ (⟨cJ1.fr xK2, yK2, by rw [xK2 26 rfl, e1J1, e1K2], by rw [xK2 9 rfl, zK2, fJ1 9 rfl, fJ1 38 rfl]; exact hR.2.2.2⟩)
theorem c_reads {ro : Nat → Nat × (Nat → Int32)} {Q : mPo} {I : Nat → Nat → Int32} {L : Nat → Nat → Int64} {i : Int32} (hR : mR I) (hJ : mRJ ro) (hB : mRB ro) (hv1 : vp_in (i + 1) (ro 0).1) (hv2 : vp_in (i + 2) (ro 0).1) (hv3 : vp_in (i + 3) (ro 0).1) (hq : ∀ I L, mR I → mWP mTb_ mFT ro (11, 168, 807, [some (.ref 1000), some (.ref 0), some (.ref 34), some (.int i)], [], 62, 3336, (mSH, I, L)) Q)   : mWP mTb_ mFT ro (11, 168, 758, [some (.ref 1000), some (.ref 0), some (.ref 34), some (.int i)], [], 62, 3336, (mSH, I, L)) Q := by
  refine mB 1 (s2 := (11, 168, 759, [some (.ref 1000), some (.ref 0), some (.ref 34), some (.int i)], [.ref 0], 62, 3336, (mSH, I, L))) rfl ?_
  refine mCall (s2 := (10, 100, 0, [some (.ref 0)], [], 0, 0, (mSH, I, L))) rfl ?_
  refine t_reads hR.1 hB (fun rJ1 J1 fJ1 cJ1  => ?_)
  show mWP mTb_ mFT ro (11, 168, 762, [some (.ref 1000), some (.ref 0), some (.ref 34), some (.int i)], [.int rJ1], 62, 3336, (mSH, J1, L)) _
  refine mB 2 (s2 := (11, 168, 764, [some (.ref 1000), some (.ref 0), some (.ref 34), some (.int i)], [.ref 34], 62, 3336, (mSH, J1, L))) rfl ?_
  refine mCall (s2 := (10, 156, 0, [some (.ref 34), none, none, none, none], [], 0, 0, (mSH, J1, L))) rfl ?_
  (obtain ⟨sK2, nK2, tK2, mK2⟩ := hR.2.1.fr fJ1 (by rfl) (by rfl) (by rfl) (by rfl)); refine m_reads mK2 (fun rK2 K2 LK2 xK2 yK2 => ?_)
  show mWP mTb_ mFT ro (11, 168, 767, [some (.ref 1000), some (.ref 0), some (.ref 34), some (.int i)], [.int rK2], 62, 3336, (mSH, K2, LK2)) _
  refine mB 2 (s2 := (11, 168, 807, [some (.ref 1000), some (.ref 0), some (.ref 34), some (.int i)], [], 62, 3336, (mSH, K2, LK2))) rfl ?_
  exact hq _ _ (mRel hR fJ1 (by rfl) (by rfl) cJ1 xK2.1 xK2.2.1 yK2 (by rfl) (by rfl) xK2.2.2)
theorem c_told {ro : Nat → Nat × (Nat → Int32)} {Q : mPo} {I : Nat → Nat → Int32} {L : Nat → Nat → Int64} {i : Int32} (hR : mR I) (hJ : mRJ ro) (hB : mRB ro) (hv1 : vp_in (i + 1) (ro 0).1) (hv2 : vp_in (i + 2) (ro 0).1) (hv3 : vp_in (i + 3) (ro 0).1) (hq : ∀ I L, mR I → mWP mTb_ mFT ro (11, 168, 807, [some (.ref 1000), some (.ref 0), some (.ref 34), some (.int i)], [], 62, 3336, (mSH, I, L)) Q)   : mWP mTb_ mFT ro (11, 168, 771, [some (.ref 1000), some (.ref 0), some (.ref 34), some (.int i)], [], 62, 3336, (mSH, I, L)) Q := by
  refine mB 5 (s2 := (11, 168, 776, [some (.ref 1000), some (.ref 0), some (.ref 34), some (.int i)], [.int (i + 1), .ref 1000, .ref 0], 62, 3336, (mSH, I, L))) rfl ?_
  refine mRq (s2 := (11, 168, 777, [some (.ref 1000), some (.ref 0), some (.ref 34), some (.int i)], [.int ((ro 0).2 ((i + 1).toNatClampNeg)), .ref 0], 62, 3336, (mSH, I, L))) rfl (mVp_of hv1) ?_
  refine mCall (s2 := (10, 101, 0, [some (.ref 0), some (.int ((ro 0).2 ((i + 1).toNatClampNeg)))], [], 0, 0, (mSH, I, L))) rfl ?_
  refine t_told hR.1 (fun rJ1 J1 fJ1 cJ1  => ?_)
  show mWP mTb_ mFT ro (11, 168, 780, [some (.ref 1000), some (.ref 0), some (.ref 34), some (.int i)], [.int rJ1], 62, 3336, (mSH, J1, L)) _
  refine mB 6 (s2 := (11, 168, 786, [some (.ref 1000), some (.ref 0), some (.ref 34), some (.int i)], [.int (i + 1), .ref 1000, .ref 34], 62, 3336, (mSH, J1, L))) rfl ?_
  refine mRq (s2 := (11, 168, 787, [some (.ref 1000), some (.ref 0), some (.ref 34), some (.int i)], [.int ((ro 0).2 ((i + 1).toNatClampNeg)), .ref 34], 62, 3336, (mSH, J1, L))) rfl (mVp_of hv1) ?_
  refine mCall (s2 := (10, 158, 0, [some (.ref 34), some (.int ((ro 0).2 ((i + 1).toNatClampNeg)))], [], 0, 0, (mSH, J1, L))) rfl ?_
  (obtain ⟨sK2, nK2, tK2, mK2⟩ := hR.2.1.fr fJ1 (by rfl) (by rfl) (by rfl) (by rfl)); refine m_told mK2 (fun rK2 K2 LK2 xK2 yK2 => ?_)
  show mWP mTb_ mFT ro (11, 168, 790, [some (.ref 1000), some (.ref 0), some (.ref 34), some (.int i)], [.int rK2], 62, 3336, (mSH, K2, LK2)) _
  refine mB 2 (s2 := (11, 168, 807, [some (.ref 1000), some (.ref 0), some (.ref 34), some (.int i)], [], 62, 3336, (mSH, K2, LK2))) rfl ?_
  exact hq _ _ (mRel hR fJ1 (by rfl) (by rfl) cJ1 xK2.1 xK2.2.1 yK2 (by rfl) (by rfl) xK2.2.2)
theorem c_digest {ro : Nat → Nat × (Nat → Int32)} {Q : mPo} {I : Nat → Nat → Int32} {L : Nat → Nat → Int64} {i : Int32} (hR : mR I) (hJ : mRJ ro) (hB : mRB ro) (hv1 : vp_in (i + 1) (ro 0).1) (hv2 : vp_in (i + 2) (ro 0).1) (hv3 : vp_in (i + 3) (ro 0).1) (hq : ∀ I L, mR I → mWP mTb_ mFT ro (11, 168, 807, [some (.ref 1000), some (.ref 0), some (.ref 34), some (.int i)], [], 62, 3336, (mSH, I, L)) Q)   : mWP mTb_ mFT ro (11, 168, 794, [some (.ref 1000), some (.ref 0), some (.ref 34), some (.int i)], [], 62, 3336, (mSH, I, L)) Q := by
  refine mB 1 (s2 := (11, 168, 795, [some (.ref 1000), some (.ref 0), some (.ref 34), some (.int i)], [.ref 0], 62, 3336, (mSH, I, L))) rfl ?_
  refine mCall (s2 := (10, 102, 0, [some (.ref 0), none, none, none], [], 0, 0, (mSH, I, L))) rfl ?_
  refine t_digest hR.1 (fun rJ1 J1 fJ1 cJ1  => ?_)
  show mWP mTb_ mFT ro (11, 168, 798, [some (.ref 1000), some (.ref 0), some (.ref 34), some (.int i)], [.long rJ1], 62, 3336, (mSH, J1, L)) _
  refine mB 2 (s2 := (11, 168, 800, [some (.ref 1000), some (.ref 0), some (.ref 34), some (.int i)], [.ref 34], 62, 3336, (mSH, J1, L))) rfl ?_
  refine mCall (s2 := (10, 159, 0, [some (.ref 34), none, none, none], [], 0, 0, (mSH, J1, L))) rfl ?_
  (obtain ⟨sK2, nK2, tK2, mK2⟩ := hR.2.1.fr fJ1 (by rfl) (by rfl) (by rfl) (by rfl)); refine m_digest mK2 (fun rK2 K2 LK2 xK2 yK2 => ?_)
  show mWP mTb_ mFT ro (11, 168, 803, [some (.ref 1000), some (.ref 0), some (.ref 34), some (.int i)], [.long rK2], 62, 3336, (mSH, K2, LK2)) _
  refine mB 2 (s2 := (11, 168, 807, [some (.ref 1000), some (.ref 0), some (.ref 34), some (.int i)], [], 62, 3336, (mSH, K2, LK2))) rfl ?_
  exact hq _ _ (mRel hR fJ1 (by rfl) (by rfl) cJ1 xK2.1 xK2.2.1 yK2 (by rfl) (by rfl) xK2.2.2)
