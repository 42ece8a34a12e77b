/-! A call of the law. Written by a program (wip/mk_c.py). -/
/-- the two sites, texts, bounds and judges are equal -/
def mS (I : Nat → Nat → Int32) : Prop := (I 2 1 = I 34 1 ∧ I 4 1 = I 34 3 ∧ I 1 2 = I 34 4 ∧ I 26 1 = I 34 11) ∧ (∀ j, j < 16 → I 3 j = I 35 j) ∧ (∀ j, j < 8 → I 5 j = I 36 j) ∧ (∀ j, j < 120 → I 27 j = I 40 j) ∧ (∀ j, j < 4 → I 6 j = I 37 j) ∧ (∀ j, j < 3 → I 9 j = I 38 j)
def mX (I : Nat → Nat → Int32) : Prop := (I 34 4 = 0 ∨ I 34 4 = 1) ∧ (∀ j, j < 4 → 0 ≤ (I 37 j).toInt ∧ (I 37 j).toInt ≤ 99) ∧ ((0 ≤ (I 38 0).toInt ∧ (I 38 0).toInt ≤ 3) ∧ (1 ≤ (I 38 1).toInt ∧ (I 38 1).toInt ≤ 9) ∧ (0 ≤ (I 38 2).toInt ∧ (I 38 2).toInt ≤ 99)) ∧ (I 7 0 = 0 ∧ I 7 1 = 1 ∧ I 7 2 = 99 ∧ I 7 3 = 1)
def mR (I : Nat → Nat → Int32) : Prop := mIC I ∧ mIM I ∧ mS I ∧ mX I
section RL
variable {I J K : Nat → Nat → Int32} {S F : List Nat}
theorem mIM.fr (h : mIM I) (f : mFr S I J) (h1 : mMem S 34 = false) (h2 : mMem S 35 = false) (h3 : mMem S 36 = false) (h4 : mMem S 41 = false) : mIM J := by
  obtain ⟨s, n, t, hm⟩ := h
  refine ⟨s, n, t, ?_⟩
  unfold mM
  rw [f 34 h1, f 35 h2, f 36 h3, f 41 h4]
  exact hm
theorem mIC.fr (h : mIC I) (x : ∀ c, mMem S c = false → J c = I c) (hs : S.all (mMem mML) = true) : mIC J := by
  have f : ∀ c, mMem mML c = false → J c = I c := fun c hc => x c (mMem_sub hs hc)
  obtain ⟨a, b, c, d, e, g, k⟩ := h
  exact ⟨mCn.eqr (f 2 rfl) a, mCn.eqr (f 4 rfl) b, mCn.eqr (f 23 rfl) c, mCn.eqr (f 26 rfl) d, mCn.eqr (f 30 rfl) e, mCn.eqr (f 32 rfl) g, mRk.eq (f 18 rfl) (f 19 rfl) k⟩
theorem kPut_c {f g : Nat → Int32} {J j : Nat} {v : Int32} (h : f j = g j) : kPut f J v j = kPut g J v j := by
  unfold kPut
  rw [h]
theorem kAdF_c {f g : Nat → Int32} {n v : Int32} {N : Int} {j : Nat} (h : f j = g j) : kAdF n N v f j = kAdF n N v g j := by
  unfold kAdF
  split
  · exact kPut_c h
  · exact h
theorem kSeF_c {f g : Nat → Int32} {n w k v : Int32} {z : Int} {j : Nat} (h : f j = g j) : kSeF z n f w k v j = kSeF z n g w k v j := by
  unfold kSeF
  split
  · exact kPut_c h
  · exact h
theorem kBoF_c {f g : Nat → Int32} {w a b : Int32} {j : Nat} (h : f j = g j) : kBoF f w a b j = kBoF g w a b j := by
  unfold kBoF
  split
  · split
    · exact kPut_c (kPut_c h)
    · exact kPut_c (kPut_c h)
  · exact h
theorem kTyF_c {f g : Nat → Int32} {n c : Int32} {j : Nat} (h : f j = g j) : kTyF n c f j = kTyF n c g j := by
  unfold kTyF
  split
  · exact kPut_c h
  · exact h
theorem kSeR_c {f f2 g g2 : Nat → Int32} {ns nl w k v : Int32} (hs : ns.toInt ≤ 16) (hl : nl.toInt ≤ 8) (h1 : ∀ j, j < 16 → f j = f2 j) (h2 : ∀ j, j < 8 → g j = g2 j) : kSeR ns nl f g w k v = kSeR ns nl f2 g2 w k v := by
  have e : k.toNatClampNeg = k.toInt.toNat := rfl
  unfold kSeR
  split
  · rename_i c
    exact h1 _ (by rw [e]; omega)
  · split
    · rename_i c
      exact h2 _ (by rw [e]; omega)
    · rfl
theorem mJdN_c {f g : Nat → Int32} {w v : Int32} {j : Nat} (h : f j = g j) : mJdN f w v j = mJdN g w v j := by
  unfold mJdN
  rw [h]
theorem mJdR_c {f g : Nat → Int32} {w v : Int32} (h : ∀ j, j < 3 → f j = g j) : mJdR f w v = mJdR g w v := by
  unfold mJdR
  by_cases k : mJdK w v
  · rw [if_pos k, if_pos k]
    have e : w.toNatClampNeg = w.toInt.toNat := rfl
    exact h _ (by rw [e]; unfold mJdK at k; omega)
  · rw [if_neg k, if_neg k]
/-- the two ways to read leave equal sites equal -/
theorem xS_c {r : Option (List Int32 × Int32 × List Int32)} (h : xSC r I J) (g : xSM r J K) (hx : ∀ c, mMem mML c = false → K c = J c) (hf : J 34 = I 34) (h35 : J 35 = I 35) (h36 : J 36 = I 36) (hS : mS I) : K 2 1 = K 34 1 ∧ K 4 1 = K 34 3 ∧ K 1 2 = K 34 4 ∧ (∀ j, j < 16 → K 3 j = K 35 j) ∧ (∀ j, j < 8 → K 5 j = K 36 j) := by
  rw [hx 2 rfl, hx 4 rfl, hx 1 rfl, hx 3 rfl, hx 5 rfl]
  match r, h, g with
  | none, h, g =>
    obtain ⟨a1, a2, a3, a4, a5⟩ := h
    obtain ⟨b1, b2, b3, b4, b5⟩ := g
    have a1 : J 1 2 = I 1 2 := a1
    have a2 : J 2 1 = I 2 1 := a2
    have a3 : J 4 1 = I 4 1 := a3
    have a4 : J 3 = I 3 := a4
    have a5 : J 5 = I 5 := a5
    have b1 : K 34 4 = J 34 4 := b1
    have b2 : K 34 1 = J 34 1 := b2
    have b3 : K 34 3 = J 34 3 := b3
    have b4 : K 35 = J 35 := b4
    have b5 : K 36 = J 36 := b5
    rw [a1, a2, a3, a4, a5, b1, b2, b3, b4, b5, hf, h35, h36]
    exact ⟨hS.1.1, hS.1.2.1, hS.1.2.2.1, hS.2.1, hS.2.2.1⟩
  | some (ys, so, ls), h, g =>
    obtain ⟨a1, a2, a3, a4, a5⟩ := h
    obtain ⟨b1, b2, b3, b4, b5⟩ := g
    refine ⟨a2.trans b2.symm, a3.trans b3.symm, a1.trans b1.symm, fun j hj => ?_, fun j hj => ?_⟩
    · have x1 : J 3 j = _ := a4 j
      have x2 : K 35 j = _ := b4 j
      rw [x1, x2]
      split
      · rfl
      · rw [h35]
        exact hS.2.1 j hj
    · have x1 : J 5 j = _ := a5 j
      have x2 : K 36 j = _ := b5 j
      rw [x1, x2]
      split
      · rfl
      · rw [h36]
        exact hS.2.2.1 j hj
theorem pm_of {I : Nat → Nat → Int32} (h : mR I) : ∃ T B kd g pe, pm_O T B kd g pe ∧ pm_C T B kd g pe I ∧ pm_M T B kd g pe I := by
  obtain ⟨hc, ⟨s, n, t, hm⟩, ⟨⟨a1, a2, a3, a4⟩, b1, b2, b3, b4, b5⟩, x1, x2, x3, x4⟩ := h
  have so : 0 ≤ (I 34 4).toInt ∧ (I 34 4).toInt ≤ 1 := by
    rcases x1 with e | e <;> rw [e] <;> decide
  refine ⟨((s, n, (I 34 4).toInt.toNat), fun i => (I 35 i).toInt.toNat, fun j => (I 36 j).toInt.toNat), ((I 37 0).toInt.toNat, (I 37 1).toInt.toNat, (I 37 2).toInt.toNat, (I 37 3).toInt.toNat), (I 38 0).toInt.toNat, (I 38 1).toInt.toNat, (I 38 2).toInt.toNat, ?_, ?_, ?_⟩
  · have y0 := x2 0 (by omega)
    have y1 := x2 1 (by omega)
    have y2 := x2 2 (by omega)
    have y3 := x2 3 (by omega)
    refine ⟨⟨hm.1.2, hm.2.1.2, ?_, fun i hi => ?_, fun j hj => ?_⟩, ⟨?_, ?_, ?_, ?_⟩, ⟨?_, ?_⟩, ?_⟩
    · show (I 34 4).toInt.toNat ≤ 1; omega
    · have z := hm.2.2.2.1 i hi
      unfold mYR at z
      show 1 ≤ (I 35 i).toInt.toNat ∧ (I 35 i).toInt.toNat ≤ 99
      omega
    · have z := hm.2.2.2.2.1 j hj
      unfold mLR at z
      show 1 ≤ (I 36 j).toInt.toNat ∧ (I 36 j).toInt.toNat ≤ 999
      omega
    · show (I 37 0).toInt.toNat ≤ 99; omega
    · show (I 37 1).toInt.toNat ≤ 99; omega
    · show (I 37 2).toInt.toNat ≤ 99; omega
    · show (I 37 3).toInt.toNat ≤ 99; omega
    · omega
    · omega
    · omega
  · refine ⟨⟨a1.trans hm.1.1, a2.trans hm.2.1.1, a3.trans (pm_n so.1), fun i hi => ?_, fun j hj => ?_⟩, ⟨?_, ?_, ?_, ?_⟩, ⟨x4.1, x4.2.1, x4.2.2.1, x4.2.2.2⟩, ⟨?_, ?_⟩, ?_⟩
    · have z := hm.2.2.2.1 i hi
      unfold mYR at z
      exact (b1 i (Nat.lt_of_lt_of_le hi hm.1.2)).trans (pm_n (by omega))
    · have z := hm.2.2.2.2.1 j hj
      unfold mLR at z
      exact (b2 j (Nat.lt_of_lt_of_le hj hm.2.1.2)).trans (pm_n (by omega))
    · exact (b4 0 (by omega)).trans (pm_n (x2 0 (by omega)).1)
    · exact (b4 1 (by omega)).trans (pm_n (x2 1 (by omega)).1)
    · exact (b4 2 (by omega)).trans (pm_n (x2 2 (by omega)).1)
    · exact (b4 3 (by omega)).trans (pm_n (x2 3 (by omega)).1)
    · exact (b5 1 (by omega)).trans (pm_n (by omega))
    · exact (b5 2 (by omega)).trans (pm_n (by omega))
    · exact (b5 0 (by omega)).trans (pm_n (by omega))
  · refine ⟨⟨hm.1.1, hm.2.1.1, pm_n so.1, fun i hi => ?_, fun j hj => ?_⟩, ⟨?_, ?_, ?_, ?_⟩, ⟨?_, ?_⟩, ?_⟩
    · have z := hm.2.2.2.1 i hi
      unfold mYR at z
      exact pm_n (by omega)
    · have z := hm.2.2.2.2.1 j hj
      unfold mLR at z
      exact pm_n (by omega)
    · exact pm_n (x2 0 (by omega)).1
    · exact pm_n (x2 1 (by omega)).1
    · exact pm_n (x2 2 (by omega)).1
    · exact pm_n (x2 3 (by omega)).1
    · exact pm_n (by omega)
    · exact pm_n (by omega)
    · exact pm_n (by omega)
theorem xX_po {s v : Int32} (h : s = 0 ∨ s = 1) : kPoN s v = 0 ∨ kPoN s v = 1 := by
  unfold kPoN
  split
  · rename_i c
    rcases c with c | c
    · exact Or.inl (Int32.toInt_inj.mp c)
    · exact Or.inr (Int32.toInt_inj.mp c)
  · exact h
theorem xX_bo {f : Nat → Int32} {w a b : Int32} (h : ∀ j, j < 4 → 0 ≤ (f j).toInt ∧ (f j).toInt ≤ 99) : ∀ j, j < 4 → 0 ≤ (kBoF f w a b j).toInt ∧ (kBoF f w a b j).toInt ≤ 99 := fun j hj => by
  have z := h j hj
  unfold kBoF
  split
  · rename_i c
    have c1 := c.2.1
    have c2 := c.2.2.1
    have c3 := c.2.2.2
    unfold kOk at c3
    unfold kPut
    split
    all_goals dsimp only
    all_goals repeat' split
    all_goals omega
  · exact z
theorem xX_jd {f : Nat → Int32} {w v : Int32} (h : (0 ≤ (f 0).toInt ∧ (f 0).toInt ≤ 3) ∧ (1 ≤ (f 1).toInt ∧ (f 1).toInt ≤ 9) ∧ (0 ≤ (f 2).toInt ∧ (f 2).toInt ≤ 99)) : (0 ≤ (mJdN f w v 0).toInt ∧ (mJdN f w v 0).toInt ≤ 3) ∧ (1 ≤ (mJdN f w v 1).toInt ∧ (mJdN f w v 1).toInt ≤ 9) ∧ (0 ≤ (mJdN f w v 2).toInt ∧ (mJdN f w v 2).toInt ≤ 99) := by
  have e : w.toNatClampNeg = w.toInt.toNat := rfl
  have key : ∀ j, (mJdK w v ∧ j = w.toNatClampNeg ∧ mJdN f w v j = v) ∨ mJdN f w v j = f j := fun j => by
    unfold mJdN
    by_cases c : mJdK w v ∧ j = w.toNatClampNeg
    · rw [if_pos c]
      exact Or.inl ⟨c.1, c.2, rfl⟩
    · rw [if_neg c]
      exact Or.inr rfl
  rw [e] at key
  unfold mJdK at key
  refine ⟨?_, ?_, ?_⟩
  · rcases key 0 with ⟨k1, k2, k3⟩ | k3 <;> rw [k3] <;> omega
  · rcases key 1 with ⟨k1, k2, k3⟩ | k3 <;> rw [k3] <;> omega
  · rcases key 2 with ⟨k1, k2, k3⟩ | k3 <;> rw [k3] <;> omega
theorem xX_dr {sd n : Int32} {y y' g g' : Nat → Int32} {c c' l l' s s' : Int32} (h : kDrw sd n y y' g g' c c' l l' s s') (hs : s = 0 ∨ s = 1) : s' = 0 ∨ s' = 1 := by
  by_cases ok : kDk sd n
  · exact Or.inl (h.1 ok).2.2.2.2
  · rw [(h.2 ok).2.2.2.2]
    exact hs
theorem xX_pt {wd : List Int32 → Nat → Option Nat} {b : Nat → Int32} {t a e : Nat} {so : Int32} (h : kPt wd b t a = some (so, e)) : so = 0 ∨ so = 1 := by
  unfold kPt at h
  repeat' split at h
  all_goals first
    | (cases h; exact Or.inl rfl)
    | (cases h; exact Or.inr rfl)
    | cases h
theorem xX_al {wd : List Int32 → Nat → Option Nat} {b : Nat → Int32} {t : Nat} {ys ls : List Int32} {so : Int32} (h : kAll wd b t = some (ys, so, ls)) : so = 0 ∨ so = 1 := by
  unfold kAll at h
  repeat' split at h
  all_goals first
    | (rename_i hp _ _ _ _ _; cases h; exact xX_pt hp)
    | (rename_i hp _ _ _ _; cases h; exact xX_pt hp)
    | (rename_i hp _ _ _ ; cases h; exact xX_pt hp)
    | cases h
theorem xX_rd {I J K : Nat → Nat → Int32} {wd : List Int32 → Nat → Option Nat} {b : Nat → Int32} {t : Nat} (g : xSM (kAll wd b t) J K) (hs : J 34 4 = 0 ∨ J 34 4 = 1) : K 34 4 = 0 ∨ K 34 4 = 1 := by
  cases e : kAll wd b t with
  | none =>
    rw [e] at g
    have z : K 34 4 = J 34 4 := g.1
    rw [z]
    exact hs
  | some w =>
    obtain ⟨ys, so, ls⟩ := w
    rw [e] at g
    have z : K 34 4 = so := g.1
    rw [z]
    exact xX_al e
end RL
theorem xT {s n t s2 n2 t2 : Nat} {I J : Nat → Nat → Int32} (h : mM s n t I) (g : mM s2 n2 t2 J) (e : J 34 = I 34) : t = t2 := by
  have a := h.2.2.1
  have b := g.2.2.1
  rw [e, a.1] at b
  exact (nI_eq (by omega) (by omega)).mp b.1
theorem c_span {ro : Nat → Nat × (Nat → Int32)} {Q : mPo} {I : Nat → Nat → Int32} {L : Nat → Nat → Int64} {i : Int32} (hR : mR I) (hJ : mRJ ro) (hB : mRB ro) (hv1 : vp_in (i + 1) (ro 0).1) (hv2 : vp_in (i + 2) (ro 0).1) (hv3 : vp_in (i + 3) (ro 0).1) (hq : ∀ I L, mR I → mWP mTb_ mFT ro (11, 168, 807, [some (.ref 1000), some (.ref 0), some (.ref 34), some (.int i)], [], 62, 3336, (mSH, I, L)) Q)   : mWP mTb_ mFT ro (11, 168, 156, [some (.ref 1000), some (.ref 0), some (.ref 34), some (.int i)], [], 62, 3336, (mSH, I, L)) Q := by
  refine mB 5 (s2 := (11, 168, 161, [some (.ref 1000), some (.ref 0), some (.ref 34), some (.int i)], [.int (i + 1), .ref 1000, .ref 0], 62, 3336, (mSH, I, L))) rfl ?_
  refine mRq (s2 := (11, 168, 162, [some (.ref 1000), some (.ref 0), some (.ref 34), some (.int i)], [.int ((ro 0).2 ((i + 1).toNatClampNeg)), .ref 0], 62, 3336, (mSH, I, L))) rfl (mVp_of hv1) ?_
  refine mCall (s2 := (10, 76, 0, [some (.ref 0), some (.int ((ro 0).2 ((i + 1).toNatClampNeg)))], [], 0, 0, (mSH, I, L))) rfl ?_
  refine u_span hR.1 (fun rJ1 J1 fJ1 cJ1 e0J1 e1J1 e2J1 => ?_)
  show mWP mTb_ mFT ro (11, 168, 165, [some (.ref 1000), some (.ref 0), some (.ref 34), some (.int i)], [.int rJ1], 62, 3336, (mSH, J1, L)) _
  refine mB 6 (s2 := (11, 168, 171, [some (.ref 1000), some (.ref 0), some (.ref 34), some (.int i)], [.int (i + 1), .ref 1000, .ref 34], 62, 3336, (mSH, J1, L))) rfl ?_
  refine mRq (s2 := (11, 168, 172, [some (.ref 1000), some (.ref 0), some (.ref 34), some (.int i)], [.int ((ro 0).2 ((i + 1).toNatClampNeg)), .ref 34], 62, 3336, (mSH, J1, L))) rfl (mVp_of hv1) ?_
  refine mCall (s2 := (10, 116, 0, [some (.ref 34), some (.int ((ro 0).2 ((i + 1).toNatClampNeg)))], [], 0, 0, (mSH, J1, L))) rfl ?_
  (obtain ⟨sK2, nK2, tK2, mK2⟩ := hR.2.1.fr fJ1 (by rfl) (by rfl) (by rfl) (by rfl)); refine n_span mK2 (fun rK2 K2 LK2 xK2 yK2 e0K2 e1K2 e2K2 => ?_)
  show mWP mTb_ mFT ro (11, 168, 175, [some (.ref 1000), some (.ref 0), some (.ref 34), some (.int i)], [.int rK2], 62, 3336, (mSH, K2, LK2)) _
  refine mB 2 (s2 := (11, 168, 807, [some (.ref 1000), some (.ref 0), some (.ref 34), some (.int i)], [], 62, 3336, (mSH, K2, LK2))) rfl ?_
  (exact hq _ _ ⟨cJ1.fr xK2.1 (by decide), yK2, ⟨⟨by rw [xK2.1 2 rfl, e1J1, e1K2, fJ1 34 rfl, hR.2.2.1.1.1], by rw [xK2.1 4 rfl, xK2.2 3 rfl, fJ1 4 rfl, fJ1 34 rfl]; exact hR.2.2.1.1.2.1, by rw [xK2.1 1 rfl, xK2.2 4 rfl, fJ1 1 rfl, fJ1 34 rfl]; exact hR.2.2.1.1.2.2.1, by rw [xK2.1 26 rfl, xK2.2 11 rfl, fJ1 26 rfl, fJ1 34 rfl]; exact hR.2.2.1.1.2.2.2⟩, fun j hj => by rw [xK2.1 3 rfl, e2J1, e2K2, fJ1 35 rfl, fJ1 34 rfl, hR.2.2.1.1.1]; exact kAdF_c (hR.2.2.1.2.1 j hj), by rw [xK2.1 5 rfl, xK2.1 36 rfl, fJ1 5 rfl, fJ1 36 rfl]; exact hR.2.2.1.2.2.1, by rw [xK2.1 27 rfl, xK2.1 40 rfl, fJ1 27 rfl, fJ1 40 rfl]; exact hR.2.2.1.2.2.2.1, by rw [xK2.1 6 rfl, xK2.1 37 rfl, fJ1 6 rfl, fJ1 37 rfl]; exact hR.2.2.1.2.2.2.2.1, by rw [xK2.1 9 rfl, xK2.1 38 rfl, fJ1 9 rfl, fJ1 38 rfl]; exact hR.2.2.1.2.2.2.2.2⟩, by rw [xK2.2 4 rfl, fJ1 34 rfl]; exact hR.2.2.2.1, by rw [xK2.1 37 rfl, fJ1 37 rfl]; exact hR.2.2.2.2.1, by rw [xK2.1 38 rfl, fJ1 38 rfl]; exact hR.2.2.2.2.2.1, by rw [xK2.1 7 rfl, fJ1 7 rfl]; exact hR.2.2.2.2.2.2⟩)
theorem c_layer {ro : Nat → Nat × (Nat → Int32)} {Q : mPo} {I : Nat → Nat → Int32} {L : Nat → Nat → Int64} {i : Int32} (hR : mR I) (hJ : mRJ ro) (hB : mRB ro) (hv1 : vp_in (i + 1) (ro 0).1) (hv2 : vp_in (i + 2) (ro 0).1) (hv3 : vp_in (i + 3) (ro 0).1) (hq : ∀ I L, mR I → mWP mTb_ mFT ro (11, 168, 807, [some (.ref 1000), some (.ref 0), some (.ref 34), some (.int i)], [], 62, 3336, (mSH, I, L)) Q)   : mWP mTb_ mFT ro (11, 168, 179, [some (.ref 1000), some (.ref 0), some (.ref 34), some (.int i)], [], 62, 3336, (mSH, I, L)) Q := by
  refine mB 5 (s2 := (11, 168, 184, [some (.ref 1000), some (.ref 0), some (.ref 34), some (.int i)], [.int (i + 1), .ref 1000, .ref 0], 62, 3336, (mSH, I, L))) rfl ?_
  refine mRq (s2 := (11, 168, 185, [some (.ref 1000), some (.ref 0), some (.ref 34), some (.int i)], [.int ((ro 0).2 ((i + 1).toNatClampNeg)), .ref 0], 62, 3336, (mSH, I, L))) rfl (mVp_of hv1) ?_
  refine mCall (s2 := (10, 77, 0, [some (.ref 0), some (.int ((ro 0).2 ((i + 1).toNatClampNeg)))], [], 0, 0, (mSH, I, L))) rfl ?_
  refine u_layer hR.1 (fun rJ1 J1 fJ1 cJ1 e0J1 e1J1 e2J1 => ?_)
  show mWP mTb_ mFT ro (11, 168, 188, [some (.ref 1000), some (.ref 0), some (.ref 34), some (.int i)], [.int rJ1], 62, 3336, (mSH, J1, L)) _
  refine mB 6 (s2 := (11, 168, 194, [some (.ref 1000), some (.ref 0), some (.ref 34), some (.int i)], [.int (i + 1), .ref 1000, .ref 34], 62, 3336, (mSH, J1, L))) rfl ?_
  refine mRq (s2 := (11, 168, 195, [some (.ref 1000), some (.ref 0), some (.ref 34), some (.int i)], [.int ((ro 0).2 ((i + 1).toNatClampNeg)), .ref 34], 62, 3336, (mSH, J1, L))) rfl (mVp_of hv1) ?_
  refine mCall (s2 := (10, 117, 0, [some (.ref 34), some (.int ((ro 0).2 ((i + 1).toNatClampNeg)))], [], 0, 0, (mSH, J1, L))) rfl ?_
  (obtain ⟨sK2, nK2, tK2, mK2⟩ := hR.2.1.fr fJ1 (by rfl) (by rfl) (by rfl) (by rfl)); refine n_layer mK2 (fun rK2 K2 LK2 xK2 yK2 e0K2 e1K2 e2K2 => ?_)
  show mWP mTb_ mFT ro (11, 168, 198, [some (.ref 1000), some (.ref 0), some (.ref 34), some (.int i)], [.int rK2], 62, 3336, (mSH, K2, LK2)) _
  refine mB 2 (s2 := (11, 168, 807, [some (.ref 1000), some (.ref 0), some (.ref 34), some (.int i)], [], 62, 3336, (mSH, K2, LK2))) rfl ?_
  (exact hq _ _ ⟨cJ1.fr xK2.1 (by decide), yK2, ⟨⟨by rw [xK2.1 2 rfl, xK2.2 1 rfl, fJ1 2 rfl, fJ1 34 rfl]; exact hR.2.2.1.1.1, by rw [xK2.1 4 rfl, e1J1, e1K2, fJ1 34 rfl, hR.2.2.1.1.2.1], by rw [xK2.1 1 rfl, xK2.2 4 rfl, fJ1 1 rfl, fJ1 34 rfl]; exact hR.2.2.1.1.2.2.1, by rw [xK2.1 26 rfl, xK2.2 11 rfl, fJ1 26 rfl, fJ1 34 rfl]; exact hR.2.2.1.1.2.2.2⟩, by rw [xK2.1 3 rfl, xK2.1 35 rfl, fJ1 3 rfl, fJ1 35 rfl]; exact hR.2.2.1.2.1, fun j hj => by rw [xK2.1 5 rfl, e2J1, e2K2, fJ1 36 rfl, fJ1 34 rfl, hR.2.2.1.1.2.1]; exact kAdF_c (hR.2.2.1.2.2.1 j hj), by rw [xK2.1 27 rfl, xK2.1 40 rfl, fJ1 27 rfl, fJ1 40 rfl]; exact hR.2.2.1.2.2.2.1, by rw [xK2.1 6 rfl, xK2.1 37 rfl, fJ1 6 rfl, fJ1 37 rfl]; exact hR.2.2.1.2.2.2.2.1, by rw [xK2.1 9 rfl, xK2.1 38 rfl, fJ1 9 rfl, fJ1 38 rfl]; exact hR.2.2.1.2.2.2.2.2⟩, by rw [xK2.2 4 rfl, fJ1 34 rfl]; exact hR.2.2.2.1, by rw [xK2.1 37 rfl, fJ1 37 rfl]; exact hR.2.2.2.2.1, by rw [xK2.1 38 rfl, fJ1 38 rfl]; exact hR.2.2.2.2.2.1, by rw [xK2.1 7 rfl, fJ1 7 rfl]; exact hR.2.2.2.2.2.2⟩)
theorem c_points {ro : Nat → Nat × (Nat → Int32)} {Q : mPo} {I : Nat → Nat → Int32} {L : Nat → Nat → Int64} {i : Int32} (hR : mR I) (hJ : mRJ ro) (hB : mRB ro) (hv1 : vp_in (i + 1) (ro 0).1) (hv2 : vp_in (i + 2) (ro 0).1) (hv3 : vp_in (i + 3) (ro 0).1) (hq : ∀ I L, mR I → mWP mTb_ mFT ro (11, 168, 807, [some (.ref 1000), some (.ref 0), some (.ref 34), some (.int i)], [], 62, 3336, (mSH, I, L)) Q)   : mWP mTb_ mFT ro (11, 168, 202, [some (.ref 1000), some (.ref 0), some (.ref 34), some (.int i)], [], 62, 3336, (mSH, I, L)) Q := by
  refine mB 5 (s2 := (11, 168, 207, [some (.ref 1000), some (.ref 0), some (.ref 34), some (.int i)], [.int (i + 1), .ref 1000, .ref 0], 62, 3336, (mSH, I, L))) rfl ?_
  refine mRq (s2 := (11, 168, 208, [some (.ref 1000), some (.ref 0), some (.ref 34), some (.int i)], [.int ((ro 0).2 ((i + 1).toNatClampNeg)), .ref 0], 62, 3336, (mSH, I, L))) rfl (mVp_of hv1) ?_
  refine mCall (s2 := (10, 78, 0, [some (.ref 0), some (.int ((ro 0).2 ((i + 1).toNatClampNeg))), none], [], 0, 0, (mSH, I, L))) rfl ?_
  refine u_points hR.1 (fun rJ1 J1 fJ1 cJ1 e0J1 e1J1 => ?_)
  show mWP mTb_ mFT ro (11, 168, 211, [some (.ref 1000), some (.ref 0), some (.ref 34), some (.int i)], [.int rJ1], 62, 3336, (mSH, J1, L)) _
  refine mB 6 (s2 := (11, 168, 217, [some (.ref 1000), some (.ref 0), some (.ref 34), some (.int i)], [.int (i + 1), .ref 1000, .ref 34], 62, 3336, (mSH, J1, L))) rfl ?_
  refine mRq (s2 := (11, 168, 218, [some (.ref 1000), some (.ref 0), some (.ref 34), some (.int i)], [.int ((ro 0).2 ((i + 1).toNatClampNeg)), .ref 34], 62, 3336, (mSH, J1, L))) rfl (mVp_of hv1) ?_
  refine mCall (s2 := (10, 118, 0, [some (.ref 34), some (.int ((ro 0).2 ((i + 1).toNatClampNeg))), none], [], 0, 0, (mSH, J1, L))) rfl ?_
  (obtain ⟨sK2, nK2, tK2, mK2⟩ := hR.2.1.fr fJ1 (by rfl) (by rfl) (by rfl) (by rfl)); refine n_points mK2 (fun rK2 K2 LK2 xK2 yK2 e0K2 e1K2 => ?_)
  show mWP mTb_ mFT ro (11, 168, 221, [some (.ref 1000), some (.ref 0), some (.ref 34), some (.int i)], [.int rK2], 62, 3336, (mSH, K2, LK2)) _
  refine mB 2 (s2 := (11, 168, 807, [some (.ref 1000), some (.ref 0), some (.ref 34), some (.int i)], [], 62, 3336, (mSH, K2, LK2))) rfl ?_
  (exact hq _ _ ⟨cJ1.fr xK2.1 (by decide), yK2, ⟨⟨by rw [xK2.1 2 rfl, xK2.2 1 rfl, fJ1 2 rfl, fJ1 34 rfl]; exact hR.2.2.1.1.1, by rw [xK2.1 4 rfl, xK2.2 3 rfl, fJ1 4 rfl, fJ1 34 rfl]; exact hR.2.2.1.1.2.1, by rw [xK2.1 1 rfl, e1J1, e1K2, fJ1 34 rfl, hR.2.2.1.1.2.2.1], by rw [xK2.1 26 rfl, xK2.2 11 rfl, fJ1 26 rfl, fJ1 34 rfl]; exact hR.2.2.1.1.2.2.2⟩, by rw [xK2.1 3 rfl, xK2.1 35 rfl, fJ1 3 rfl, fJ1 35 rfl]; exact hR.2.2.1.2.1, by rw [xK2.1 5 rfl, xK2.1 36 rfl, fJ1 5 rfl, fJ1 36 rfl]; exact hR.2.2.1.2.2.1, by rw [xK2.1 27 rfl, xK2.1 40 rfl, fJ1 27 rfl, fJ1 40 rfl]; exact hR.2.2.1.2.2.2.1, by rw [xK2.1 6 rfl, xK2.1 37 rfl, fJ1 6 rfl, fJ1 37 rfl]; exact hR.2.2.1.2.2.2.2.1, by rw [xK2.1 9 rfl, xK2.1 38 rfl, fJ1 9 rfl, fJ1 38 rfl]; exact hR.2.2.1.2.2.2.2.2⟩, by rw [e1K2, fJ1 34 rfl]; exact xX_po hR.2.2.2.1, by rw [xK2.1 37 rfl, fJ1 37 rfl]; exact hR.2.2.2.2.1, by rw [xK2.1 38 rfl, fJ1 38 rfl]; exact hR.2.2.2.2.2.1, by rw [xK2.1 7 rfl, fJ1 7 rfl]; exact hR.2.2.2.2.2.2⟩)
theorem c_sets {ro : Nat → Nat × (Nat → Int32)} {Q : mPo} {I : Nat → Nat → Int32} {L : Nat → Nat → Int64} {i : Int32} (hR : mR I) (hJ : mRJ ro) (hB : mRB ro) (hv1 : vp_in (i + 1) (ro 0).1) (hv2 : vp_in (i + 2) (ro 0).1) (hv3 : vp_in (i + 3) (ro 0).1) (hq : ∀ I L, mR I → mWP mTb_ mFT ro (11, 168, 807, [some (.ref 1000), some (.ref 0), some (.ref 34), some (.int i)], [], 62, 3336, (mSH, I, L)) Q)   : mWP mTb_ mFT ro (11, 168, 225, [some (.ref 1000), some (.ref 0), some (.ref 34), some (.int i)], [], 62, 3336, (mSH, I, L)) Q := by
  refine mB 5 (s2 := (11, 168, 230, [some (.ref 1000), some (.ref 0), some (.ref 34), some (.int i)], [.int (i + 1), .ref 1000, .ref 0], 62, 3336, (mSH, I, L))) rfl ?_
  refine mRq (s2 := (11, 168, 231, [some (.ref 1000), some (.ref 0), some (.ref 34), some (.int i)], [.int ((ro 0).2 ((i + 1).toNatClampNeg)), .ref 0], 62, 3336, (mSH, I, L))) rfl (mVp_of hv1) ?_
  refine mB 4 (s2 := (11, 168, 235, [some (.ref 1000), some (.ref 0), some (.ref 34), some (.int i)], [.int (i + 2), .ref 1000, .int ((ro 0).2 ((i + 1).toNatClampNeg)), .ref 0], 62, 3336, (mSH, I, L))) rfl ?_
  refine mRq (s2 := (11, 168, 236, [some (.ref 1000), some (.ref 0), some (.ref 34), some (.int i)], [.int ((ro 0).2 ((i + 2).toNatClampNeg)), .int ((ro 0).2 ((i + 1).toNatClampNeg)), .ref 0], 62, 3336, (mSH, I, L))) rfl (mVp_of hv2) ?_
  refine mB 4 (s2 := (11, 168, 240, [some (.ref 1000), some (.ref 0), some (.ref 34), some (.int i)], [.int (i + 3), .ref 1000, .int ((ro 0).2 ((i + 2).toNatClampNeg)), .int ((ro 0).2 ((i + 1).toNatClampNeg)), .ref 0], 62, 3336, (mSH, I, L))) rfl ?_
  refine mRq (s2 := (11, 168, 241, [some (.ref 1000), some (.ref 0), some (.ref 34), some (.int i)], [.int ((ro 0).2 ((i + 3).toNatClampNeg)), .int ((ro 0).2 ((i + 2).toNatClampNeg)), .int ((ro 0).2 ((i + 1).toNatClampNeg)), .ref 0], 62, 3336, (mSH, I, L))) rfl (mVp_of hv3) ?_
  refine mCall (s2 := (10, 79, 0, [some (.ref 0), some (.int ((ro 0).2 ((i + 1).toNatClampNeg))), some (.int ((ro 0).2 ((i + 2).toNatClampNeg))), some (.int ((ro 0).2 ((i + 3).toNatClampNeg))), none, none], [], 0, 0, (mSH, I, L))) rfl ?_
  refine u_sets hR.1 (fun rJ1 J1 fJ1 cJ1 e0J1 e1J1 e2J1 => ?_)
  show mWP mTb_ mFT ro (11, 168, 244, [some (.ref 1000), some (.ref 0), some (.ref 34), some (.int i)], [.int rJ1], 62, 3336, (mSH, J1, L)) _
  refine mB 6 (s2 := (11, 168, 250, [some (.ref 1000), some (.ref 0), some (.ref 34), some (.int i)], [.int (i + 1), .ref 1000, .ref 34], 62, 3336, (mSH, J1, L))) rfl ?_
  refine mRq (s2 := (11, 168, 251, [some (.ref 1000), some (.ref 0), some (.ref 34), some (.int i)], [.int ((ro 0).2 ((i + 1).toNatClampNeg)), .ref 34], 62, 3336, (mSH, J1, L))) rfl (mVp_of hv1) ?_
  refine mB 4 (s2 := (11, 168, 255, [some (.ref 1000), some (.ref 0), some (.ref 34), some (.int i)], [.int (i + 2), .ref 1000, .int ((ro 0).2 ((i + 1).toNatClampNeg)), .ref 34], 62, 3336, (mSH, J1, L))) rfl ?_
  refine mRq (s2 := (11, 168, 256, [some (.ref 1000), some (.ref 0), some (.ref 34), some (.int i)], [.int ((ro 0).2 ((i + 2).toNatClampNeg)), .int ((ro 0).2 ((i + 1).toNatClampNeg)), .ref 34], 62, 3336, (mSH, J1, L))) rfl (mVp_of hv2) ?_
  refine mB 4 (s2 := (11, 168, 260, [some (.ref 1000), some (.ref 0), some (.ref 34), some (.int i)], [.int (i + 3), .ref 1000, .int ((ro 0).2 ((i + 2).toNatClampNeg)), .int ((ro 0).2 ((i + 1).toNatClampNeg)), .ref 34], 62, 3336, (mSH, J1, L))) rfl ?_
  refine mRq (s2 := (11, 168, 261, [some (.ref 1000), some (.ref 0), some (.ref 34), some (.int i)], [.int ((ro 0).2 ((i + 3).toNatClampNeg)), .int ((ro 0).2 ((i + 2).toNatClampNeg)), .int ((ro 0).2 ((i + 1).toNatClampNeg)), .ref 34], 62, 3336, (mSH, J1, L))) rfl (mVp_of hv3) ?_
  refine mCall (s2 := (10, 119, 0, [some (.ref 34), some (.int ((ro 0).2 ((i + 1).toNatClampNeg))), some (.int ((ro 0).2 ((i + 2).toNatClampNeg))), some (.int ((ro 0).2 ((i + 3).toNatClampNeg))), none], [], 0, 0, (mSH, J1, L))) rfl ?_
  (obtain ⟨sK2, nK2, tK2, mK2⟩ := hR.2.1.fr fJ1 (by rfl) (by rfl) (by rfl) (by rfl)); refine n_sets mK2 (fun rK2 K2 LK2 xK2 yK2 e0K2 e1K2 e2K2 => ?_)
  show mWP mTb_ mFT ro (11, 168, 264, [some (.ref 1000), some (.ref 0), some (.ref 34), some (.int i)], [.int rK2], 62, 3336, (mSH, K2, LK2)) _
  refine mB 2 (s2 := (11, 168, 807, [some (.ref 1000), some (.ref 0), some (.ref 34), some (.int i)], [], 62, 3336, (mSH, K2, LK2))) rfl ?_
  (exact hq _ _ ⟨cJ1.fr xK2.1 (by decide), yK2, ⟨⟨by rw [xK2.1 2 rfl, xK2.2 1 rfl, fJ1 2 rfl, fJ1 34 rfl]; exact hR.2.2.1.1.1, by rw [xK2.1 4 rfl, xK2.2 3 rfl, fJ1 4 rfl, fJ1 34 rfl]; exact hR.2.2.1.1.2.1, by rw [xK2.1 1 rfl, xK2.2 4 rfl, fJ1 1 rfl, fJ1 34 rfl]; exact hR.2.2.1.1.2.2.1, by rw [xK2.1 26 rfl, xK2.2 11 rfl, fJ1 26 rfl, fJ1 34 rfl]; exact hR.2.2.1.1.2.2.2⟩, fun j hj => by rw [xK2.1 3 rfl, e1J1, e1K2, fJ1 35 rfl, fJ1 34 rfl, hR.2.2.1.1.1]; exact kSeF_c (hR.2.2.1.2.1 j hj), fun j hj => by rw [xK2.1 5 rfl, e2J1, e2K2, fJ1 36 rfl, fJ1 34 rfl, hR.2.2.1.1.2.1]; exact kSeF_c (hR.2.2.1.2.2.1 j hj), by rw [xK2.1 27 rfl, xK2.1 40 rfl, fJ1 27 rfl, fJ1 40 rfl]; exact hR.2.2.1.2.2.2.1, by rw [xK2.1 6 rfl, xK2.1 37 rfl, fJ1 6 rfl, fJ1 37 rfl]; exact hR.2.2.1.2.2.2.2.1, by rw [xK2.1 9 rfl, xK2.1 38 rfl, fJ1 9 rfl, fJ1 38 rfl]; exact hR.2.2.1.2.2.2.2.2⟩, by rw [xK2.2 4 rfl, fJ1 34 rfl]; exact hR.2.2.2.1, by rw [xK2.1 37 rfl, fJ1 37 rfl]; exact hR.2.2.2.2.1, by rw [xK2.1 38 rfl, fJ1 38 rfl]; exact hR.2.2.2.2.2.1, by rw [xK2.1 7 rfl, fJ1 7 rfl]; exact hR.2.2.2.2.2.2⟩)
theorem c_empties {ro : Nat → Nat × (Nat → Int32)} {Q : mPo} {I : Nat → Nat → Int32} {L : Nat → Nat → Int64} {i : Int32} (hR : mR I) (hJ : mRJ ro) (hB : mRB ro) (hv1 : vp_in (i + 1) (ro 0).1) (hv2 : vp_in (i + 2) (ro 0).1) (hv3 : vp_in (i + 3) (ro 0).1) (hq : ∀ I L, mR I → mWP mTb_ mFT ro (11, 168, 807, [some (.ref 1000), some (.ref 0), some (.ref 34), some (.int i)], [], 62, 3336, (mSH, I, L)) Q)   : mWP mTb_ mFT ro (11, 168, 268, [some (.ref 1000), some (.ref 0), some (.ref 34), some (.int i)], [], 62, 3336, (mSH, I, L)) Q := by
  refine mB 5 (s2 := (11, 168, 273, [some (.ref 1000), some (.ref 0), some (.ref 34), some (.int i)], [.int (i + 1), .ref 1000, .ref 0], 62, 3336, (mSH, I, L))) rfl ?_
  refine mRq (s2 := (11, 168, 274, [some (.ref 1000), some (.ref 0), some (.ref 34), some (.int i)], [.int ((ro 0).2 ((i + 1).toNatClampNeg)), .ref 0], 62, 3336, (mSH, I, L))) rfl (mVp_of hv1) ?_
  refine mCall (s2 := (10, 80, 0, [some (.ref 0), some (.int ((ro 0).2 ((i + 1).toNatClampNeg)))], [], 0, 0, (mSH, I, L))) rfl ?_
  refine u_empties hR.1 (fun rJ1 J1 fJ1 cJ1 e0J1 e1J1 e2J1 => ?_)
  show mWP mTb_ mFT ro (11, 168, 277, [some (.ref 1000), some (.ref 0), some (.ref 34), some (.int i)], [.int rJ1], 62, 3336, (mSH, J1, L)) _
  refine mB 6 (s2 := (11, 168, 283, [some (.ref 1000), some (.ref 0), some (.ref 34), some (.int i)], [.int (i + 1), .ref 1000, .ref 34], 62, 3336, (mSH, J1, L))) rfl ?_
  refine mRq (s2 := (11, 168, 284, [some (.ref 1000), some (.ref 0), some (.ref 34), some (.int i)], [.int ((ro 0).2 ((i + 1).toNatClampNeg)), .ref 34], 62, 3336, (mSH, J1, L))) rfl (mVp_of hv1) ?_
  refine mCall (s2 := (10, 120, 0, [some (.ref 34), some (.int ((ro 0).2 ((i + 1).toNatClampNeg))), none], [], 0, 0, (mSH, J1, L))) rfl ?_
  (obtain ⟨sK2, nK2, tK2, mK2⟩ := hR.2.1.fr fJ1 (by rfl) (by rfl) (by rfl) (by rfl)); refine n_empties mK2 (fun rK2 K2 LK2 xK2 yK2 e0K2 e1K2 e2K2 => ?_)
  show mWP mTb_ mFT ro (11, 168, 287, [some (.ref 1000), some (.ref 0), some (.ref 34), some (.int i)], [.int rK2], 62, 3336, (mSH, K2, LK2)) _
  refine mB 2 (s2 := (11, 168, 807, [some (.ref 1000), some (.ref 0), some (.ref 34), some (.int i)], [], 62, 3336, (mSH, K2, LK2))) rfl ?_
  (exact hq _ _ ⟨cJ1.fr xK2.1 (by decide), yK2, ⟨⟨by rw [xK2.1 2 rfl, e1J1, e1K2, fJ1 34 rfl, hR.2.2.1.1.1], by rw [xK2.1 4 rfl, e2J1, e2K2, fJ1 34 rfl, hR.2.2.1.1.2.1], by rw [xK2.1 1 rfl, xK2.2 4 rfl, fJ1 1 rfl, fJ1 34 rfl]; exact hR.2.2.1.1.2.2.1, by rw [xK2.1 26 rfl, xK2.2 11 rfl, fJ1 26 rfl, fJ1 34 rfl]; exact hR.2.2.1.1.2.2.2⟩, by rw [xK2.1 3 rfl, xK2.1 35 rfl, fJ1 3 rfl, fJ1 35 rfl]; exact hR.2.2.1.2.1, by rw [xK2.1 5 rfl, xK2.1 36 rfl, fJ1 5 rfl, fJ1 36 rfl]; exact hR.2.2.1.2.2.1, by rw [xK2.1 27 rfl, xK2.1 40 rfl, fJ1 27 rfl, fJ1 40 rfl]; exact hR.2.2.1.2.2.2.1, by rw [xK2.1 6 rfl, xK2.1 37 rfl, fJ1 6 rfl, fJ1 37 rfl]; exact hR.2.2.1.2.2.2.2.1, by rw [xK2.1 9 rfl, xK2.1 38 rfl, fJ1 9 rfl, fJ1 38 rfl]; exact hR.2.2.1.2.2.2.2.2⟩, by rw [xK2.2 4 rfl, fJ1 34 rfl]; exact hR.2.2.2.1, by rw [xK2.1 37 rfl, fJ1 37 rfl]; exact hR.2.2.2.2.1, by rw [xK2.1 38 rfl, fJ1 38 rfl]; exact hR.2.2.2.2.2.1, by rw [xK2.1 7 rfl, fJ1 7 rfl]; exact hR.2.2.2.2.2.2⟩)
theorem c_draw {ro : Nat → Nat × (Nat → Int32)} {Q : mPo} {I : Nat → Nat → Int32} {L : Nat → Nat → Int64} {i : Int32} (hR : mR I) (hJ : mRJ ro) (hB : mRB ro) (hv1 : vp_in (i + 1) (ro 0).1) (hv2 : vp_in (i + 2) (ro 0).1) (hv3 : vp_in (i + 3) (ro 0).1) (hq : ∀ I L, mR I → mWP mTb_ mFT ro (11, 168, 807, [some (.ref 1000), some (.ref 0), some (.ref 34), some (.int i)], [], 62, 3336, (mSH, I, L)) Q)   : mWP mTb_ mFT ro (11, 168, 291, [some (.ref 1000), some (.ref 0), some (.ref 34), some (.int i)], [], 62, 3336, (mSH, I, L)) Q := by
  refine mB 5 (s2 := (11, 168, 296, [some (.ref 1000), some (.ref 0), some (.ref 34), some (.int i)], [.int (i + 1), .ref 1000, .ref 0], 62, 3336, (mSH, I, L))) rfl ?_
  refine mRq (s2 := (11, 168, 297, [some (.ref 1000), some (.ref 0), some (.ref 34), some (.int i)], [.int ((ro 0).2 ((i + 1).toNatClampNeg)), .ref 0], 62, 3336, (mSH, I, L))) rfl (mVp_of hv1) ?_
  refine mB 4 (s2 := (11, 168, 301, [some (.ref 1000), some (.ref 0), some (.ref 34), some (.int i)], [.int (i + 2), .ref 1000, .int ((ro 0).2 ((i + 1).toNatClampNeg)), .ref 0], 62, 3336, (mSH, I, L))) rfl ?_
  refine mRq (s2 := (11, 168, 302, [some (.ref 1000), some (.ref 0), some (.ref 34), some (.int i)], [.int ((ro 0).2 ((i + 2).toNatClampNeg)), .int ((ro 0).2 ((i + 1).toNatClampNeg)), .ref 0], 62, 3336, (mSH, I, L))) rfl (mVp_of hv2) ?_
  refine mCall (s2 := (10, 81, 0, [some (.ref 0), some (.int ((ro 0).2 ((i + 1).toNatClampNeg))), some (.int ((ro 0).2 ((i + 2).toNatClampNeg)))], [], 0, 0, (mSH, I, L))) rfl ?_
  refine u_draw hR.1 (fun rJ1 J1 fJ1 cJ1 e0J1 e1J1 => ?_)
  show mWP mTb_ mFT ro (11, 168, 305, [some (.ref 1000), some (.ref 0), some (.ref 34), some (.int i)], [.int rJ1], 62, 3336, (mSH, J1, L)) _
  refine mB 6 (s2 := (11, 168, 311, [some (.ref 1000), some (.ref 0), some (.ref 34), some (.int i)], [.int (i + 1), .ref 1000, .ref 34], 62, 3336, (mSH, J1, L))) rfl ?_
  refine mRq (s2 := (11, 168, 312, [some (.ref 1000), some (.ref 0), some (.ref 34), some (.int i)], [.int ((ro 0).2 ((i + 1).toNatClampNeg)), .ref 34], 62, 3336, (mSH, J1, L))) rfl (mVp_of hv1) ?_
  refine mB 4 (s2 := (11, 168, 316, [some (.ref 1000), some (.ref 0), some (.ref 34), some (.int i)], [.int (i + 2), .ref 1000, .int ((ro 0).2 ((i + 1).toNatClampNeg)), .ref 34], 62, 3336, (mSH, J1, L))) rfl ?_
  refine mRq (s2 := (11, 168, 317, [some (.ref 1000), some (.ref 0), some (.ref 34), some (.int i)], [.int ((ro 0).2 ((i + 2).toNatClampNeg)), .int ((ro 0).2 ((i + 1).toNatClampNeg)), .ref 34], 62, 3336, (mSH, J1, L))) rfl (mVp_of hv2) ?_
  refine mCall (s2 := (10, 121, 0, [some (.ref 34), some (.int ((ro 0).2 ((i + 1).toNatClampNeg))), some (.int ((ro 0).2 ((i + 2).toNatClampNeg))), none, none, none, none, none], [], 0, 0, (mSH, J1, L))) rfl ?_
  (obtain ⟨sK2, nK2, tK2, mK2⟩ := hR.2.1.fr fJ1 (by rfl) (by rfl) (by rfl) (by rfl)); refine n_draw mK2 (fun rK2 K2 LK2 xK2 yK2 e0K2 e1K2 => ?_)
  show mWP mTb_ mFT ro (11, 168, 320, [some (.ref 1000), some (.ref 0), some (.ref 34), some (.int i)], [.int rK2], 62, 3336, (mSH, K2, LK2)) _
  refine mB 2 (s2 := (11, 168, 807, [some (.ref 1000), some (.ref 0), some (.ref 34), some (.int i)], [], 62, 3336, (mSH, K2, LK2))) rfl ?_
  (have w := e1K2; rw [fJ1 35 rfl, fJ1 36 rfl, fJ1 34 rfl] at w; have z := kDrw_c e1J1 w hR.2.2.1.2.1 hR.2.2.1.2.2.1 hR.2.2.1.1.1 hR.2.2.1.1.2.1 hR.2.2.1.1.2.2.1; exact hq _ _ ⟨cJ1.fr xK2.1 (by decide), yK2, ⟨⟨by rw [xK2.1 2 rfl]; exact z.2.2.1, by rw [xK2.1 4 rfl]; exact z.2.2.2.1, by rw [xK2.1 1 rfl]; exact z.2.2.2.2, by rw [xK2.1 26 rfl, xK2.2 11 rfl, fJ1 26 rfl, fJ1 34 rfl]; exact hR.2.2.1.1.2.2.2⟩, by rw [xK2.1 3 rfl]; exact z.1, by rw [xK2.1 5 rfl]; exact z.2.1, by rw [xK2.1 27 rfl, xK2.1 40 rfl, fJ1 27 rfl, fJ1 40 rfl]; exact hR.2.2.1.2.2.2.1, by rw [xK2.1 6 rfl, xK2.1 37 rfl, fJ1 6 rfl, fJ1 37 rfl]; exact hR.2.2.1.2.2.2.2.1, by rw [xK2.1 9 rfl, xK2.1 38 rfl, fJ1 9 rfl, fJ1 38 rfl]; exact hR.2.2.1.2.2.2.2.2⟩, xX_dr w hR.2.2.2.1, by rw [xK2.1 37 rfl, fJ1 37 rfl]; exact hR.2.2.2.2.1, by rw [xK2.1 38 rfl, fJ1 38 rfl]; exact hR.2.2.2.2.2.1, by rw [xK2.1 7 rfl, fJ1 7 rfl]; exact hR.2.2.2.2.2.2⟩)
theorem c_bound {ro : Nat → Nat × (Nat → Int32)} {Q : mPo} {I : Nat → Nat → Int32} {L : Nat → Nat → Int64} {i : Int32} (hR : mR I) (hJ : mRJ ro) (hB : mRB ro) (hv1 : vp_in (i + 1) (ro 0).1) (hv2 : vp_in (i + 2) (ro 0).1) (hv3 : vp_in (i + 3) (ro 0).1) (hq : ∀ I L, mR I → mWP mTb_ mFT ro (11, 168, 807, [some (.ref 1000), some (.ref 0), some (.ref 34), some (.int i)], [], 62, 3336, (mSH, I, L)) Q)   : mWP mTb_ mFT ro (11, 168, 324, [some (.ref 1000), some (.ref 0), some (.ref 34), some (.int i)], [], 62, 3336, (mSH, I, L)) Q := by
  refine mB 5 (s2 := (11, 168, 329, [some (.ref 1000), some (.ref 0), some (.ref 34), some (.int i)], [.int (i + 1), .ref 1000, .ref 0], 62, 3336, (mSH, I, L))) rfl ?_
  refine mRq (s2 := (11, 168, 330, [some (.ref 1000), some (.ref 0), some (.ref 34), some (.int i)], [.int ((ro 0).2 ((i + 1).toNatClampNeg)), .ref 0], 62, 3336, (mSH, I, L))) rfl (mVp_of hv1) ?_
  refine mB 4 (s2 := (11, 168, 334, [some (.ref 1000), some (.ref 0), some (.ref 34), some (.int i)], [.int (i + 2), .ref 1000, .int ((ro 0).2 ((i + 1).toNatClampNeg)), .ref 0], 62, 3336, (mSH, I, L))) rfl ?_
  refine mRq (s2 := (11, 168, 335, [some (.ref 1000), some (.ref 0), some (.ref 34), some (.int i)], [.int ((ro 0).2 ((i + 2).toNatClampNeg)), .int ((ro 0).2 ((i + 1).toNatClampNeg)), .ref 0], 62, 3336, (mSH, I, L))) rfl (mVp_of hv2) ?_
  refine mB 4 (s2 := (11, 168, 339, [some (.ref 1000), some (.ref 0), some (.ref 34), some (.int i)], [.int (i + 3), .ref 1000, .int ((ro 0).2 ((i + 2).toNatClampNeg)), .int ((ro 0).2 ((i + 1).toNatClampNeg)), .ref 0], 62, 3336, (mSH, I, L))) rfl ?_
  refine mRq (s2 := (11, 168, 340, [some (.ref 1000), some (.ref 0), some (.ref 34), some (.int i)], [.int ((ro 0).2 ((i + 3).toNatClampNeg)), .int ((ro 0).2 ((i + 2).toNatClampNeg)), .int ((ro 0).2 ((i + 1).toNatClampNeg)), .ref 0], 62, 3336, (mSH, I, L))) rfl (mVp_of hv3) ?_
  refine mCall (s2 := (10, 82, 0, [some (.ref 0), some (.int ((ro 0).2 ((i + 1).toNatClampNeg))), some (.int ((ro 0).2 ((i + 2).toNatClampNeg))), some (.int ((ro 0).2 ((i + 3).toNatClampNeg)))], [], 0, 0, (mSH, I, L))) rfl ?_
  refine u_bound hR.1 (fun rJ1 J1 fJ1 cJ1 e0J1 e1J1 => ?_)
  show mWP mTb_ mFT ro (11, 168, 343, [some (.ref 1000), some (.ref 0), some (.ref 34), some (.int i)], [.int rJ1], 62, 3336, (mSH, J1, L)) _
  refine mB 6 (s2 := (11, 168, 349, [some (.ref 1000), some (.ref 0), some (.ref 34), some (.int i)], [.int (i + 1), .ref 1000, .ref 34], 62, 3336, (mSH, J1, L))) rfl ?_
  refine mRq (s2 := (11, 168, 350, [some (.ref 1000), some (.ref 0), some (.ref 34), some (.int i)], [.int ((ro 0).2 ((i + 1).toNatClampNeg)), .ref 34], 62, 3336, (mSH, J1, L))) rfl (mVp_of hv1) ?_
  refine mB 4 (s2 := (11, 168, 354, [some (.ref 1000), some (.ref 0), some (.ref 34), some (.int i)], [.int (i + 2), .ref 1000, .int ((ro 0).2 ((i + 1).toNatClampNeg)), .ref 34], 62, 3336, (mSH, J1, L))) rfl ?_
  refine mRq (s2 := (11, 168, 355, [some (.ref 1000), some (.ref 0), some (.ref 34), some (.int i)], [.int ((ro 0).2 ((i + 2).toNatClampNeg)), .int ((ro 0).2 ((i + 1).toNatClampNeg)), .ref 34], 62, 3336, (mSH, J1, L))) rfl (mVp_of hv2) ?_
  refine mB 4 (s2 := (11, 168, 359, [some (.ref 1000), some (.ref 0), some (.ref 34), some (.int i)], [.int (i + 3), .ref 1000, .int ((ro 0).2 ((i + 2).toNatClampNeg)), .int ((ro 0).2 ((i + 1).toNatClampNeg)), .ref 34], 62, 3336, (mSH, J1, L))) rfl ?_
  refine mRq (s2 := (11, 168, 360, [some (.ref 1000), some (.ref 0), some (.ref 34), some (.int i)], [.int ((ro 0).2 ((i + 3).toNatClampNeg)), .int ((ro 0).2 ((i + 2).toNatClampNeg)), .int ((ro 0).2 ((i + 1).toNatClampNeg)), .ref 34], 62, 3336, (mSH, J1, L))) rfl (mVp_of hv3) ?_
  refine mCall (s2 := (10, 122, 0, [some (.ref 34), some (.int ((ro 0).2 ((i + 1).toNatClampNeg))), some (.int ((ro 0).2 ((i + 2).toNatClampNeg))), some (.int ((ro 0).2 ((i + 3).toNatClampNeg)))], [], 0, 0, (mSH, J1, L))) rfl ?_
  (obtain ⟨sK2, nK2, tK2, mK2⟩ := hR.2.1.fr fJ1 (by rfl) (by rfl) (by rfl) (by rfl)); refine n_bound mK2 (fun rK2 K2 LK2 xK2 yK2 e0K2 e1K2 => ?_)
  show mWP mTb_ mFT ro (11, 168, 363, [some (.ref 1000), some (.ref 0), some (.ref 34), some (.int i)], [.int rK2], 62, 3336, (mSH, K2, LK2)) _
  refine mB 2 (s2 := (11, 168, 807, [some (.ref 1000), some (.ref 0), some (.ref 34), some (.int i)], [], 62, 3336, (mSH, K2, LK2))) rfl ?_
  (exact hq _ _ ⟨cJ1.fr xK2.1 (by decide), yK2, ⟨⟨by rw [xK2.1 2 rfl, xK2.2 1 rfl, fJ1 2 rfl, fJ1 34 rfl]; exact hR.2.2.1.1.1, by rw [xK2.1 4 rfl, xK2.2 3 rfl, fJ1 4 rfl, fJ1 34 rfl]; exact hR.2.2.1.1.2.1, by rw [xK2.1 1 rfl, xK2.2 4 rfl, fJ1 1 rfl, fJ1 34 rfl]; exact hR.2.2.1.1.2.2.1, by rw [xK2.1 26 rfl, xK2.2 11 rfl, fJ1 26 rfl, fJ1 34 rfl]; exact hR.2.2.1.1.2.2.2⟩, by rw [xK2.1 3 rfl, xK2.1 35 rfl, fJ1 3 rfl, fJ1 35 rfl]; exact hR.2.2.1.2.1, by rw [xK2.1 5 rfl, xK2.1 36 rfl, fJ1 5 rfl, fJ1 36 rfl]; exact hR.2.2.1.2.2.1, by rw [xK2.1 27 rfl, xK2.1 40 rfl, fJ1 27 rfl, fJ1 40 rfl]; exact hR.2.2.1.2.2.2.1, fun j hj => by rw [xK2.1 6 rfl, e1J1, e1K2, fJ1 37 rfl]; exact kBoF_c (hR.2.2.1.2.2.2.2.1 j hj), by rw [xK2.1 9 rfl, xK2.1 38 rfl, fJ1 9 rfl, fJ1 38 rfl]; exact hR.2.2.1.2.2.2.2.2⟩, by rw [xK2.2 4 rfl, fJ1 34 rfl]; exact hR.2.2.2.1, by rw [e1K2, fJ1 37 rfl]; exact xX_bo hR.2.2.2.2.1, by rw [xK2.1 38 rfl, fJ1 38 rfl]; exact hR.2.2.2.2.2.1, by rw [xK2.1 7 rfl, fJ1 7 rfl]; exact hR.2.2.2.2.2.2⟩)
theorem c_judge {ro : Nat → Nat × (Nat → Int32)} {Q : mPo} {I : Nat → Nat → Int32} {L : Nat → Nat → Int64} {i : Int32} (hR : mR I) (hJ : mRJ ro) (hB : mRB ro) (hv1 : vp_in (i + 1) (ro 0).1) (hv2 : vp_in (i + 2) (ro 0).1) (hv3 : vp_in (i + 3) (ro 0).1) (hq : ∀ I L, mR I → mWP mTb_ mFT ro (11, 168, 807, [some (.ref 1000), some (.ref 0), some (.ref 34), some (.int i)], [], 62, 3336, (mSH, I, L)) Q)   : mWP mTb_ mFT ro (11, 168, 367, [some (.ref 1000), some (.ref 0), some (.ref 34), some (.int i)], [], 62, 3336, (mSH, I, L)) Q := by
  refine mB 5 (s2 := (11, 168, 372, [some (.ref 1000), some (.ref 0), some (.ref 34), some (.int i)], [.int (i + 1), .ref 1000, .ref 0], 62, 3336, (mSH, I, L))) rfl ?_
  refine mRq (s2 := (11, 168, 373, [some (.ref 1000), some (.ref 0), some (.ref 34), some (.int i)], [.int ((ro 0).2 ((i + 1).toNatClampNeg)), .ref 0], 62, 3336, (mSH, I, L))) rfl (mVp_of hv1) ?_
  refine mB 4 (s2 := (11, 168, 377, [some (.ref 1000), some (.ref 0), some (.ref 34), some (.int i)], [.int (i + 2), .ref 1000, .int ((ro 0).2 ((i + 1).toNatClampNeg)), .ref 0], 62, 3336, (mSH, I, L))) rfl ?_
  refine mRq (s2 := (11, 168, 378, [some (.ref 1000), some (.ref 0), some (.ref 34), some (.int i)], [.int ((ro 0).2 ((i + 2).toNatClampNeg)), .int ((ro 0).2 ((i + 1).toNatClampNeg)), .ref 0], 62, 3336, (mSH, I, L))) rfl (mVp_of hv2) ?_
  refine mCall (s2 := (10, 83, 0, [some (.ref 0), some (.int ((ro 0).2 ((i + 1).toNatClampNeg))), some (.int ((ro 0).2 ((i + 2).toNatClampNeg))), none], [], 0, 0, (mSH, I, L))) rfl ?_
  refine t_judge hR.1 hJ (fun rJ1 J1 fJ1 cJ1 e0J1 e1J1 => ?_)
  show mWP mTb_ mFT ro (11, 168, 381, [some (.ref 1000), some (.ref 0), some (.ref 34), some (.int i)], [.int rJ1], 62, 3336, (mSH, J1, L)) _
  refine mB 6 (s2 := (11, 168, 387, [some (.ref 1000), some (.ref 0), some (.ref 34), some (.int i)], [.int (i + 1), .ref 1000, .ref 34], 62, 3336, (mSH, J1, L))) rfl ?_
  refine mRq (s2 := (11, 168, 388, [some (.ref 1000), some (.ref 0), some (.ref 34), some (.int i)], [.int ((ro 0).2 ((i + 1).toNatClampNeg)), .ref 34], 62, 3336, (mSH, J1, L))) rfl (mVp_of hv1) ?_
  refine mB 4 (s2 := (11, 168, 392, [some (.ref 1000), some (.ref 0), some (.ref 34), some (.int i)], [.int (i + 2), .ref 1000, .int ((ro 0).2 ((i + 1).toNatClampNeg)), .ref 34], 62, 3336, (mSH, J1, L))) rfl ?_
  refine mRq (s2 := (11, 168, 393, [some (.ref 1000), some (.ref 0), some (.ref 34), some (.int i)], [.int ((ro 0).2 ((i + 2).toNatClampNeg)), .int ((ro 0).2 ((i + 1).toNatClampNeg)), .ref 34], 62, 3336, (mSH, J1, L))) rfl (mVp_of hv2) ?_
  refine mCall (s2 := (10, 123, 0, [some (.ref 34), some (.int ((ro 0).2 ((i + 1).toNatClampNeg))), some (.int ((ro 0).2 ((i + 2).toNatClampNeg))), none], [], 0, 0, (mSH, J1, L))) rfl ?_
  (obtain ⟨sK2, nK2, tK2, mK2⟩ := hR.2.1.fr fJ1 (by rfl) (by rfl) (by rfl) (by rfl)); refine n_judge mK2 (fun rK2 K2 LK2 xK2 yK2 e0K2 e1K2 => ?_)
  show mWP mTb_ mFT ro (11, 168, 396, [some (.ref 1000), some (.ref 0), some (.ref 34), some (.int i)], [.int rK2], 62, 3336, (mSH, K2, LK2)) _
  refine mB 2 (s2 := (11, 168, 807, [some (.ref 1000), some (.ref 0), some (.ref 34), some (.int i)], [], 62, 3336, (mSH, K2, LK2))) rfl ?_
  (exact hq _ _ ⟨cJ1.fr xK2.1 (by decide), yK2, ⟨⟨by rw [xK2.1 2 rfl, xK2.2 1 rfl, fJ1 2 rfl, fJ1 34 rfl]; exact hR.2.2.1.1.1, by rw [xK2.1 4 rfl, xK2.2 3 rfl, fJ1 4 rfl, fJ1 34 rfl]; exact hR.2.2.1.1.2.1, by rw [xK2.1 1 rfl, xK2.2 4 rfl, fJ1 1 rfl, fJ1 34 rfl]; exact hR.2.2.1.1.2.2.1, by rw [xK2.1 26 rfl, xK2.2 11 rfl, fJ1 26 rfl, fJ1 34 rfl]; exact hR.2.2.1.1.2.2.2⟩, by rw [xK2.1 3 rfl, xK2.1 35 rfl, fJ1 3 rfl, fJ1 35 rfl]; exact hR.2.2.1.2.1, by rw [xK2.1 5 rfl, xK2.1 36 rfl, fJ1 5 rfl, fJ1 36 rfl]; exact hR.2.2.1.2.2.1, by rw [xK2.1 27 rfl, xK2.1 40 rfl, fJ1 27 rfl, fJ1 40 rfl]; exact hR.2.2.1.2.2.2.1, by rw [xK2.1 6 rfl, xK2.1 37 rfl, fJ1 6 rfl, fJ1 37 rfl]; exact hR.2.2.1.2.2.2.2.1, fun j hj => by rw [xK2.1 9 rfl, e1J1, e1K2, fJ1 38 rfl, mJdN_c (hR.2.2.1.2.2.2.2.2 j hj)]⟩, by rw [xK2.2 4 rfl, fJ1 34 rfl]; exact hR.2.2.2.1, by rw [xK2.1 37 rfl, fJ1 37 rfl]; exact hR.2.2.2.2.1, by rw [e1K2 0, e1K2 1, e1K2 2, fJ1 38 rfl]; exact xX_jd hR.2.2.2.2.2.1, by rw [xK2.1 7 rfl, fJ1 7 rfl]; exact hR.2.2.2.2.2.2⟩)
theorem c_misfit {ro : Nat → Nat × (Nat → Int32)} {Q : mPo} {I : Nat → Nat → Int32} {L : Nat → Nat → Int64} {i : Int32} (hR : mR I) (hJ : mRJ ro) (hB : mRB ro) (hv1 : vp_in (i + 1) (ro 0).1) (hv2 : vp_in (i + 2) (ro 0).1) (hv3 : vp_in (i + 3) (ro 0).1) (hq : ∀ I L, mR I → mWP mTb_ mFT ro (11, 168, 807, [some (.ref 1000), some (.ref 0), some (.ref 34), some (.int i)], [], 62, 3336, (mSH, I, L)) Q)   : mWP mTb_ mFT ro (11, 168, 400, [some (.ref 1000), some (.ref 0), some (.ref 34), some (.int i)], [], 62, 3336, (mSH, I, L)) Q := by
  refine mB 5 (s2 := (11, 168, 405, [some (.ref 1000), some (.ref 0), some (.ref 34), some (.int i)], [.int (i + 1), .ref 1000, .ref 0], 62, 3336, (mSH, I, L))) rfl ?_
  refine mRq (s2 := (11, 168, 406, [some (.ref 1000), some (.ref 0), some (.ref 34), some (.int i)], [.int ((ro 0).2 ((i + 1).toNatClampNeg)), .ref 0], 62, 3336, (mSH, I, L))) rfl (mVp_of hv1) ?_
  refine mB 4 (s2 := (11, 168, 410, [some (.ref 1000), some (.ref 0), some (.ref 34), some (.int i)], [.int (i + 2), .ref 1000, .int ((ro 0).2 ((i + 1).toNatClampNeg)), .ref 0], 62, 3336, (mSH, I, L))) rfl ?_
  refine mRq (s2 := (11, 168, 411, [some (.ref 1000), some (.ref 0), some (.ref 34), some (.int i)], [.int ((ro 0).2 ((i + 2).toNatClampNeg)), .int ((ro 0).2 ((i + 1).toNatClampNeg)), .ref 0], 62, 3336, (mSH, I, L))) rfl (mVp_of hv2) ?_
  refine mB 4 (s2 := (11, 168, 415, [some (.ref 1000), some (.ref 0), some (.ref 34), some (.int i)], [.int (i + 3), .ref 1000, .int ((ro 0).2 ((i + 2).toNatClampNeg)), .int ((ro 0).2 ((i + 1).toNatClampNeg)), .ref 0], 62, 3336, (mSH, I, L))) rfl ?_
  refine mRq (s2 := (11, 168, 416, [some (.ref 1000), some (.ref 0), some (.ref 34), some (.int i)], [.int ((ro 0).2 ((i + 3).toNatClampNeg)), .int ((ro 0).2 ((i + 2).toNatClampNeg)), .int ((ro 0).2 ((i + 1).toNatClampNeg)), .ref 0], 62, 3336, (mSH, I, L))) rfl (mVp_of hv3) ?_
  refine mCall (s2 := (10, 84, 0, [some (.ref 0), some (.int ((ro 0).2 ((i + 1).toNatClampNeg))), some (.int ((ro 0).2 ((i + 2).toNatClampNeg))), some (.int ((ro 0).2 ((i + 3).toNatClampNeg)))], [], 0, 0, (mSH, I, L))) rfl ?_
  refine u_misfit hR.1 (fun rJ1 J1 fJ1 cJ1  => ?_)
  show mWP mTb_ mFT ro (11, 168, 419, [some (.ref 1000), some (.ref 0), some (.ref 34), some (.int i)], [.int rJ1], 62, 3336, (mSH, J1, L)) _
  refine mB 6 (s2 := (11, 168, 425, [some (.ref 1000), some (.ref 0), some (.ref 34), some (.int i)], [.int (i + 1), .ref 1000, .ref 34], 62, 3336, (mSH, J1, L))) rfl ?_
  refine mRq (s2 := (11, 168, 426, [some (.ref 1000), some (.ref 0), some (.ref 34), some (.int i)], [.int ((ro 0).2 ((i + 1).toNatClampNeg)), .ref 34], 62, 3336, (mSH, J1, L))) rfl (mVp_of hv1) ?_
  refine mB 4 (s2 := (11, 168, 430, [some (.ref 1000), some (.ref 0), some (.ref 34), some (.int i)], [.int (i + 2), .ref 1000, .int ((ro 0).2 ((i + 1).toNatClampNeg)), .ref 34], 62, 3336, (mSH, J1, L))) rfl ?_
  refine mRq (s2 := (11, 168, 431, [some (.ref 1000), some (.ref 0), some (.ref 34), some (.int i)], [.int ((ro 0).2 ((i + 2).toNatClampNeg)), .int ((ro 0).2 ((i + 1).toNatClampNeg)), .ref 34], 62, 3336, (mSH, J1, L))) rfl (mVp_of hv2) ?_
  refine mB 4 (s2 := (11, 168, 435, [some (.ref 1000), some (.ref 0), some (.ref 34), some (.int i)], [.int (i + 3), .ref 1000, .int ((ro 0).2 ((i + 2).toNatClampNeg)), .int ((ro 0).2 ((i + 1).toNatClampNeg)), .ref 34], 62, 3336, (mSH, J1, L))) rfl ?_
  refine mRq (s2 := (11, 168, 436, [some (.ref 1000), some (.ref 0), some (.ref 34), some (.int i)], [.int ((ro 0).2 ((i + 3).toNatClampNeg)), .int ((ro 0).2 ((i + 2).toNatClampNeg)), .int ((ro 0).2 ((i + 1).toNatClampNeg)), .ref 34], 62, 3336, (mSH, J1, L))) rfl (mVp_of hv3) ?_
  refine mCall (s2 := (10, 126, 0, [some (.ref 34), some (.int ((ro 0).2 ((i + 1).toNatClampNeg))), some (.int ((ro 0).2 ((i + 2).toNatClampNeg))), some (.int ((ro 0).2 ((i + 3).toNatClampNeg)))], [], 0, 0, (mSH, J1, L))) rfl ?_
  (obtain ⟨sK2, nK2, tK2, mK2⟩ := hR.2.1.fr fJ1 (by rfl) (by rfl) (by rfl) (by rfl)); refine m_misfit mK2 (fun rK2 K2 LK2 xK2 yK2  => ?_)
  show mWP mTb_ mFT ro (11, 168, 439, [some (.ref 1000), some (.ref 0), some (.ref 34), some (.int i)], [.int rK2], 62, 3336, (mSH, K2, LK2)) _
  refine mB 2 (s2 := (11, 168, 807, [some (.ref 1000), some (.ref 0), some (.ref 34), some (.int i)], [], 62, 3336, (mSH, K2, LK2))) rfl ?_
  (exact hq _ _ ⟨cJ1.fr xK2.1 (by decide), yK2, ⟨⟨by rw [xK2.1 2 rfl, xK2.2 1 rfl, fJ1 2 rfl, fJ1 34 rfl]; exact hR.2.2.1.1.1, by rw [xK2.1 4 rfl, xK2.2 3 rfl, fJ1 4 rfl, fJ1 34 rfl]; exact hR.2.2.1.1.2.1, by rw [xK2.1 1 rfl, xK2.2 4 rfl, fJ1 1 rfl, fJ1 34 rfl]; exact hR.2.2.1.1.2.2.1, by rw [xK2.1 26 rfl, xK2.2 11 rfl, fJ1 26 rfl, fJ1 34 rfl]; exact hR.2.2.1.1.2.2.2⟩, by rw [xK2.1 3 rfl, xK2.1 35 rfl, fJ1 3 rfl, fJ1 35 rfl]; exact hR.2.2.1.2.1, by rw [xK2.1 5 rfl, xK2.1 36 rfl, fJ1 5 rfl, fJ1 36 rfl]; exact hR.2.2.1.2.2.1, by rw [xK2.1 27 rfl, xK2.1 40 rfl, fJ1 27 rfl, fJ1 40 rfl]; exact hR.2.2.1.2.2.2.1, by rw [xK2.1 6 rfl, xK2.1 37 rfl, fJ1 6 rfl, fJ1 37 rfl]; exact hR.2.2.1.2.2.2.2.1, by rw [xK2.1 9 rfl, xK2.1 38 rfl, fJ1 9 rfl, fJ1 38 rfl]; exact hR.2.2.1.2.2.2.2.2⟩, by rw [xK2.2 4 rfl, fJ1 34 rfl]; exact hR.2.2.2.1, by rw [xK2.1 37 rfl, fJ1 37 rfl]; exact hR.2.2.2.2.1, by rw [xK2.1 38 rfl, fJ1 38 rfl]; exact hR.2.2.2.2.2.1, by rw [xK2.1 7 rfl, fJ1 7 rfl]; exact hR.2.2.2.2.2.2⟩)
theorem c_match {ro : Nat → Nat × (Nat → Int32)} {Q : mPo} {I : Nat → Nat → Int32} {L : Nat → Nat → Int64} {i : Int32} (hR : mR I) (hJ : mRJ ro) (hB : mRB ro) (hv1 : vp_in (i + 1) (ro 0).1) (hv2 : vp_in (i + 2) (ro 0).1) (hv3 : vp_in (i + 3) (ro 0).1) (hq : ∀ I L, mR I → mWP mTb_ mFT ro (11, 168, 807, [some (.ref 1000), some (.ref 0), some (.ref 34), some (.int i)], [], 62, 3336, (mSH, I, L)) Q)   : mWP mTb_ mFT ro (11, 168, 443, [some (.ref 1000), some (.ref 0), some (.ref 34), some (.int i)], [], 62, 3336, (mSH, I, L)) Q := by
  refine mB 5 (s2 := (11, 168, 448, [some (.ref 1000), some (.ref 0), some (.ref 34), some (.int i)], [.int (i + 1), .ref 1000, .ref 0], 62, 3336, (mSH, I, L))) rfl ?_
  refine mRq (s2 := (11, 168, 449, [some (.ref 1000), some (.ref 0), some (.ref 34), some (.int i)], [.int ((ro 0).2 ((i + 1).toNatClampNeg)), .ref 0], 62, 3336, (mSH, I, L))) rfl (mVp_of hv1) ?_
  refine mB 4 (s2 := (11, 168, 453, [some (.ref 1000), some (.ref 0), some (.ref 34), some (.int i)], [.int (i + 2), .ref 1000, .int ((ro 0).2 ((i + 1).toNatClampNeg)), .ref 0], 62, 3336, (mSH, I, L))) rfl ?_
  refine mRq (s2 := (11, 168, 454, [some (.ref 1000), some (.ref 0), some (.ref 34), some (.int i)], [.int ((ro 0).2 ((i + 2).toNatClampNeg)), .int ((ro 0).2 ((i + 1).toNatClampNeg)), .ref 0], 62, 3336, (mSH, I, L))) rfl (mVp_of hv2) ?_
  refine mCall (s2 := (10, 85, 0, [some (.ref 0), some (.int ((ro 0).2 ((i + 1).toNatClampNeg))), some (.int ((ro 0).2 ((i + 2).toNatClampNeg)))], [], 0, 0, (mSH, I, L))) rfl ?_
  refine u_match hR.1 (fun rJ1 J1 fJ1 cJ1  => ?_)
  show mWP mTb_ mFT ro (11, 168, 457, [some (.ref 1000), some (.ref 0), some (.ref 34), some (.int i)], [.int rJ1], 62, 3336, (mSH, J1, L)) _
  refine mB 6 (s2 := (11, 168, 463, [some (.ref 1000), some (.ref 0), some (.ref 34), some (.int i)], [.int (i + 1), .ref 1000, .ref 34], 62, 3336, (mSH, J1, L))) rfl ?_
  refine mRq (s2 := (11, 168, 464, [some (.ref 1000), some (.ref 0), some (.ref 34), some (.int i)], [.int ((ro 0).2 ((i + 1).toNatClampNeg)), .ref 34], 62, 3336, (mSH, J1, L))) rfl (mVp_of hv1) ?_
  refine mB 4 (s2 := (11, 168, 468, [some (.ref 1000), some (.ref 0), some (.ref 34), some (.int i)], [.int (i + 2), .ref 1000, .int ((ro 0).2 ((i + 1).toNatClampNeg)), .ref 34], 62, 3336, (mSH, J1, L))) rfl ?_
  refine mRq (s2 := (11, 168, 469, [some (.ref 1000), some (.ref 0), some (.ref 34), some (.int i)], [.int ((ro 0).2 ((i + 2).toNatClampNeg)), .int ((ro 0).2 ((i + 1).toNatClampNeg)), .ref 34], 62, 3336, (mSH, J1, L))) rfl (mVp_of hv2) ?_
  refine mCall (s2 := (10, 133, 0, [some (.ref 34), some (.int ((ro 0).2 ((i + 1).toNatClampNeg))), some (.int ((ro 0).2 ((i + 2).toNatClampNeg))), none, none, none], [], 0, 0, (mSH, J1, L))) rfl ?_
  (obtain ⟨sK2, nK2, tK2, mK2⟩ := hR.2.1.fr fJ1 (by rfl) (by rfl) (by rfl) (by rfl)); refine m_match mK2 (fun rK2 K2 LK2 xK2 yK2  => ?_)
  show mWP mTb_ mFT ro (11, 168, 472, [some (.ref 1000), some (.ref 0), some (.ref 34), some (.int i)], [.int rK2], 62, 3336, (mSH, K2, LK2)) _
  refine mB 2 (s2 := (11, 168, 807, [some (.ref 1000), some (.ref 0), some (.ref 34), some (.int i)], [], 62, 3336, (mSH, K2, LK2))) rfl ?_
  (exact hq _ _ ⟨cJ1.fr xK2.1 (by decide), yK2, ⟨⟨by rw [xK2.1 2 rfl, xK2.2 1 rfl, fJ1 2 rfl, fJ1 34 rfl]; exact hR.2.2.1.1.1, by rw [xK2.1 4 rfl, xK2.2 3 rfl, fJ1 4 rfl, fJ1 34 rfl]; exact hR.2.2.1.1.2.1, by rw [xK2.1 1 rfl, xK2.2 4 rfl, fJ1 1 rfl, fJ1 34 rfl]; exact hR.2.2.1.1.2.2.1, by rw [xK2.1 26 rfl, xK2.2 11 rfl, fJ1 26 rfl, fJ1 34 rfl]; exact hR.2.2.1.1.2.2.2⟩, by rw [xK2.1 3 rfl, xK2.1 35 rfl, fJ1 3 rfl, fJ1 35 rfl]; exact hR.2.2.1.2.1, by rw [xK2.1 5 rfl, xK2.1 36 rfl, fJ1 5 rfl, fJ1 36 rfl]; exact hR.2.2.1.2.2.1, by rw [xK2.1 27 rfl, xK2.1 40 rfl, fJ1 27 rfl, fJ1 40 rfl]; exact hR.2.2.1.2.2.2.1, by rw [xK2.1 6 rfl, xK2.1 37 rfl, fJ1 6 rfl, fJ1 37 rfl]; exact hR.2.2.1.2.2.2.2.1, by rw [xK2.1 9 rfl, xK2.1 38 rfl, fJ1 9 rfl, fJ1 38 rfl]; exact hR.2.2.1.2.2.2.2.2⟩, by rw [xK2.2 4 rfl, fJ1 34 rfl]; exact hR.2.2.2.1, by rw [xK2.1 37 rfl, fJ1 37 rfl]; exact hR.2.2.2.2.1, by rw [xK2.1 38 rfl, fJ1 38 rfl]; exact hR.2.2.2.2.2.1, by rw [xK2.1 7 rfl, fJ1 7 rfl]; exact hR.2.2.2.2.2.2⟩)
theorem c_block {ro : Nat → Nat × (Nat → Int32)} {Q : mPo} {I : Nat → Nat → Int32} {L : Nat → Nat → Int64} {i : Int32} (hR : mR I) (hJ : mRJ ro) (hB : mRB ro) (hv1 : vp_in (i + 1) (ro 0).1) (hv2 : vp_in (i + 2) (ro 0).1) (hv3 : vp_in (i + 3) (ro 0).1) (hq : ∀ I L, mR I → mWP mTb_ mFT ro (11, 168, 807, [some (.ref 1000), some (.ref 0), some (.ref 34), some (.int i)], [], 62, 3336, (mSH, I, L)) Q)   : mWP mTb_ mFT ro (11, 168, 476, [some (.ref 1000), some (.ref 0), some (.ref 34), some (.int i)], [], 62, 3336, (mSH, I, L)) Q := by
  refine mB 5 (s2 := (11, 168, 481, [some (.ref 1000), some (.ref 0), some (.ref 34), some (.int i)], [.int (i + 1), .ref 1000, .ref 0], 62, 3336, (mSH, I, L))) rfl ?_
  refine mRq (s2 := (11, 168, 482, [some (.ref 1000), some (.ref 0), some (.ref 34), some (.int i)], [.int ((ro 0).2 ((i + 1).toNatClampNeg)), .ref 0], 62, 3336, (mSH, I, L))) rfl (mVp_of hv1) ?_
  refine mB 4 (s2 := (11, 168, 486, [some (.ref 1000), some (.ref 0), some (.ref 34), some (.int i)], [.int (i + 2), .ref 1000, .int ((ro 0).2 ((i + 1).toNatClampNeg)), .ref 0], 62, 3336, (mSH, I, L))) rfl ?_
  refine mRq (s2 := (11, 168, 487, [some (.ref 1000), some (.ref 0), some (.ref 34), some (.int i)], [.int ((ro 0).2 ((i + 2).toNatClampNeg)), .int ((ro 0).2 ((i + 1).toNatClampNeg)), .ref 0], 62, 3336, (mSH, I, L))) rfl (mVp_of hv2) ?_
  refine mCall (s2 := (10, 86, 0, [some (.ref 0), some (.int ((ro 0).2 ((i + 1).toNatClampNeg))), some (.int ((ro 0).2 ((i + 2).toNatClampNeg)))], [], 0, 0, (mSH, I, L))) rfl ?_
  refine u_block hR.1 (fun rJ1 J1 fJ1 cJ1  => ?_)
  show mWP mTb_ mFT ro (11, 168, 490, [some (.ref 1000), some (.ref 0), some (.ref 34), some (.int i)], [.int rJ1], 62, 3336, (mSH, J1, L)) _
  refine mB 6 (s2 := (11, 168, 496, [some (.ref 1000), some (.ref 0), some (.ref 34), some (.int i)], [.int (i + 1), .ref 1000, .ref 34], 62, 3336, (mSH, J1, L))) rfl ?_
  refine mRq (s2 := (11, 168, 497, [some (.ref 1000), some (.ref 0), some (.ref 34), some (.int i)], [.int ((ro 0).2 ((i + 1).toNatClampNeg)), .ref 34], 62, 3336, (mSH, J1, L))) rfl (mVp_of hv1) ?_
  refine mB 4 (s2 := (11, 168, 501, [some (.ref 1000), some (.ref 0), some (.ref 34), some (.int i)], [.int (i + 2), .ref 1000, .int ((ro 0).2 ((i + 1).toNatClampNeg)), .ref 34], 62, 3336, (mSH, J1, L))) rfl ?_
  refine mRq (s2 := (11, 168, 502, [some (.ref 1000), some (.ref 0), some (.ref 34), some (.int i)], [.int ((ro 0).2 ((i + 2).toNatClampNeg)), .int ((ro 0).2 ((i + 1).toNatClampNeg)), .ref 34], 62, 3336, (mSH, J1, L))) rfl (mVp_of hv2) ?_
  refine mCall (s2 := (10, 134, 0, [some (.ref 34), some (.int ((ro 0).2 ((i + 1).toNatClampNeg))), some (.int ((ro 0).2 ((i + 2).toNatClampNeg)))], [], 0, 0, (mSH, J1, L))) rfl ?_
  (obtain ⟨sK2, nK2, tK2, mK2⟩ := hR.2.1.fr fJ1 (by rfl) (by rfl) (by rfl) (by rfl)); refine m_block mK2 (fun rK2 K2 LK2 xK2 yK2  => ?_)
  show mWP mTb_ mFT ro (11, 168, 505, [some (.ref 1000), some (.ref 0), some (.ref 34), some (.int i)], [.int rK2], 62, 3336, (mSH, K2, LK2)) _
  refine mB 2 (s2 := (11, 168, 807, [some (.ref 1000), some (.ref 0), some (.ref 34), some (.int i)], [], 62, 3336, (mSH, K2, LK2))) rfl ?_
  (exact hq _ _ ⟨cJ1.fr xK2.1 (by decide), yK2, ⟨⟨by rw [xK2.1 2 rfl, xK2.2 1 rfl, fJ1 2 rfl, fJ1 34 rfl]; exact hR.2.2.1.1.1, by rw [xK2.1 4 rfl, xK2.2 3 rfl, fJ1 4 rfl, fJ1 34 rfl]; exact hR.2.2.1.1.2.1, by rw [xK2.1 1 rfl, xK2.2 4 rfl, fJ1 1 rfl, fJ1 34 rfl]; exact hR.2.2.1.1.2.2.1, by rw [xK2.1 26 rfl, xK2.2 11 rfl, fJ1 26 rfl, fJ1 34 rfl]; exact hR.2.2.1.1.2.2.2⟩, by rw [xK2.1 3 rfl, xK2.1 35 rfl, fJ1 3 rfl, fJ1 35 rfl]; exact hR.2.2.1.2.1, by rw [xK2.1 5 rfl, xK2.1 36 rfl, fJ1 5 rfl, fJ1 36 rfl]; exact hR.2.2.1.2.2.1, by rw [xK2.1 27 rfl, xK2.1 40 rfl, fJ1 27 rfl, fJ1 40 rfl]; exact hR.2.2.1.2.2.2.1, by rw [xK2.1 6 rfl, xK2.1 37 rfl, fJ1 6 rfl, fJ1 37 rfl]; exact hR.2.2.1.2.2.2.2.1, by rw [xK2.1 9 rfl, xK2.1 38 rfl, fJ1 9 rfl, fJ1 38 rfl]; exact hR.2.2.1.2.2.2.2.2⟩, by rw [xK2.2 4 rfl, fJ1 34 rfl]; exact hR.2.2.2.1, by rw [xK2.1 37 rfl, fJ1 37 rfl]; exact hR.2.2.2.2.1, by rw [xK2.1 38 rfl, fJ1 38 rfl]; exact hR.2.2.2.2.2.1, by rw [xK2.1 7 rfl, fJ1 7 rfl]; exact hR.2.2.2.2.2.2⟩)
theorem c_many {ro : Nat → Nat × (Nat → Int32)} {Q : mPo} {I : Nat → Nat → Int32} {L : Nat → Nat → Int64} {i : Int32} (hR : mR I) (hJ : mRJ ro) (hB : mRB ro) (hv1 : vp_in (i + 1) (ro 0).1) (hv2 : vp_in (i + 2) (ro 0).1) (hv3 : vp_in (i + 3) (ro 0).1) (hq : ∀ I L, mR I → mWP mTb_ mFT ro (11, 168, 807, [some (.ref 1000), some (.ref 0), some (.ref 34), some (.int i)], [], 62, 3336, (mSH, I, L)) Q)   : mWP mTb_ mFT ro (11, 168, 509, [some (.ref 1000), some (.ref 0), some (.ref 34), some (.int i)], [], 62, 3336, (mSH, I, L)) Q := by
  refine mB 1 (s2 := (11, 168, 510, [some (.ref 1000), some (.ref 0), some (.ref 34), some (.int i)], [.ref 0], 62, 3336, (mSH, I, L))) rfl ?_
  refine mCall (s2 := (10, 87, 0, [some (.ref 0)], [], 0, 0, (mSH, I, L))) rfl ?_
  refine u_many hR.1 (fun rJ1 J1 fJ1 cJ1  => ?_)
  show mWP mTb_ mFT ro (11, 168, 513, [some (.ref 1000), some (.ref 0), some (.ref 34), some (.int i)], [.int rJ1], 62, 3336, (mSH, J1, L)) _
  refine mB 2 (s2 := (11, 168, 515, [some (.ref 1000), some (.ref 0), some (.ref 34), some (.int i)], [.ref 34], 62, 3336, (mSH, J1, L))) rfl ?_
  refine mCall (s2 := (10, 135, 0, [some (.ref 34)], [], 0, 0, (mSH, J1, L))) rfl ?_
  (obtain ⟨sK2, nK2, tK2, mK2⟩ := hR.2.1.fr fJ1 (by rfl) (by rfl) (by rfl) (by rfl)); refine m_many mK2 (fun rK2 K2 LK2 xK2 yK2  => ?_)
  show mWP mTb_ mFT ro (11, 168, 518, [some (.ref 1000), some (.ref 0), some (.ref 34), some (.int i)], [.int rK2], 62, 3336, (mSH, K2, LK2)) _
  refine mB 2 (s2 := (11, 168, 807, [some (.ref 1000), some (.ref 0), some (.ref 34), some (.int i)], [], 62, 3336, (mSH, K2, LK2))) rfl ?_
  (exact hq _ _ ⟨cJ1.fr xK2.1 (by decide), yK2, ⟨⟨by rw [xK2.1 2 rfl, xK2.2 1 rfl, fJ1 2 rfl, fJ1 34 rfl]; exact hR.2.2.1.1.1, by rw [xK2.1 4 rfl, xK2.2 3 rfl, fJ1 4 rfl, fJ1 34 rfl]; exact hR.2.2.1.1.2.1, by rw [xK2.1 1 rfl, xK2.2 4 rfl, fJ1 1 rfl, fJ1 34 rfl]; exact hR.2.2.1.1.2.2.1, by rw [xK2.1 26 rfl, xK2.2 11 rfl, fJ1 26 rfl, fJ1 34 rfl]; exact hR.2.2.1.1.2.2.2⟩, by rw [xK2.1 3 rfl, xK2.1 35 rfl, fJ1 3 rfl, fJ1 35 rfl]; exact hR.2.2.1.2.1, by rw [xK2.1 5 rfl, xK2.1 36 rfl, fJ1 5 rfl, fJ1 36 rfl]; exact hR.2.2.1.2.2.1, by rw [xK2.1 27 rfl, xK2.1 40 rfl, fJ1 27 rfl, fJ1 40 rfl]; exact hR.2.2.1.2.2.2.1, by rw [xK2.1 6 rfl, xK2.1 37 rfl, fJ1 6 rfl, fJ1 37 rfl]; exact hR.2.2.1.2.2.2.2.1, by rw [xK2.1 9 rfl, xK2.1 38 rfl, fJ1 9 rfl, fJ1 38 rfl]; exact hR.2.2.1.2.2.2.2.2⟩, by rw [xK2.2 4 rfl, fJ1 34 rfl]; exact hR.2.2.2.1, by rw [xK2.1 37 rfl, fJ1 37 rfl]; exact hR.2.2.2.2.1, by rw [xK2.1 38 rfl, fJ1 38 rfl]; exact hR.2.2.2.2.2.1, by rw [xK2.1 7 rfl, fJ1 7 rfl]; exact hR.2.2.2.2.2.2⟩)
theorem c_alike {ro : Nat → Nat × (Nat → Int32)} {Q : mPo} {I : Nat → Nat → Int32} {L : Nat → Nat → Int64} {i : Int32} (hR : mR I) (hJ : mRJ ro) (hB : mRB ro) (hv1 : vp_in (i + 1) (ro 0).1) (hv2 : vp_in (i + 2) (ro 0).1) (hv3 : vp_in (i + 3) (ro 0).1) (hq : ∀ I L, mR I → mWP mTb_ mFT ro (11, 168, 807, [some (.ref 1000), some (.ref 0), some (.ref 34), some (.int i)], [], 62, 3336, (mSH, I, L)) Q)   : mWP mTb_ mFT ro (11, 168, 522, [some (.ref 1000), some (.ref 0), some (.ref 34), some (.int i)], [], 62, 3336, (mSH, I, L)) Q := by
  refine mB 1 (s2 := (11, 168, 523, [some (.ref 1000), some (.ref 0), some (.ref 34), some (.int i)], [.ref 0], 62, 3336, (mSH, I, L))) rfl ?_
  refine mCall (s2 := (10, 88, 0, [some (.ref 0)], [], 0, 0, (mSH, I, L))) rfl ?_
  refine u_alike hR.1 (fun rJ1 J1 fJ1 cJ1  => ?_)
  show mWP mTb_ mFT ro (11, 168, 526, [some (.ref 1000), some (.ref 0), some (.ref 34), some (.int i)], [.int rJ1], 62, 3336, (mSH, J1, L)) _
  refine mB 2 (s2 := (11, 168, 528, [some (.ref 1000), some (.ref 0), some (.ref 34), some (.int i)], [.ref 34], 62, 3336, (mSH, J1, L))) rfl ?_
  refine mCall (s2 := (10, 136, 0, [some (.ref 34)], [], 0, 0, (mSH, J1, L))) rfl ?_
  (obtain ⟨sK2, nK2, tK2, mK2⟩ := hR.2.1.fr fJ1 (by rfl) (by rfl) (by rfl) (by rfl)); refine m_alike mK2 (fun rK2 K2 LK2 xK2 yK2  => ?_)
  show mWP mTb_ mFT ro (11, 168, 531, [some (.ref 1000), some (.ref 0), some (.ref 34), some (.int i)], [.int rK2], 62, 3336, (mSH, K2, LK2)) _
  refine mB 2 (s2 := (11, 168, 807, [some (.ref 1000), some (.ref 0), some (.ref 34), some (.int i)], [], 62, 3336, (mSH, K2, LK2))) rfl ?_
  (exact hq _ _ ⟨cJ1.fr xK2.1 (by decide), yK2, ⟨⟨by rw [xK2.1 2 rfl, xK2.2 1 rfl, fJ1 2 rfl, fJ1 34 rfl]; exact hR.2.2.1.1.1, by rw [xK2.1 4 rfl, xK2.2 3 rfl, fJ1 4 rfl, fJ1 34 rfl]; exact hR.2.2.1.1.2.1, by rw [xK2.1 1 rfl, xK2.2 4 rfl, fJ1 1 rfl, fJ1 34 rfl]; exact hR.2.2.1.1.2.2.1, by rw [xK2.1 26 rfl, xK2.2 11 rfl, fJ1 26 rfl, fJ1 34 rfl]; exact hR.2.2.1.1.2.2.2⟩, by rw [xK2.1 3 rfl, xK2.1 35 rfl, fJ1 3 rfl, fJ1 35 rfl]; exact hR.2.2.1.2.1, by rw [xK2.1 5 rfl, xK2.1 36 rfl, fJ1 5 rfl, fJ1 36 rfl]; exact hR.2.2.1.2.2.1, by rw [xK2.1 27 rfl, xK2.1 40 rfl, fJ1 27 rfl, fJ1 40 rfl]; exact hR.2.2.1.2.2.2.1, by rw [xK2.1 6 rfl, xK2.1 37 rfl, fJ1 6 rfl, fJ1 37 rfl]; exact hR.2.2.1.2.2.2.2.1, by rw [xK2.1 9 rfl, xK2.1 38 rfl, fJ1 9 rfl, fJ1 38 rfl]; exact hR.2.2.1.2.2.2.2.2⟩, by rw [xK2.2 4 rfl, fJ1 34 rfl]; exact hR.2.2.2.1, by rw [xK2.1 37 rfl, fJ1 37 rfl]; exact hR.2.2.2.2.1, by rw [xK2.1 38 rfl, fJ1 38 rfl]; exact hR.2.2.2.2.2.1, by rw [xK2.1 7 rfl, fJ1 7 rfl]; exact hR.2.2.2.2.2.2⟩)
theorem c_begins {ro : Nat → Nat × (Nat → Int32)} {Q : mPo} {I : Nat → Nat → Int32} {L : Nat → Nat → Int64} {i : Int32} (hR : mR I) (hJ : mRJ ro) (hB : mRB ro) (hv1 : vp_in (i + 1) (ro 0).1) (hv2 : vp_in (i + 2) (ro 0).1) (hv3 : vp_in (i + 3) (ro 0).1) (hq : ∀ I L, mR I → mWP mTb_ mFT ro (11, 168, 807, [some (.ref 1000), some (.ref 0), some (.ref 34), some (.int i)], [], 62, 3336, (mSH, I, L)) Q)   : mWP mTb_ mFT ro (11, 168, 535, [some (.ref 1000), some (.ref 0), some (.ref 34), some (.int i)], [], 62, 3336, (mSH, I, L)) Q := by
  refine mB 1 (s2 := (11, 168, 536, [some (.ref 1000), some (.ref 0), some (.ref 34), some (.int i)], [.ref 0], 62, 3336, (mSH, I, L))) rfl ?_
  refine mCall (s2 := (10, 89, 0, [some (.ref 0), none, none], [], 0, 0, (mSH, I, L))) rfl ?_
  refine u_begins hR.1 (fun rJ1 J1 fJ1 cJ1  => ?_)
  show mWP mTb_ mFT ro (11, 168, 539, [some (.ref 1000), some (.ref 0), some (.ref 34), some (.int i)], [.int rJ1], 62, 3336, (mSH, J1, L)) _
  refine mB 2 (s2 := (11, 168, 541, [some (.ref 1000), some (.ref 0), some (.ref 34), some (.int i)], [.ref 34], 62, 3336, (mSH, J1, L))) rfl ?_
  refine mCall (s2 := (10, 137, 0, [some (.ref 34)], [], 0, 0, (mSH, J1, L))) rfl ?_
  (obtain ⟨sK2, nK2, tK2, mK2⟩ := hR.2.1.fr fJ1 (by rfl) (by rfl) (by rfl) (by rfl)); refine m_begins mK2 (fun rK2 K2 LK2 xK2 yK2  => ?_)
  show mWP mTb_ mFT ro (11, 168, 544, [some (.ref 1000), some (.ref 0), some (.ref 34), some (.int i)], [.int rK2], 62, 3336, (mSH, K2, LK2)) _
  refine mB 2 (s2 := (11, 168, 807, [some (.ref 1000), some (.ref 0), some (.ref 34), some (.int i)], [], 62, 3336, (mSH, K2, LK2))) rfl ?_
  (exact hq _ _ ⟨cJ1.fr xK2.1 (by decide), yK2, ⟨⟨by rw [xK2.1 2 rfl, xK2.2 1 rfl, fJ1 2 rfl, fJ1 34 rfl]; exact hR.2.2.1.1.1, by rw [xK2.1 4 rfl, xK2.2 3 rfl, fJ1 4 rfl, fJ1 34 rfl]; exact hR.2.2.1.1.2.1, by rw [xK2.1 1 rfl, xK2.2 4 rfl, fJ1 1 rfl, fJ1 34 rfl]; exact hR.2.2.1.1.2.2.1, by rw [xK2.1 26 rfl, xK2.2 11 rfl, fJ1 26 rfl, fJ1 34 rfl]; exact hR.2.2.1.1.2.2.2⟩, by rw [xK2.1 3 rfl, xK2.1 35 rfl, fJ1 3 rfl, fJ1 35 rfl]; exact hR.2.2.1.2.1, by rw [xK2.1 5 rfl, xK2.1 36 rfl, fJ1 5 rfl, fJ1 36 rfl]; exact hR.2.2.1.2.2.1, by rw [xK2.1 27 rfl, xK2.1 40 rfl, fJ1 27 rfl, fJ1 40 rfl]; exact hR.2.2.1.2.2.2.1, by rw [xK2.1 6 rfl, xK2.1 37 rfl, fJ1 6 rfl, fJ1 37 rfl]; exact hR.2.2.1.2.2.2.2.1, by rw [xK2.1 9 rfl, xK2.1 38 rfl, fJ1 9 rfl, fJ1 38 rfl]; exact hR.2.2.1.2.2.2.2.2⟩, by rw [xK2.2 4 rfl, fJ1 34 rfl]; exact hR.2.2.2.1, by rw [xK2.1 37 rfl, fJ1 37 rfl]; exact hR.2.2.2.2.1, by rw [xK2.1 38 rfl, fJ1 38 rfl]; exact hR.2.2.2.2.2.1, by rw [xK2.1 7 rfl, fJ1 7 rfl]; exact hR.2.2.2.2.2.2⟩)
theorem c_from {ro : Nat → Nat × (Nat → Int32)} {Q : mPo} {I : Nat → Nat → Int32} {L : Nat → Nat → Int64} {i : Int32} (hR : mR I) (hJ : mRJ ro) (hB : mRB ro) (hv1 : vp_in (i + 1) (ro 0).1) (hv2 : vp_in (i + 2) (ro 0).1) (hv3 : vp_in (i + 3) (ro 0).1) (hq : ∀ I L, mR I → mWP mTb_ mFT ro (11, 168, 807, [some (.ref 1000), some (.ref 0), some (.ref 34), some (.int i)], [], 62, 3336, (mSH, I, L)) Q)   : mWP mTb_ mFT ro (11, 168, 548, [some (.ref 1000), some (.ref 0), some (.ref 34), some (.int i)], [], 62, 3336, (mSH, I, L)) Q := by
  refine mB 5 (s2 := (11, 168, 553, [some (.ref 1000), some (.ref 0), some (.ref 34), some (.int i)], [.int (i + 1), .ref 1000, .ref 0], 62, 3336, (mSH, I, L))) rfl ?_
  refine mRq (s2 := (11, 168, 554, [some (.ref 1000), some (.ref 0), some (.ref 34), some (.int i)], [.int ((ro 0).2 ((i + 1).toNatClampNeg)), .ref 0], 62, 3336, (mSH, I, L))) rfl (mVp_of hv1) ?_
  refine mCall (s2 := (10, 90, 0, [some (.ref 0), some (.int ((ro 0).2 ((i + 1).toNatClampNeg)))], [], 0, 0, (mSH, I, L))) rfl ?_
  refine u_from hR.1 (fun rJ1 J1 fJ1 cJ1  => ?_)
  show mWP mTb_ mFT ro (11, 168, 557, [some (.ref 1000), some (.ref 0), some (.ref 34), some (.int i)], [.int rJ1], 62, 3336, (mSH, J1, L)) _
  refine mB 6 (s2 := (11, 168, 563, [some (.ref 1000), some (.ref 0), some (.ref 34), some (.int i)], [.int (i + 1), .ref 1000, .ref 34], 62, 3336, (mSH, J1, L))) rfl ?_
  refine mRq (s2 := (11, 168, 564, [some (.ref 1000), some (.ref 0), some (.ref 34), some (.int i)], [.int ((ro 0).2 ((i + 1).toNatClampNeg)), .ref 34], 62, 3336, (mSH, J1, L))) rfl (mVp_of hv1) ?_
  refine mCall (s2 := (10, 138, 0, [some (.ref 34), some (.int ((ro 0).2 ((i + 1).toNatClampNeg)))], [], 0, 0, (mSH, J1, L))) rfl ?_
  (obtain ⟨sK2, nK2, tK2, mK2⟩ := hR.2.1.fr fJ1 (by rfl) (by rfl) (by rfl) (by rfl)); refine m_from mK2 (fun rK2 K2 LK2 xK2 yK2  => ?_)
  show mWP mTb_ mFT ro (11, 168, 567, [some (.ref 1000), some (.ref 0), some (.ref 34), some (.int i)], [.int rK2], 62, 3336, (mSH, K2, LK2)) _
  refine mB 2 (s2 := (11, 168, 807, [some (.ref 1000), some (.ref 0), some (.ref 34), some (.int i)], [], 62, 3336, (mSH, K2, LK2))) rfl ?_
  (exact hq _ _ ⟨cJ1.fr xK2.1 (by decide), yK2, ⟨⟨by rw [xK2.1 2 rfl, xK2.2 1 rfl, fJ1 2 rfl, fJ1 34 rfl]; exact hR.2.2.1.1.1, by rw [xK2.1 4 rfl, xK2.2 3 rfl, fJ1 4 rfl, fJ1 34 rfl]; exact hR.2.2.1.1.2.1, by rw [xK2.1 1 rfl, xK2.2 4 rfl, fJ1 1 rfl, fJ1 34 rfl]; exact hR.2.2.1.1.2.2.1, by rw [xK2.1 26 rfl, xK2.2 11 rfl, fJ1 26 rfl, fJ1 34 rfl]; exact hR.2.2.1.1.2.2.2⟩, by rw [xK2.1 3 rfl, xK2.1 35 rfl, fJ1 3 rfl, fJ1 35 rfl]; exact hR.2.2.1.2.1, by rw [xK2.1 5 rfl, xK2.1 36 rfl, fJ1 5 rfl, fJ1 36 rfl]; exact hR.2.2.1.2.2.1, by rw [xK2.1 27 rfl, xK2.1 40 rfl, fJ1 27 rfl, fJ1 40 rfl]; exact hR.2.2.1.2.2.2.1, by rw [xK2.1 6 rfl, xK2.1 37 rfl, fJ1 6 rfl, fJ1 37 rfl]; exact hR.2.2.1.2.2.2.2.1, by rw [xK2.1 9 rfl, xK2.1 38 rfl, fJ1 9 rfl, fJ1 38 rfl]; exact hR.2.2.1.2.2.2.2.2⟩, by rw [xK2.2 4 rfl, fJ1 34 rfl]; exact hR.2.2.2.1, by rw [xK2.1 37 rfl, fJ1 37 rfl]; exact hR.2.2.2.2.1, by rw [xK2.1 38 rfl, fJ1 38 rfl]; exact hR.2.2.2.2.2.1, by rw [xK2.1 7 rfl, fJ1 7 rfl]; exact hR.2.2.2.2.2.2⟩)
theorem c_mildest {ro : Nat → Nat × (Nat → Int32)} {Q : mPo} {I : Nat → Nat → Int32} {L : Nat → Nat → Int64} {i : Int32} (hR : mR I) (hJ : mRJ ro) (hB : mRB ro) (hv1 : vp_in (i + 1) (ro 0).1) (hv2 : vp_in (i + 2) (ro 0).1) (hv3 : vp_in (i + 3) (ro 0).1) (hq : ∀ I L, mR I → mWP mTb_ mFT ro (11, 168, 807, [some (.ref 1000), some (.ref 0), some (.ref 34), some (.int i)], [], 62, 3336, (mSH, I, L)) Q)   : mWP mTb_ mFT ro (11, 168, 571, [some (.ref 1000), some (.ref 0), some (.ref 34), some (.int i)], [], 62, 3336, (mSH, I, L)) Q := by
  refine mB 5 (s2 := (11, 168, 576, [some (.ref 1000), some (.ref 0), some (.ref 34), some (.int i)], [.int (i + 1), .ref 1000, .ref 0], 62, 3336, (mSH, I, L))) rfl ?_
  refine mRq (s2 := (11, 168, 577, [some (.ref 1000), some (.ref 0), some (.ref 34), some (.int i)], [.int ((ro 0).2 ((i + 1).toNatClampNeg)), .ref 0], 62, 3336, (mSH, I, L))) rfl (mVp_of hv1) ?_
  refine mCall (s2 := (10, 91, 0, [some (.ref 0), some (.int ((ro 0).2 ((i + 1).toNatClampNeg))), none, none, none, none], [], 0, 0, (mSH, I, L))) rfl ?_
  refine u_mildest hR.1 (fun rJ1 J1 fJ1 cJ1  => ?_)
  show mWP mTb_ mFT ro (11, 168, 580, [some (.ref 1000), some (.ref 0), some (.ref 34), some (.int i)], [.int rJ1], 62, 3336, (mSH, J1, L)) _
  refine mB 6 (s2 := (11, 168, 586, [some (.ref 1000), some (.ref 0), some (.ref 34), some (.int i)], [.int (i + 1), .ref 1000, .ref 34], 62, 3336, (mSH, J1, L))) rfl ?_
  refine mRq (s2 := (11, 168, 587, [some (.ref 1000), some (.ref 0), some (.ref 34), some (.int i)], [.int ((ro 0).2 ((i + 1).toNatClampNeg)), .ref 34], 62, 3336, (mSH, J1, L))) rfl (mVp_of hv1) ?_
  refine mCall (s2 := (10, 139, 0, [some (.ref 34), some (.int ((ro 0).2 ((i + 1).toNatClampNeg))), none, none, none], [], 0, 0, (mSH, J1, L))) rfl ?_
  (obtain ⟨sK2, nK2, tK2, mK2⟩ := hR.2.1.fr fJ1 (by rfl) (by rfl) (by rfl) (by rfl)); refine m_mildest mK2 (fun rK2 K2 LK2 xK2 yK2  => ?_)
  show mWP mTb_ mFT ro (11, 168, 590, [some (.ref 1000), some (.ref 0), some (.ref 34), some (.int i)], [.int rK2], 62, 3336, (mSH, K2, LK2)) _
  refine mB 2 (s2 := (11, 168, 807, [some (.ref 1000), some (.ref 0), some (.ref 34), some (.int i)], [], 62, 3336, (mSH, K2, LK2))) rfl ?_
  (exact hq _ _ ⟨cJ1.fr xK2.1 (by decide), yK2, ⟨⟨by rw [xK2.1 2 rfl, xK2.2 1 rfl, fJ1 2 rfl, fJ1 34 rfl]; exact hR.2.2.1.1.1, by rw [xK2.1 4 rfl, xK2.2 3 rfl, fJ1 4 rfl, fJ1 34 rfl]; exact hR.2.2.1.1.2.1, by rw [xK2.1 1 rfl, xK2.2 4 rfl, fJ1 1 rfl, fJ1 34 rfl]; exact hR.2.2.1.1.2.2.1, by rw [xK2.1 26 rfl, xK2.2 11 rfl, fJ1 26 rfl, fJ1 34 rfl]; exact hR.2.2.1.1.2.2.2⟩, by rw [xK2.1 3 rfl, xK2.1 35 rfl, fJ1 3 rfl, fJ1 35 rfl]; exact hR.2.2.1.2.1, by rw [xK2.1 5 rfl, xK2.1 36 rfl, fJ1 5 rfl, fJ1 36 rfl]; exact hR.2.2.1.2.2.1, by rw [xK2.1 27 rfl, xK2.1 40 rfl, fJ1 27 rfl, fJ1 40 rfl]; exact hR.2.2.1.2.2.2.1, by rw [xK2.1 6 rfl, xK2.1 37 rfl, fJ1 6 rfl, fJ1 37 rfl]; exact hR.2.2.1.2.2.2.2.1, by rw [xK2.1 9 rfl, xK2.1 38 rfl, fJ1 9 rfl, fJ1 38 rfl]; exact hR.2.2.1.2.2.2.2.2⟩, by rw [xK2.2 4 rfl, fJ1 34 rfl]; exact hR.2.2.2.1, by rw [xK2.1 37 rfl, fJ1 37 rfl]; exact hR.2.2.2.2.1, by rw [xK2.1 38 rfl, fJ1 38 rfl]; exact hR.2.2.2.2.2.1, by rw [xK2.1 7 rfl, fJ1 7 rfl]; exact hR.2.2.2.2.2.2⟩)
theorem c_unbound {ro : Nat → Nat × (Nat → Int32)} {Q : mPo} {I : Nat → Nat → Int32} {L : Nat → Nat → Int64} {i : Int32} (hR : mR I) (hJ : mRJ ro) (hB : mRB ro) (hv1 : vp_in (i + 1) (ro 0).1) (hv2 : vp_in (i + 2) (ro 0).1) (hv3 : vp_in (i + 3) (ro 0).1) (hq : ∀ I L, mR I → mWP mTb_ mFT ro (11, 168, 807, [some (.ref 1000), some (.ref 0), some (.ref 34), some (.int i)], [], 62, 3336, (mSH, I, L)) Q)   : mWP mTb_ mFT ro (11, 168, 594, [some (.ref 1000), some (.ref 0), some (.ref 34), some (.int i)], [], 62, 3336, (mSH, I, L)) Q := by
  refine mB 1 (s2 := (11, 168, 595, [some (.ref 1000), some (.ref 0), some (.ref 34), some (.int i)], [.ref 0], 62, 3336, (mSH, I, L))) rfl ?_
  refine mCall (s2 := (10, 92, 0, [some (.ref 0)], [], 0, 0, (mSH, I, L))) rfl ?_
  refine u_unbound hR.1 (fun rJ1 J1 fJ1 cJ1  => ?_)
  show mWP mTb_ mFT ro (11, 168, 598, [some (.ref 1000), some (.ref 0), some (.ref 34), some (.int i)], [.int rJ1], 62, 3336, (mSH, J1, L)) _
  refine mB 2 (s2 := (11, 168, 600, [some (.ref 1000), some (.ref 0), some (.ref 34), some (.int i)], [.ref 34], 62, 3336, (mSH, J1, L))) rfl ?_
  refine mCall (s2 := (10, 140, 0, [some (.ref 34)], [], 0, 0, (mSH, J1, L))) rfl ?_
  (obtain ⟨sK2, nK2, tK2, mK2⟩ := hR.2.1.fr fJ1 (by rfl) (by rfl) (by rfl) (by rfl)); refine m_unbound mK2 (fun rK2 K2 LK2 xK2 yK2  => ?_)
  show mWP mTb_ mFT ro (11, 168, 603, [some (.ref 1000), some (.ref 0), some (.ref 34), some (.int i)], [.int rK2], 62, 3336, (mSH, K2, LK2)) _
  refine mB 2 (s2 := (11, 168, 807, [some (.ref 1000), some (.ref 0), some (.ref 34), some (.int i)], [], 62, 3336, (mSH, K2, LK2))) rfl ?_
  (exact hq _ _ ⟨cJ1.fr xK2.1 (by decide), yK2, ⟨⟨by rw [xK2.1 2 rfl, xK2.2 1 rfl, fJ1 2 rfl, fJ1 34 rfl]; exact hR.2.2.1.1.1, by rw [xK2.1 4 rfl, xK2.2 3 rfl, fJ1 4 rfl, fJ1 34 rfl]; exact hR.2.2.1.1.2.1, by rw [xK2.1 1 rfl, xK2.2 4 rfl, fJ1 1 rfl, fJ1 34 rfl]; exact hR.2.2.1.1.2.2.1, by rw [xK2.1 26 rfl, xK2.2 11 rfl, fJ1 26 rfl, fJ1 34 rfl]; exact hR.2.2.1.1.2.2.2⟩, by rw [xK2.1 3 rfl, xK2.1 35 rfl, fJ1 3 rfl, fJ1 35 rfl]; exact hR.2.2.1.2.1, by rw [xK2.1 5 rfl, xK2.1 36 rfl, fJ1 5 rfl, fJ1 36 rfl]; exact hR.2.2.1.2.2.1, by rw [xK2.1 27 rfl, xK2.1 40 rfl, fJ1 27 rfl, fJ1 40 rfl]; exact hR.2.2.1.2.2.2.1, by rw [xK2.1 6 rfl, xK2.1 37 rfl, fJ1 6 rfl, fJ1 37 rfl]; exact hR.2.2.1.2.2.2.2.1, by rw [xK2.1 9 rfl, xK2.1 38 rfl, fJ1 9 rfl, fJ1 38 rfl]; exact hR.2.2.1.2.2.2.2.2⟩, by rw [xK2.2 4 rfl, fJ1 34 rfl]; exact hR.2.2.2.1, by rw [xK2.1 37 rfl, fJ1 37 rfl]; exact hR.2.2.2.2.1, by rw [xK2.1 38 rfl, fJ1 38 rfl]; exact hR.2.2.2.2.2.1, by rw [xK2.1 7 rfl, fJ1 7 rfl]; exact hR.2.2.2.2.2.2⟩)
theorem c_age {ro : Nat → Nat × (Nat → Int32)} {Q : mPo} {I : Nat → Nat → Int32} {L : Nat → Nat → Int64} {i : Int32} (hR : mR I) (hJ : mRJ ro) (hB : mRB ro) (hv1 : vp_in (i + 1) (ro 0).1) (hv2 : vp_in (i + 2) (ro 0).1) (hv3 : vp_in (i + 3) (ro 0).1) (hq : ∀ I L, mR I → mWP mTb_ mFT ro (11, 168, 807, [some (.ref 1000), some (.ref 0), some (.ref 34), some (.int i)], [], 62, 3336, (mSH, I, L)) Q)   : mWP mTb_ mFT ro (11, 168, 607, [some (.ref 1000), some (.ref 0), some (.ref 34), some (.int i)], [], 62, 3336, (mSH, I, L)) Q := by
  refine mB 5 (s2 := (11, 168, 612, [some (.ref 1000), some (.ref 0), some (.ref 34), some (.int i)], [.int (i + 1), .ref 1000, .ref 0], 62, 3336, (mSH, I, L))) rfl ?_
  refine mRq (s2 := (11, 168, 613, [some (.ref 1000), some (.ref 0), some (.ref 34), some (.int i)], [.int ((ro 0).2 ((i + 1).toNatClampNeg)), .ref 0], 62, 3336, (mSH, I, L))) rfl (mVp_of hv1) ?_
  refine mCall (s2 := (10, 93, 0, [some (.ref 0), some (.int ((ro 0).2 ((i + 1).toNatClampNeg)))], [], 0, 0, (mSH, I, L))) rfl ?_
  refine u_age hR.1 (fun rJ1 J1 fJ1 cJ1  => ?_)
  show mWP mTb_ mFT ro (11, 168, 616, [some (.ref 1000), some (.ref 0), some (.ref 34), some (.int i)], [.int rJ1], 62, 3336, (mSH, J1, L)) _
  refine mB 6 (s2 := (11, 168, 622, [some (.ref 1000), some (.ref 0), some (.ref 34), some (.int i)], [.int (i + 1), .ref 1000, .ref 34], 62, 3336, (mSH, J1, L))) rfl ?_
  refine mRq (s2 := (11, 168, 623, [some (.ref 1000), some (.ref 0), some (.ref 34), some (.int i)], [.int ((ro 0).2 ((i + 1).toNatClampNeg)), .ref 34], 62, 3336, (mSH, J1, L))) rfl (mVp_of hv1) ?_
  refine mCall (s2 := (10, 143, 0, [some (.ref 34), some (.int ((ro 0).2 ((i + 1).toNatClampNeg))), none, none, none, none, none], [], 0, 0, (mSH, J1, L))) rfl ?_
  (obtain ⟨sK2, nK2, tK2, mK2⟩ := hR.2.1.fr fJ1 (by rfl) (by rfl) (by rfl) (by rfl)); refine m_age mK2 (fun rK2 K2 LK2 xK2 yK2  => ?_)
  show mWP mTb_ mFT ro (11, 168, 626, [some (.ref 1000), some (.ref 0), some (.ref 34), some (.int i)], [.int rK2], 62, 3336, (mSH, K2, LK2)) _
  refine mB 2 (s2 := (11, 168, 807, [some (.ref 1000), some (.ref 0), some (.ref 34), some (.int i)], [], 62, 3336, (mSH, K2, LK2))) rfl ?_
  (exact hq _ _ ⟨cJ1.fr xK2.1 (by decide), yK2, ⟨⟨by rw [xK2.1 2 rfl, xK2.2 1 rfl, fJ1 2 rfl, fJ1 34 rfl]; exact hR.2.2.1.1.1, by rw [xK2.1 4 rfl, xK2.2 3 rfl, fJ1 4 rfl, fJ1 34 rfl]; exact hR.2.2.1.1.2.1, by rw [xK2.1 1 rfl, xK2.2 4 rfl, fJ1 1 rfl, fJ1 34 rfl]; exact hR.2.2.1.1.2.2.1, by rw [xK2.1 26 rfl, xK2.2 11 rfl, fJ1 26 rfl, fJ1 34 rfl]; exact hR.2.2.1.1.2.2.2⟩, by rw [xK2.1 3 rfl, xK2.1 35 rfl, fJ1 3 rfl, fJ1 35 rfl]; exact hR.2.2.1.2.1, by rw [xK2.1 5 rfl, xK2.1 36 rfl, fJ1 5 rfl, fJ1 36 rfl]; exact hR.2.2.1.2.2.1, by rw [xK2.1 27 rfl, xK2.1 40 rfl, fJ1 27 rfl, fJ1 40 rfl]; exact hR.2.2.1.2.2.2.1, by rw [xK2.1 6 rfl, xK2.1 37 rfl, fJ1 6 rfl, fJ1 37 rfl]; exact hR.2.2.1.2.2.2.2.1, by rw [xK2.1 9 rfl, xK2.1 38 rfl, fJ1 9 rfl, fJ1 38 rfl]; exact hR.2.2.1.2.2.2.2.2⟩, by rw [xK2.2 4 rfl, fJ1 34 rfl]; exact hR.2.2.2.1, by rw [xK2.1 37 rfl, fJ1 37 rfl]; exact hR.2.2.2.2.1, by rw [xK2.1 38 rfl, fJ1 38 rfl]; exact hR.2.2.2.2.2.1, by rw [xK2.1 7 rfl, fJ1 7 rfl]; exact hR.2.2.2.2.2.2⟩)
theorem c_depth {ro : Nat → Nat × (Nat → Int32)} {Q : mPo} {I : Nat → Nat → Int32} {L : Nat → Nat → Int64} {i : Int32} (hR : mR I) (hJ : mRJ ro) (hB : mRB ro) (hv1 : vp_in (i + 1) (ro 0).1) (hv2 : vp_in (i + 2) (ro 0).1) (hv3 : vp_in (i + 3) (ro 0).1) (hq : ∀ I L, mR I → mWP mTb_ mFT ro (11, 168, 807, [some (.ref 1000), some (.ref 0), some (.ref 34), some (.int i)], [], 62, 3336, (mSH, I, L)) Q)   : mWP mTb_ mFT ro (11, 168, 630, [some (.ref 1000), some (.ref 0), some (.ref 34), some (.int i)], [], 62, 3336, (mSH, I, L)) Q := by
  refine mB 5 (s2 := (11, 168, 635, [some (.ref 1000), some (.ref 0), some (.ref 34), some (.int i)], [.int (i + 1), .ref 1000, .ref 0], 62, 3336, (mSH, I, L))) rfl ?_
  refine mRq (s2 := (11, 168, 636, [some (.ref 1000), some (.ref 0), some (.ref 34), some (.int i)], [.int ((ro 0).2 ((i + 1).toNatClampNeg)), .ref 0], 62, 3336, (mSH, I, L))) rfl (mVp_of hv1) ?_
  refine mCall (s2 := (10, 94, 0, [some (.ref 0), some (.int ((ro 0).2 ((i + 1).toNatClampNeg)))], [], 0, 0, (mSH, I, L))) rfl ?_
  refine u_depth hR.1 (fun rJ1 J1 fJ1 cJ1  => ?_)
  show mWP mTb_ mFT ro (11, 168, 639, [some (.ref 1000), some (.ref 0), some (.ref 34), some (.int i)], [.int rJ1], 62, 3336, (mSH, J1, L)) _
  refine mB 6 (s2 := (11, 168, 645, [some (.ref 1000), some (.ref 0), some (.ref 34), some (.int i)], [.int (i + 1), .ref 1000, .ref 34], 62, 3336, (mSH, J1, L))) rfl ?_
  refine mRq (s2 := (11, 168, 646, [some (.ref 1000), some (.ref 0), some (.ref 34), some (.int i)], [.int ((ro 0).2 ((i + 1).toNatClampNeg)), .ref 34], 62, 3336, (mSH, J1, L))) rfl (mVp_of hv1) ?_
  refine mCall (s2 := (10, 144, 0, [some (.ref 34), some (.int ((ro 0).2 ((i + 1).toNatClampNeg))), none, none, none, none, none], [], 0, 0, (mSH, J1, L))) rfl ?_
  (obtain ⟨sK2, nK2, tK2, mK2⟩ := hR.2.1.fr fJ1 (by rfl) (by rfl) (by rfl) (by rfl)); refine m_depth mK2 (fun rK2 K2 LK2 xK2 yK2  => ?_)
  show mWP mTb_ mFT ro (11, 168, 649, [some (.ref 1000), some (.ref 0), some (.ref 34), some (.int i)], [.int rK2], 62, 3336, (mSH, K2, LK2)) _
  refine mB 2 (s2 := (11, 168, 807, [some (.ref 1000), some (.ref 0), some (.ref 34), some (.int i)], [], 62, 3336, (mSH, K2, LK2))) rfl ?_
  (exact hq _ _ ⟨cJ1.fr xK2.1 (by decide), yK2, ⟨⟨by rw [xK2.1 2 rfl, xK2.2 1 rfl, fJ1 2 rfl, fJ1 34 rfl]; exact hR.2.2.1.1.1, by rw [xK2.1 4 rfl, xK2.2 3 rfl, fJ1 4 rfl, fJ1 34 rfl]; exact hR.2.2.1.1.2.1, by rw [xK2.1 1 rfl, xK2.2 4 rfl, fJ1 1 rfl, fJ1 34 rfl]; exact hR.2.2.1.1.2.2.1, by rw [xK2.1 26 rfl, xK2.2 11 rfl, fJ1 26 rfl, fJ1 34 rfl]; exact hR.2.2.1.1.2.2.2⟩, by rw [xK2.1 3 rfl, xK2.1 35 rfl, fJ1 3 rfl, fJ1 35 rfl]; exact hR.2.2.1.2.1, by rw [xK2.1 5 rfl, xK2.1 36 rfl, fJ1 5 rfl, fJ1 36 rfl]; exact hR.2.2.1.2.2.1, by rw [xK2.1 27 rfl, xK2.1 40 rfl, fJ1 27 rfl, fJ1 40 rfl]; exact hR.2.2.1.2.2.2.1, by rw [xK2.1 6 rfl, xK2.1 37 rfl, fJ1 6 rfl, fJ1 37 rfl]; exact hR.2.2.1.2.2.2.2.1, by rw [xK2.1 9 rfl, xK2.1 38 rfl, fJ1 9 rfl, fJ1 38 rfl]; exact hR.2.2.1.2.2.2.2.2⟩, by rw [xK2.2 4 rfl, fJ1 34 rfl]; exact hR.2.2.2.1, by rw [xK2.1 37 rfl, fJ1 37 rfl]; exact hR.2.2.2.2.1, by rw [xK2.1 38 rfl, fJ1 38 rfl]; exact hR.2.2.2.2.2.1, by rw [xK2.1 7 rfl, fJ1 7 rfl]; exact hR.2.2.2.2.2.2⟩)
theorem c_rate {ro : Nat → Nat × (Nat → Int32)} {Q : mPo} {I : Nat → Nat → Int32} {L : Nat → Nat → Int64} {i : Int32} (hR : mR I) (hJ : mRJ ro) (hB : mRB ro) (hv1 : vp_in (i + 1) (ro 0).1) (hv2 : vp_in (i + 2) (ro 0).1) (hv3 : vp_in (i + 3) (ro 0).1) (hq : ∀ I L, mR I → mWP mTb_ mFT ro (11, 168, 807, [some (.ref 1000), some (.ref 0), some (.ref 34), some (.int i)], [], 62, 3336, (mSH, I, L)) Q)   : mWP mTb_ mFT ro (11, 168, 653, [some (.ref 1000), some (.ref 0), some (.ref 34), some (.int i)], [], 62, 3336, (mSH, I, L)) Q := by
  refine mB 5 (s2 := (11, 168, 658, [some (.ref 1000), some (.ref 0), some (.ref 34), some (.int i)], [.int (i + 1), .ref 1000, .ref 0], 62, 3336, (mSH, I, L))) rfl ?_
  refine mRq (s2 := (11, 168, 659, [some (.ref 1000), some (.ref 0), some (.ref 34), some (.int i)], [.int ((ro 0).2 ((i + 1).toNatClampNeg)), .ref 0], 62, 3336, (mSH, I, L))) rfl (mVp_of hv1) ?_
  refine mCall (s2 := (10, 95, 0, [some (.ref 0), some (.int ((ro 0).2 ((i + 1).toNatClampNeg)))], [], 0, 0, (mSH, I, L))) rfl ?_
  refine u_rate hR.1 (fun rJ1 J1 fJ1 cJ1  => ?_)
  show mWP mTb_ mFT ro (11, 168, 662, [some (.ref 1000), some (.ref 0), some (.ref 34), some (.int i)], [.int rJ1], 62, 3336, (mSH, J1, L)) _
  refine mB 6 (s2 := (11, 168, 668, [some (.ref 1000), some (.ref 0), some (.ref 34), some (.int i)], [.int (i + 1), .ref 1000, .ref 34], 62, 3336, (mSH, J1, L))) rfl ?_
  refine mRq (s2 := (11, 168, 669, [some (.ref 1000), some (.ref 0), some (.ref 34), some (.int i)], [.int ((ro 0).2 ((i + 1).toNatClampNeg)), .ref 34], 62, 3336, (mSH, J1, L))) rfl (mVp_of hv1) ?_
  refine mCall (s2 := (10, 146, 0, [some (.ref 34), some (.int ((ro 0).2 ((i + 1).toNatClampNeg)))], [], 0, 0, (mSH, J1, L))) rfl ?_
  (obtain ⟨sK2, nK2, tK2, mK2⟩ := hR.2.1.fr fJ1 (by rfl) (by rfl) (by rfl) (by rfl)); refine m_rate mK2 (fun rK2 K2 LK2 xK2 yK2  => ?_)
  show mWP mTb_ mFT ro (11, 168, 672, [some (.ref 1000), some (.ref 0), some (.ref 34), some (.int i)], [.int rK2], 62, 3336, (mSH, K2, LK2)) _
  refine mB 2 (s2 := (11, 168, 807, [some (.ref 1000), some (.ref 0), some (.ref 34), some (.int i)], [], 62, 3336, (mSH, K2, LK2))) rfl ?_
  (exact hq _ _ ⟨cJ1.fr xK2.1 (by decide), yK2, ⟨⟨by rw [xK2.1 2 rfl, xK2.2 1 rfl, fJ1 2 rfl, fJ1 34 rfl]; exact hR.2.2.1.1.1, by rw [xK2.1 4 rfl, xK2.2 3 rfl, fJ1 4 rfl, fJ1 34 rfl]; exact hR.2.2.1.1.2.1, by rw [xK2.1 1 rfl, xK2.2 4 rfl, fJ1 1 rfl, fJ1 34 rfl]; exact hR.2.2.1.1.2.2.1, by rw [xK2.1 26 rfl, xK2.2 11 rfl, fJ1 26 rfl, fJ1 34 rfl]; exact hR.2.2.1.1.2.2.2⟩, by rw [xK2.1 3 rfl, xK2.1 35 rfl, fJ1 3 rfl, fJ1 35 rfl]; exact hR.2.2.1.2.1, by rw [xK2.1 5 rfl, xK2.1 36 rfl, fJ1 5 rfl, fJ1 36 rfl]; exact hR.2.2.1.2.2.1, by rw [xK2.1 27 rfl, xK2.1 40 rfl, fJ1 27 rfl, fJ1 40 rfl]; exact hR.2.2.1.2.2.2.1, by rw [xK2.1 6 rfl, xK2.1 37 rfl, fJ1 6 rfl, fJ1 37 rfl]; exact hR.2.2.1.2.2.2.2.1, by rw [xK2.1 9 rfl, xK2.1 38 rfl, fJ1 9 rfl, fJ1 38 rfl]; exact hR.2.2.1.2.2.2.2.2⟩, by rw [xK2.2 4 rfl, fJ1 34 rfl]; exact hR.2.2.2.1, by rw [xK2.1 37 rfl, fJ1 37 rfl]; exact hR.2.2.2.2.1, by rw [xK2.1 38 rfl, fJ1 38 rfl]; exact hR.2.2.2.2.2.1, by rw [xK2.1 7 rfl, fJ1 7 rfl]; exact hR.2.2.2.2.2.2⟩)
theorem c_fastest {ro : Nat → Nat × (Nat → Int32)} {Q : mPo} {I : Nat → Nat → Int32} {L : Nat → Nat → Int64} {i : Int32} (hR : mR I) (hJ : mRJ ro) (hB : mRB ro) (hv1 : vp_in (i + 1) (ro 0).1) (hv2 : vp_in (i + 2) (ro 0).1) (hv3 : vp_in (i + 3) (ro 0).1) (hq : ∀ I L, mR I → mWP mTb_ mFT ro (11, 168, 807, [some (.ref 1000), some (.ref 0), some (.ref 34), some (.int i)], [], 62, 3336, (mSH, I, L)) Q)   : mWP mTb_ mFT ro (11, 168, 676, [some (.ref 1000), some (.ref 0), some (.ref 34), some (.int i)], [], 62, 3336, (mSH, I, L)) Q := by
  refine mB 5 (s2 := (11, 168, 681, [some (.ref 1000), some (.ref 0), some (.ref 34), some (.int i)], [.int (i + 1), .ref 1000, .ref 0], 62, 3336, (mSH, I, L))) rfl ?_
  refine mRq (s2 := (11, 168, 682, [some (.ref 1000), some (.ref 0), some (.ref 34), some (.int i)], [.int ((ro 0).2 ((i + 1).toNatClampNeg)), .ref 0], 62, 3336, (mSH, I, L))) rfl (mVp_of hv1) ?_
  refine mCall (s2 := (10, 96, 0, [some (.ref 0), some (.int ((ro 0).2 ((i + 1).toNatClampNeg)))], [], 0, 0, (mSH, I, L))) rfl ?_
  obtain ⟨T, B, kd, g, pe, hO, hC, hM⟩ := pm_of hR; refine v_fastest hR.1 hO hC (fun rJ1 J1 fJ1 cJ1 e0J1 => ?_)
  show mWP mTb_ mFT ro (11, 168, 685, [some (.ref 1000), some (.ref 0), some (.ref 34), some (.int i)], [.int rJ1], 62, 3336, (mSH, J1, L)) _
  refine mB 5 (s2 := (11, 168, 690, [some (.ref 1000), some (.ref 0), some (.ref 34), some (.int i)], [.int (i + 1), .ref 1000, .ref 34, .int rJ1], 62, 3336, (mSH, J1, L))) rfl ?_
  refine mRq (s2 := (11, 168, 691, [some (.ref 1000), some (.ref 0), some (.ref 34), some (.int i)], [.int ((ro 0).2 ((i + 1).toNatClampNeg)), .ref 34, .int rJ1], 62, 3336, (mSH, J1, L))) rfl (mVp_of hv1) ?_
  refine mCall (s2 := (10, 147, 0, [some (.ref 34), some (.int ((ro 0).2 ((i + 1).toNatClampNeg))), none, none, none], [], 0, 0, (mSH, J1, L))) rfl ?_
  (obtain ⟨sK2, nK2, tK2, mK2⟩ := hR.2.1.fr fJ1 (by rfl) (by rfl) (by rfl) (by rfl)); refine v_nfastest mK2 hO (hM.fr fJ1 rfl rfl rfl rfl rfl) (fun rK2 K2 LK2 xK2 yK2 e0K2 => ?_)
  show mWP mTb_ mFT ro (11, 168, 694, [some (.ref 1000), some (.ref 0), some (.ref 34), some (.int i)], [.int rK2, .int rJ1], 62, 3336, (mSH, K2, LK2)) _
  refine mBr (s2 := (11, 168, 807, [some (.ref 1000), some (.ref 0), some (.ref 34), some (.int i)], [], 62, 3336, (mSH, K2, LK2))) (s3 := (11, 168, 697, [some (.ref 1000), some (.ref 0), some (.ref 34), some (.int i)], [], 62, 3336, (mSH, K2, LK2))) rfl (fun c0 => ?_) (fun c0 => ?_)
  · (exact hq _ _ ⟨cJ1.fr xK2.1 (by decide), yK2, ⟨⟨by rw [xK2.1 2 rfl, xK2.2 1 rfl, fJ1 2 rfl, fJ1 34 rfl]; exact hR.2.2.1.1.1, by rw [xK2.1 4 rfl, xK2.2 3 rfl, fJ1 4 rfl, fJ1 34 rfl]; exact hR.2.2.1.1.2.1, by rw [xK2.1 1 rfl, xK2.2 4 rfl, fJ1 1 rfl, fJ1 34 rfl]; exact hR.2.2.1.1.2.2.1, by rw [xK2.1 26 rfl, xK2.2 11 rfl, fJ1 26 rfl, fJ1 34 rfl]; exact hR.2.2.1.1.2.2.2⟩, by rw [xK2.1 3 rfl, xK2.1 35 rfl, fJ1 3 rfl, fJ1 35 rfl]; exact hR.2.2.1.2.1, by rw [xK2.1 5 rfl, xK2.1 36 rfl, fJ1 5 rfl, fJ1 36 rfl]; exact hR.2.2.1.2.2.1, by rw [xK2.1 27 rfl, xK2.1 40 rfl, fJ1 27 rfl, fJ1 40 rfl]; exact hR.2.2.1.2.2.2.1, by rw [xK2.1 6 rfl, xK2.1 37 rfl, fJ1 6 rfl, fJ1 37 rfl]; exact hR.2.2.1.2.2.2.2.1, by rw [xK2.1 9 rfl, xK2.1 38 rfl, fJ1 9 rfl, fJ1 38 rfl]; exact hR.2.2.1.2.2.2.2.2⟩, by rw [xK2.2 4 rfl, fJ1 34 rfl]; exact hR.2.2.2.1, by rw [xK2.1 37 rfl, fJ1 37 rfl]; exact hR.2.2.2.2.1, by rw [xK2.1 38 rfl, fJ1 38 rfl]; exact hR.2.2.2.2.2.1, by rw [xK2.1 7 rfl, fJ1 7 rfl]; exact hR.2.2.2.2.2.2⟩)
  · refine mB 1 (s2 := (11, 168, 698, [some (.ref 1000), some (.ref 0), some (.ref 34), some (.int i)], [.int 0], 62, 3336, (mSH, K2, LK2))) rfl ?_
    refine mRt (r := (some (.int 0))) (h := (mSH, K2, LK2)) rfl rfl ?_
    exact absurd (e0J1.trans e0K2.symm) (of_decide_eq_false c0)
theorem c_part {ro : Nat → Nat × (Nat → Int32)} {Q : mPo} {I : Nat → Nat → Int32} {L : Nat → Nat → Int64} {i : Int32} (hR : mR I) (hJ : mRJ ro) (hB : mRB ro) (hv1 : vp_in (i + 1) (ro 0).1) (hv2 : vp_in (i + 2) (ro 0).1) (hv3 : vp_in (i + 3) (ro 0).1) (hq : ∀ I L, mR I → mWP mTb_ mFT ro (11, 168, 807, [some (.ref 1000), some (.ref 0), some (.ref 34), some (.int i)], [], 62, 3336, (mSH, I, L)) Q)   : mWP mTb_ mFT ro (11, 168, 699, [some (.ref 1000), some (.ref 0), some (.ref 34), some (.int i)], [], 62, 3336, (mSH, I, L)) Q := by
  refine mB 5 (s2 := (11, 168, 704, [some (.ref 1000), some (.ref 0), some (.ref 34), some (.int i)], [.int (i + 1), .ref 1000, .ref 0], 62, 3336, (mSH, I, L))) rfl ?_
  refine mRq (s2 := (11, 168, 705, [some (.ref 1000), some (.ref 0), some (.ref 34), some (.int i)], [.int ((ro 0).2 ((i + 1).toNatClampNeg)), .ref 0], 62, 3336, (mSH, I, L))) rfl (mVp_of hv1) ?_
  refine mCall (s2 := (10, 97, 0, [some (.ref 0), some (.int ((ro 0).2 ((i + 1).toNatClampNeg)))], [], 0, 0, (mSH, I, L))) rfl ?_
  refine u_part hR.1 (fun rJ1 J1 fJ1 cJ1  => ?_)
  show mWP mTb_ mFT ro (11, 168, 708, [some (.ref 1000), some (.ref 0), some (.ref 34), some (.int i)], [.int rJ1], 62, 3336, (mSH, J1, L)) _
  refine mB 6 (s2 := (11, 168, 714, [some (.ref 1000), some (.ref 0), some (.ref 34), some (.int i)], [.int (i + 1), .ref 1000, .ref 34], 62, 3336, (mSH, J1, L))) rfl ?_
  refine mRq (s2 := (11, 168, 715, [some (.ref 1000), some (.ref 0), some (.ref 34), some (.int i)], [.int ((ro 0).2 ((i + 1).toNatClampNeg)), .ref 34], 62, 3336, (mSH, J1, L))) rfl (mVp_of hv1) ?_
  refine mCall (s2 := (10, 148, 0, [some (.ref 34), some (.int ((ro 0).2 ((i + 1).toNatClampNeg)))], [], 0, 0, (mSH, J1, L))) rfl ?_
  (obtain ⟨sK2, nK2, tK2, mK2⟩ := hR.2.1.fr fJ1 (by rfl) (by rfl) (by rfl) (by rfl)); refine m_part mK2 (fun rK2 K2 LK2 xK2 yK2  => ?_)
  show mWP mTb_ mFT ro (11, 168, 718, [some (.ref 1000), some (.ref 0), some (.ref 34), some (.int i)], [.int rK2], 62, 3336, (mSH, K2, LK2)) _
  refine mB 2 (s2 := (11, 168, 807, [some (.ref 1000), some (.ref 0), some (.ref 34), some (.int i)], [], 62, 3336, (mSH, K2, LK2))) rfl ?_
  (exact hq _ _ ⟨cJ1.fr xK2.1 (by decide), yK2, ⟨⟨by rw [xK2.1 2 rfl, xK2.2 1 rfl, fJ1 2 rfl, fJ1 34 rfl]; exact hR.2.2.1.1.1, by rw [xK2.1 4 rfl, xK2.2 3 rfl, fJ1 4 rfl, fJ1 34 rfl]; exact hR.2.2.1.1.2.1, by rw [xK2.1 1 rfl, xK2.2 4 rfl, fJ1 1 rfl, fJ1 34 rfl]; exact hR.2.2.1.1.2.2.1, by rw [xK2.1 26 rfl, xK2.2 11 rfl, fJ1 26 rfl, fJ1 34 rfl]; exact hR.2.2.1.1.2.2.2⟩, by rw [xK2.1 3 rfl, xK2.1 35 rfl, fJ1 3 rfl, fJ1 35 rfl]; exact hR.2.2.1.2.1, by rw [xK2.1 5 rfl, xK2.1 36 rfl, fJ1 5 rfl, fJ1 36 rfl]; exact hR.2.2.1.2.2.1, by rw [xK2.1 27 rfl, xK2.1 40 rfl, fJ1 27 rfl, fJ1 40 rfl]; exact hR.2.2.1.2.2.2.1, by rw [xK2.1 6 rfl, xK2.1 37 rfl, fJ1 6 rfl, fJ1 37 rfl]; exact hR.2.2.1.2.2.2.2.1, by rw [xK2.1 9 rfl, xK2.1 38 rfl, fJ1 9 rfl, fJ1 38 rfl]; exact hR.2.2.1.2.2.2.2.2⟩, by rw [xK2.2 4 rfl, fJ1 34 rfl]; exact hR.2.2.2.1, by rw [xK2.1 37 rfl, fJ1 37 rfl]; exact hR.2.2.2.2.1, by rw [xK2.1 38 rfl, fJ1 38 rfl]; exact hR.2.2.2.2.2.1, by rw [xK2.1 7 rfl, fJ1 7 rfl]; exact hR.2.2.2.2.2.2⟩)
theorem c_type {ro : Nat → Nat × (Nat → Int32)} {Q : mPo} {I : Nat → Nat → Int32} {L : Nat → Nat → Int64} {i : Int32} (hR : mR I) (hJ : mRJ ro) (hB : mRB ro) (hv1 : vp_in (i + 1) (ro 0).1) (hv2 : vp_in (i + 2) (ro 0).1) (hv3 : vp_in (i + 3) (ro 0).1) (hq : ∀ I L, mR I → mWP mTb_ mFT ro (11, 168, 807, [some (.ref 1000), some (.ref 0), some (.ref 34), some (.int i)], [], 62, 3336, (mSH, I, L)) Q)   : mWP mTb_ mFT ro (11, 168, 722, [some (.ref 1000), some (.ref 0), some (.ref 34), some (.int i)], [], 62, 3336, (mSH, I, L)) Q := by
  refine mB 5 (s2 := (11, 168, 727, [some (.ref 1000), some (.ref 0), some (.ref 34), some (.int i)], [.int (i + 1), .ref 1000, .ref 0], 62, 3336, (mSH, I, L))) rfl ?_
  refine mRq (s2 := (11, 168, 728, [some (.ref 1000), some (.ref 0), some (.ref 34), some (.int i)], [.int ((ro 0).2 ((i + 1).toNatClampNeg)), .ref 0], 62, 3336, (mSH, I, L))) rfl (mVp_of hv1) ?_
  refine mCall (s2 := (10, 98, 0, [some (.ref 0), some (.int ((ro 0).2 ((i + 1).toNatClampNeg)))], [], 0, 0, (mSH, I, L))) rfl ?_
  refine u_type hR.1 (fun rJ1 J1 fJ1 cJ1 e0J1 e1J1 e2J1 => ?_)
  show mWP mTb_ mFT ro (11, 168, 731, [some (.ref 1000), some (.ref 0), some (.ref 34), some (.int i)], [.int rJ1], 62, 3336, (mSH, J1, L)) _
  refine mB 6 (s2 := (11, 168, 737, [some (.ref 1000), some (.ref 0), some (.ref 34), some (.int i)], [.int (i + 1), .ref 1000, .ref 34], 62, 3336, (mSH, J1, L))) rfl ?_
  refine mRq (s2 := (11, 168, 738, [some (.ref 1000), some (.ref 0), some (.ref 34), some (.int i)], [.int ((ro 0).2 ((i + 1).toNatClampNeg)), .ref 34], 62, 3336, (mSH, J1, L))) rfl (mVp_of hv1) ?_
  refine mCall (s2 := (10, 149, 0, [some (.ref 34), some (.int ((ro 0).2 ((i + 1).toNatClampNeg)))], [], 0, 0, (mSH, J1, L))) rfl ?_
  (obtain ⟨sK2, nK2, tK2, mK2⟩ := hR.2.1.fr fJ1 (by rfl) (by rfl) (by rfl) (by rfl)); refine n_type mK2 (fun rK2 K2 LK2 xK2 yK2 e0K2 e1K2 e2K2 => ?_)
  show mWP mTb_ mFT ro (11, 168, 741, [some (.ref 1000), some (.ref 0), some (.ref 34), some (.int i)], [.int rK2], 62, 3336, (mSH, K2, LK2)) _
  refine mB 2 (s2 := (11, 168, 807, [some (.ref 1000), some (.ref 0), some (.ref 34), some (.int i)], [], 62, 3336, (mSH, K2, LK2))) rfl ?_
  (exact hq _ _ ⟨cJ1.fr xK2.1 (by decide), yK2, ⟨⟨by rw [xK2.1 2 rfl, xK2.2 1 rfl, fJ1 2 rfl, fJ1 34 rfl]; exact hR.2.2.1.1.1, by rw [xK2.1 4 rfl, xK2.2 3 rfl, fJ1 4 rfl, fJ1 34 rfl]; exact hR.2.2.1.1.2.1, by rw [xK2.1 1 rfl, xK2.2 4 rfl, fJ1 1 rfl, fJ1 34 rfl]; exact hR.2.2.1.1.2.2.1, by rw [xK2.1 26 rfl, e1J1, e1K2, fJ1 34 rfl, hR.2.2.1.1.2.2.2]⟩, by rw [xK2.1 3 rfl, xK2.1 35 rfl, fJ1 3 rfl, fJ1 35 rfl]; exact hR.2.2.1.2.1, by rw [xK2.1 5 rfl, xK2.1 36 rfl, fJ1 5 rfl, fJ1 36 rfl]; exact hR.2.2.1.2.2.1, fun j hj => by rw [xK2.1 27 rfl, e2J1, e2K2, fJ1 40 rfl, fJ1 34 rfl, hR.2.2.1.1.2.2.2]; exact kTyF_c (hR.2.2.1.2.2.2.1 j hj), by rw [xK2.1 6 rfl, xK2.1 37 rfl, fJ1 6 rfl, fJ1 37 rfl]; exact hR.2.2.1.2.2.2.2.1, by rw [xK2.1 9 rfl, xK2.1 38 rfl, fJ1 9 rfl, fJ1 38 rfl]; exact hR.2.2.1.2.2.2.2.2⟩, by rw [xK2.2 4 rfl, fJ1 34 rfl]; exact hR.2.2.2.1, by rw [xK2.1 37 rfl, fJ1 37 rfl]; exact hR.2.2.2.2.1, by rw [xK2.1 38 rfl, fJ1 38 rfl]; exact hR.2.2.2.2.2.1, by rw [xK2.1 7 rfl, fJ1 7 rfl]; exact hR.2.2.2.2.2.2⟩)
theorem c_clear {ro : Nat → Nat × (Nat → Int32)} {Q : mPo} {I : Nat → Nat → Int32} {L : Nat → Nat → Int64} {i : Int32} (hR : mR I) (hJ : mRJ ro) (hB : mRB ro) (hv1 : vp_in (i + 1) (ro 0).1) (hv2 : vp_in (i + 2) (ro 0).1) (hv3 : vp_in (i + 3) (ro 0).1) (hq : ∀ I L, mR I → mWP mTb_ mFT ro (11, 168, 807, [some (.ref 1000), some (.ref 0), some (.ref 34), some (.int i)], [], 62, 3336, (mSH, I, L)) Q)   : mWP mTb_ mFT ro (11, 168, 745, [some (.ref 1000), some (.ref 0), some (.ref 34), some (.int i)], [], 62, 3336, (mSH, I, L)) Q := by
  refine mB 1 (s2 := (11, 168, 746, [some (.ref 1000), some (.ref 0), some (.ref 34), some (.int i)], [.ref 0], 62, 3336, (mSH, I, L))) rfl ?_
  refine mCall (s2 := (10, 99, 0, [some (.ref 0)], [], 0, 0, (mSH, I, L))) rfl ?_
  refine t_clear hR.1 (fun rJ1 J1 fJ1 cJ1 e0J1 e1J1 => ?_)
  show mWP mTb_ mFT ro (11, 168, 749, [some (.ref 1000), some (.ref 0), some (.ref 34), some (.int i)], [.int rJ1], 62, 3336, (mSH, J1, L)) _
  refine mB 2 (s2 := (11, 168, 751, [some (.ref 1000), some (.ref 0), some (.ref 34), some (.int i)], [.ref 34], 62, 3336, (mSH, J1, L))) rfl ?_
  refine mCall (s2 := (10, 150, 0, [some (.ref 34), none], [], 0, 0, (mSH, J1, L))) rfl ?_
  (obtain ⟨sK2, nK2, tK2, mK2⟩ := hR.2.1.fr fJ1 (by rfl) (by rfl) (by rfl) (by rfl)); refine n_clear mK2 (fun rK2 K2 LK2 xK2 yK2 e0K2 e1K2 => ?_)
  show mWP mTb_ mFT ro (11, 168, 754, [some (.ref 1000), some (.ref 0), some (.ref 34), some (.int i)], [.int rK2], 62, 3336, (mSH, K2, LK2)) _
  refine mB 2 (s2 := (11, 168, 807, [some (.ref 1000), some (.ref 0), some (.ref 34), some (.int i)], [], 62, 3336, (mSH, K2, LK2))) rfl ?_
  (exact hq _ _ ⟨cJ1.fr xK2.1 (by decide), yK2, ⟨⟨by rw [xK2.1 2 rfl, xK2.2 1 rfl, fJ1 2 rfl, fJ1 34 rfl]; exact hR.2.2.1.1.1, by rw [xK2.1 4 rfl, xK2.2 3 rfl, fJ1 4 rfl, fJ1 34 rfl]; exact hR.2.2.1.1.2.1, by rw [xK2.1 1 rfl, xK2.2 4 rfl, fJ1 1 rfl, fJ1 34 rfl]; exact hR.2.2.1.1.2.2.1, by rw [xK2.1 26 rfl, e1J1, e1K2]⟩, by rw [xK2.1 3 rfl, xK2.1 35 rfl, fJ1 3 rfl, fJ1 35 rfl]; exact hR.2.2.1.2.1, by rw [xK2.1 5 rfl, xK2.1 36 rfl, fJ1 5 rfl, fJ1 36 rfl]; exact hR.2.2.1.2.2.1, by rw [xK2.1 27 rfl, xK2.1 40 rfl, fJ1 27 rfl, fJ1 40 rfl]; exact hR.2.2.1.2.2.2.1, by rw [xK2.1 6 rfl, xK2.1 37 rfl, fJ1 6 rfl, fJ1 37 rfl]; exact hR.2.2.1.2.2.2.2.1, by rw [xK2.1 9 rfl, xK2.1 38 rfl, fJ1 9 rfl, fJ1 38 rfl]; exact hR.2.2.1.2.2.2.2.2⟩, by rw [xK2.2 4 rfl, fJ1 34 rfl]; exact hR.2.2.2.1, by rw [xK2.1 37 rfl, fJ1 37 rfl]; exact hR.2.2.2.2.1, by rw [xK2.1 38 rfl, fJ1 38 rfl]; exact hR.2.2.2.2.2.1, by rw [xK2.1 7 rfl, fJ1 7 rfl]; exact hR.2.2.2.2.2.2⟩)
theorem c_reads {ro : Nat → Nat × (Nat → Int32)} {Q : mPo} {I : Nat → Nat → Int32} {L : Nat → Nat → Int64} {i : Int32} (hR : mR I) (hJ : mRJ ro) (hB : mRB ro) (hv1 : vp_in (i + 1) (ro 0).1) (hv2 : vp_in (i + 2) (ro 0).1) (hv3 : vp_in (i + 3) (ro 0).1) (hq : ∀ I L, mR I → mWP mTb_ mFT ro (11, 168, 807, [some (.ref 1000), some (.ref 0), some (.ref 34), some (.int i)], [], 62, 3336, (mSH, I, L)) Q)   : mWP mTb_ mFT ro (11, 168, 758, [some (.ref 1000), some (.ref 0), some (.ref 34), some (.int i)], [], 62, 3336, (mSH, I, L)) Q := by
  refine mB 1 (s2 := (11, 168, 759, [some (.ref 1000), some (.ref 0), some (.ref 34), some (.int i)], [.ref 0], 62, 3336, (mSH, I, L))) rfl ?_
  refine mCall (s2 := (10, 100, 0, [some (.ref 0)], [], 0, 0, (mSH, I, L))) rfl ?_
  obtain ⟨s0, n0, t0, m0⟩ := id hR.2.1; refine x_readsB (b := I 27) (t := t0) hR.1 m0.2.2.1.2 rfl (hR.2.2.1.1.2.2.2.trans m0.2.2.1.1) hB (fun rJ1 J1 fJ1 cJ1 e0J1 => ?_)
  show mWP mTb_ mFT ro (11, 168, 762, [some (.ref 1000), some (.ref 0), some (.ref 34), some (.int i)], [.int rJ1], 62, 3336, (mSH, J1, L)) _
  refine mB 2 (s2 := (11, 168, 764, [some (.ref 1000), some (.ref 0), some (.ref 34), some (.int i)], [.ref 34], 62, 3336, (mSH, J1, L))) rfl ?_
  refine mCall (s2 := (10, 156, 0, [some (.ref 34), none, none, none, none], [], 0, 0, (mSH, J1, L))) rfl ?_
  (obtain ⟨sK2, nK2, tK2, mK2⟩ := hR.2.1.fr fJ1 (by rfl) (by rfl) (by rfl) (by rfl)); refine y_reads (b := J1 40) mK2 rfl (fun rK2 K2 LK2 xK2 yK2 e0K2 => ?_)
  show mWP mTb_ mFT ro (11, 168, 767, [some (.ref 1000), some (.ref 0), some (.ref 34), some (.int i)], [.int rK2], 62, 3336, (mSH, K2, LK2)) _
  refine mB 2 (s2 := (11, 168, 807, [some (.ref 1000), some (.ref 0), some (.ref 34), some (.int i)], [], 62, 3336, (mSH, K2, LK2))) rfl ?_
  (have hk : kAll (kWdC (I 27) t0) (I 27) t0 = kAll (kWdM (J1 40) tK2) (J1 40) tK2 := (by rw [← kAll_mc m0.2.2.1.2, fJ1 40 rfl, xT m0 mK2 (fJ1 34 rfl)]; exact kAll_c (fun j hj => hR.2.2.1.2.2.2.1 j (by have := mK2.2.2.1.2; omega))); have z := xS_c (show xSC (kAll (kWdM (J1 40) tK2) (J1 40) tK2) I J1 by rw [← hk]; exact e0J1) e0K2 (fun c hc => xK2.1 c (mMem_sub (by decide) hc)) (fJ1 34 rfl) (fJ1 35 rfl) (fJ1 36 rfl) hR.2.2.1; exact hq _ _ ⟨cJ1.fr xK2.1 (by decide), yK2, ⟨⟨z.1, z.2.1, z.2.2.1, by rw [xK2.1 26 rfl, xK2.2 11 rfl, fJ1 26 rfl, fJ1 34 rfl]; exact hR.2.2.1.1.2.2.2⟩, z.2.2.2.1, z.2.2.2.2, by rw [xK2.1 27 rfl, xK2.1 40 rfl, fJ1 27 rfl, fJ1 40 rfl]; exact hR.2.2.1.2.2.2.1, by rw [xK2.1 6 rfl, xK2.1 37 rfl, fJ1 6 rfl, fJ1 37 rfl]; exact hR.2.2.1.2.2.2.2.1, by rw [xK2.1 9 rfl, xK2.1 38 rfl, fJ1 9 rfl, fJ1 38 rfl]; exact hR.2.2.1.2.2.2.2.2⟩, xX_rd (I := I) e0K2 (by rw [fJ1 34 rfl]; exact hR.2.2.2.1), by rw [xK2.1 37 rfl, fJ1 37 rfl]; exact hR.2.2.2.2.1, by rw [xK2.1 38 rfl, fJ1 38 rfl]; exact hR.2.2.2.2.2.1, by rw [xK2.1 7 rfl, fJ1 7 rfl]; exact hR.2.2.2.2.2.2⟩)
theorem c_told {ro : Nat → Nat × (Nat → Int32)} {Q : mPo} {I : Nat → Nat → Int32} {L : Nat → Nat → Int64} {i : Int32} (hR : mR I) (hJ : mRJ ro) (hB : mRB ro) (hv1 : vp_in (i + 1) (ro 0).1) (hv2 : vp_in (i + 2) (ro 0).1) (hv3 : vp_in (i + 3) (ro 0).1) (hq : ∀ I L, mR I → mWP mTb_ mFT ro (11, 168, 807, [some (.ref 1000), some (.ref 0), some (.ref 34), some (.int i)], [], 62, 3336, (mSH, I, L)) Q)   : mWP mTb_ mFT ro (11, 168, 771, [some (.ref 1000), some (.ref 0), some (.ref 34), some (.int i)], [], 62, 3336, (mSH, I, L)) Q := by
  refine mB 5 (s2 := (11, 168, 776, [some (.ref 1000), some (.ref 0), some (.ref 34), some (.int i)], [.int (i + 1), .ref 1000, .ref 0], 62, 3336, (mSH, I, L))) rfl ?_
  refine mRq (s2 := (11, 168, 777, [some (.ref 1000), some (.ref 0), some (.ref 34), some (.int i)], [.int ((ro 0).2 ((i + 1).toNatClampNeg)), .ref 0], 62, 3336, (mSH, I, L))) rfl (mVp_of hv1) ?_
  refine mCall (s2 := (10, 101, 0, [some (.ref 0), some (.int ((ro 0).2 ((i + 1).toNatClampNeg)))], [], 0, 0, (mSH, I, L))) rfl ?_
  refine u_told hR.1 (fun rJ1 J1 fJ1 cJ1  => ?_)
  show mWP mTb_ mFT ro (11, 168, 780, [some (.ref 1000), some (.ref 0), some (.ref 34), some (.int i)], [.int rJ1], 62, 3336, (mSH, J1, L)) _
  refine mB 6 (s2 := (11, 168, 786, [some (.ref 1000), some (.ref 0), some (.ref 34), some (.int i)], [.int (i + 1), .ref 1000, .ref 34], 62, 3336, (mSH, J1, L))) rfl ?_
  refine mRq (s2 := (11, 168, 787, [some (.ref 1000), some (.ref 0), some (.ref 34), some (.int i)], [.int ((ro 0).2 ((i + 1).toNatClampNeg)), .ref 34], 62, 3336, (mSH, J1, L))) rfl (mVp_of hv1) ?_
  refine mCall (s2 := (10, 158, 0, [some (.ref 34), some (.int ((ro 0).2 ((i + 1).toNatClampNeg)))], [], 0, 0, (mSH, J1, L))) rfl ?_
  (obtain ⟨sK2, nK2, tK2, mK2⟩ := hR.2.1.fr fJ1 (by rfl) (by rfl) (by rfl) (by rfl)); refine m_told mK2 (fun rK2 K2 LK2 xK2 yK2  => ?_)
  show mWP mTb_ mFT ro (11, 168, 790, [some (.ref 1000), some (.ref 0), some (.ref 34), some (.int i)], [.int rK2], 62, 3336, (mSH, K2, LK2)) _
  refine mB 2 (s2 := (11, 168, 807, [some (.ref 1000), some (.ref 0), some (.ref 34), some (.int i)], [], 62, 3336, (mSH, K2, LK2))) rfl ?_
  (exact hq _ _ ⟨cJ1.fr xK2.1 (by decide), yK2, ⟨⟨by rw [xK2.1 2 rfl, xK2.2 1 rfl, fJ1 2 rfl, fJ1 34 rfl]; exact hR.2.2.1.1.1, by rw [xK2.1 4 rfl, xK2.2 3 rfl, fJ1 4 rfl, fJ1 34 rfl]; exact hR.2.2.1.1.2.1, by rw [xK2.1 1 rfl, xK2.2 4 rfl, fJ1 1 rfl, fJ1 34 rfl]; exact hR.2.2.1.1.2.2.1, by rw [xK2.1 26 rfl, xK2.2 11 rfl, fJ1 26 rfl, fJ1 34 rfl]; exact hR.2.2.1.1.2.2.2⟩, by rw [xK2.1 3 rfl, xK2.1 35 rfl, fJ1 3 rfl, fJ1 35 rfl]; exact hR.2.2.1.2.1, by rw [xK2.1 5 rfl, xK2.1 36 rfl, fJ1 5 rfl, fJ1 36 rfl]; exact hR.2.2.1.2.2.1, by rw [xK2.1 27 rfl, xK2.1 40 rfl, fJ1 27 rfl, fJ1 40 rfl]; exact hR.2.2.1.2.2.2.1, by rw [xK2.1 6 rfl, xK2.1 37 rfl, fJ1 6 rfl, fJ1 37 rfl]; exact hR.2.2.1.2.2.2.2.1, by rw [xK2.1 9 rfl, xK2.1 38 rfl, fJ1 9 rfl, fJ1 38 rfl]; exact hR.2.2.1.2.2.2.2.2⟩, by rw [xK2.2 4 rfl, fJ1 34 rfl]; exact hR.2.2.2.1, by rw [xK2.1 37 rfl, fJ1 37 rfl]; exact hR.2.2.2.2.1, by rw [xK2.1 38 rfl, fJ1 38 rfl]; exact hR.2.2.2.2.2.1, by rw [xK2.1 7 rfl, fJ1 7 rfl]; exact hR.2.2.2.2.2.2⟩)
theorem c_digest {ro : Nat → Nat × (Nat → Int32)} {Q : mPo} {I : Nat → Nat → Int32} {L : Nat → Nat → Int64} {i : Int32} (hR : mR I) (hJ : mRJ ro) (hB : mRB ro) (hv1 : vp_in (i + 1) (ro 0).1) (hv2 : vp_in (i + 2) (ro 0).1) (hv3 : vp_in (i + 3) (ro 0).1) (hq : ∀ I L, mR I → mWP mTb_ mFT ro (11, 168, 807, [some (.ref 1000), some (.ref 0), some (.ref 34), some (.int i)], [], 62, 3336, (mSH, I, L)) Q)   : mWP mTb_ mFT ro (11, 168, 794, [some (.ref 1000), some (.ref 0), some (.ref 34), some (.int i)], [], 62, 3336, (mSH, I, L)) Q := by
  refine mB 1 (s2 := (11, 168, 795, [some (.ref 1000), some (.ref 0), some (.ref 34), some (.int i)], [.ref 0], 62, 3336, (mSH, I, L))) rfl ?_
  refine mCall (s2 := (10, 102, 0, [some (.ref 0), none, none, none], [], 0, 0, (mSH, I, L))) rfl ?_
  refine u_digest hR.1 (fun rJ1 J1 fJ1 cJ1  => ?_)
  show mWP mTb_ mFT ro (11, 168, 798, [some (.ref 1000), some (.ref 0), some (.ref 34), some (.int i)], [.long rJ1], 62, 3336, (mSH, J1, L)) _
  refine mB 2 (s2 := (11, 168, 800, [some (.ref 1000), some (.ref 0), some (.ref 34), some (.int i)], [.ref 34], 62, 3336, (mSH, J1, L))) rfl ?_
  refine mCall (s2 := (10, 159, 0, [some (.ref 34), none, none, none], [], 0, 0, (mSH, J1, L))) rfl ?_
  (obtain ⟨sK2, nK2, tK2, mK2⟩ := hR.2.1.fr fJ1 (by rfl) (by rfl) (by rfl) (by rfl)); refine m_digest mK2 (fun rK2 K2 LK2 xK2 yK2  => ?_)
  show mWP mTb_ mFT ro (11, 168, 803, [some (.ref 1000), some (.ref 0), some (.ref 34), some (.int i)], [.long rK2], 62, 3336, (mSH, K2, LK2)) _
  refine mB 2 (s2 := (11, 168, 807, [some (.ref 1000), some (.ref 0), some (.ref 34), some (.int i)], [], 62, 3336, (mSH, K2, LK2))) rfl ?_
  (exact hq _ _ ⟨cJ1.fr xK2.1 (by decide), yK2, ⟨⟨by rw [xK2.1 2 rfl, xK2.2 1 rfl, fJ1 2 rfl, fJ1 34 rfl]; exact hR.2.2.1.1.1, by rw [xK2.1 4 rfl, xK2.2 3 rfl, fJ1 4 rfl, fJ1 34 rfl]; exact hR.2.2.1.1.2.1, by rw [xK2.1 1 rfl, xK2.2 4 rfl, fJ1 1 rfl, fJ1 34 rfl]; exact hR.2.2.1.1.2.2.1, by rw [xK2.1 26 rfl, xK2.2 11 rfl, fJ1 26 rfl, fJ1 34 rfl]; exact hR.2.2.1.1.2.2.2⟩, by rw [xK2.1 3 rfl, xK2.1 35 rfl, fJ1 3 rfl, fJ1 35 rfl]; exact hR.2.2.1.2.1, by rw [xK2.1 5 rfl, xK2.1 36 rfl, fJ1 5 rfl, fJ1 36 rfl]; exact hR.2.2.1.2.2.1, by rw [xK2.1 27 rfl, xK2.1 40 rfl, fJ1 27 rfl, fJ1 40 rfl]; exact hR.2.2.1.2.2.2.1, by rw [xK2.1 6 rfl, xK2.1 37 rfl, fJ1 6 rfl, fJ1 37 rfl]; exact hR.2.2.1.2.2.2.2.1, by rw [xK2.1 9 rfl, xK2.1 38 rfl, fJ1 9 rfl, fJ1 38 rfl]; exact hR.2.2.1.2.2.2.2.2⟩, by rw [xK2.2 4 rfl, fJ1 34 rfl]; exact hR.2.2.2.1, by rw [xK2.1 37 rfl, fJ1 37 rfl]; exact hR.2.2.2.2.1, by rw [xK2.1 38 rfl, fJ1 38 rfl]; exact hR.2.2.2.2.2.1, by rw [xK2.1 7 rfl, fJ1 7 rfl]; exact hR.2.2.2.2.2.2⟩)
