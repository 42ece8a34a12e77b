/-! reads of the class, exactly. Written by a program (wip/mk_c.py). -/
abbrev mSB : List Nat := [1, 2, 3, 4, 5, 28, 29, 30, 31, 32, 33]
theorem mFr.sub {S T : List Nat} {I J : Nat → Nat → Int32} (h : S.all (mMem T) = true) (f : mFr S I J) : mFr T I J := fun c hc => f c (mMem_sub h hc)
theorem mRk.eq {I J : Nat → Nat → Int32} (e1 : J 18 = I 18) (e2 : J 19 = I 19) (h : mRk I) : mRk J := by
  unfold mRk
  rw [e1, e2]
  exact h
theorem xSC_no {I J : Nat → Nat → Int32} {w : Option (List Int32 × Int32 × List Int32)} (hw : w = none) (f : mFr mSR I J) : xSC w I J := by
  subst hw
  exact ⟨congrFun (f 1 rfl) 2, congrFun (f 2 rfl) 1, congrFun (f 4 rfl) 1, f 3 rfl, f 5 rfl⟩
theorem xSC_yes {I J : Nat → Nat → Int32} {w : Option (List Int32 × Int32 × List Int32)} {ys ls : List Int32} {so : Int32} (hw : w = some (ys, so, ls)) (h1 : J 1 2 = so) (h2 : J 2 1 = nI ys.length) (h3 : J 4 1 = nI ls.length) (h4 : ∀ j, J 3 j = if j < ys.length then ys.getD j 0 else I 3 j) (h5 : ∀ j, J 5 j = if j < ls.length then ls.getD j 0 else I 5 j) : xSC w I J := by
  subst hw
  exact ⟨h1, h2, h3, h4, h5⟩
theorem x_readsB {ro : Nat → Nat × (Nat → Int32)} {Q : mPo} {d : Nat} {I : Nat → Nat → Int32} {L : Nat → Nat → Int64} {t : Nat} {b : Nat → Int32} (hI : mIC I) (h120 : t ≤ 120) (hb : I 27 = b) (ht : I 26 1 = nI t) (hB : mRB ro) (hq : ∀ r I1, mFr mSB I I1 → mIC I1 → xSC (kAll (kWdC b t) b t) I I1 → Q (some (.int r)) (mSH, I1, L))   : mWP mTb_ mFT ro (d + 7, 100, 0, [some (.ref 0)], [], 0, 0, (mSH, I, L)) Q := by
  refine mB 2 (s2 := (d + 7, 100, 4, [some (.ref 0)], [.ref 28], 0, 0, (mSH, I, L))) rfl ?_
  refine mCall (s2 := (d + 6, 28, 0, [some (.ref 28)], [], 0, 0, (mSH, I, L))) rfl ?_
  refine x_readsAll h120 hb ht hB ?_ ?_
  · intro k0 K1 f1 c30 c32
    show mWP mTb_ mFT ro (d + 7, 100, 7, [some (.ref 0)], [.int 0], 0, 0, (mSH, K1, L)) _
    refine mBT (s2 := (d + 7, 100, 10, [some (.ref 0)], [], 0, 0, (mSH, K1, L))) rfl (by decide) ?_
    refine mB 5 (s2 := (d + 7, 100, 20, [some (.ref 0)], [.int ((-10) - (K1 28 2))], 0, 0, (mSH, K1, L))) rfl ?_
    refine mRt (r := (some (.int ((-10) - (K1 28 2))))) (h := (mSH, K1, L)) rfl (mRet_int rfl) ?_
    exact hq _ _ (mFr.sub (by decide) f1) ⟨mCn.eqr (f1 2 rfl) hI.1, mCn.eqr (f1 4 rfl) hI.2.1, mCn.eqr (f1 23 rfl) hI.2.2.1, mCn.eqr (f1 26 rfl) hI.2.2.2.1, c30, c32, mRk.eq (f1 18 rfl) (f1 19 rfl) hI.2.2.2.2.2.2⟩ (xSC_no k0 f1)
  · intro ys so ls k1 m1 m2 K1 f1 r30 r32 s29
    show mWP mTb_ mFT ro (d + 7, 100, 7, [some (.ref 0)], [.int 1], 0, 0, (mSH, K1, L)) _
    refine mBF (s3 := (d + 7, 100, 21, [some (.ref 0)], [], 0, 0, (mSH, K1, L))) rfl (by decide) ?_
    refine mB 5 (s2 := (d + 7, 100, 32, [some (.ref 0)], [.ref 29, .ref 1], 0, 0, (mSH, K1, L))) rfl ?_
    refine mCall (s2 := (d + 6, 70, 0, [some (.ref 1), some (.ref 29)], [], 0, 0, (mSH, K1, L))) rfl ?_
    refine mB 4 (s2 := (d + 6, 70, 8, [some (.ref 1), some (.ref 29)], [.ref 30, .ref 2], 0, 0, (mSH, K1, L))) rfl ?_
    refine mCall (s2 := (d + 5, 46, 0, [some (.ref 2), some (.ref 30), none], [], 0, 0, (mSH, K1, L))) rfl ?_
    refine x_like_2 m1 r30 (fun K2 f2 e2 v2 => ?_)
    show mWP mTb_ mFT ro (d + 6, 70, 11, [some (.ref 1), some (.ref 29)], [], 0, 0, (mSH, K2, L)) _
    refine mB 4 (s2 := (d + 6, 70, 19, [some (.ref 1), some (.ref 29)], [.ref 32, .ref 4], 0, 0, (mSH, K2, L))) rfl ?_
    refine mCall (s2 := (d + 5, 46, 0, [some (.ref 4), some (.ref 32), none], [], 0, 0, (mSH, K2, L))) rfl ?_
    refine x_like_4 m2 (xRw.eq (f2 32 (by omega) (by omega)) (f2 33 (by omega) (by omega)) r32) (fun K3 f3 e3 v3 => ?_)
    show mWP mTb_ mFT ro (d + 6, 70, 22, [some (.ref 1), some (.ref 29)], [], 0, 0, (mSH, K3, L)) _
    refine mB 4 (s2 := (d + 6, 70, 30, [some (.ref 1), some (.ref 29)], [], 0, 0, (mSH, (mUp K3 1 2 (K3 29 2)), L))) rfl ?_
    refine mRt (r := none) (h := (mSH, (mUp K3 1 2 (K3 29 2)), L)) rfl rfl ?_
    show mWP mTb_ mFT ro (d + 7, 100, 35, [some (.ref 0)], [], 0, 0, (mSH, (mUp K3 1 2 (K3 29 2)), L)) _
    refine mB 3 (s2 := (d + 7, 100, 42, [some (.ref 0)], [.ref 2], 0, 0, (mSH, (mUp K3 1 2 (K3 29 2)), L))) rfl ?_
    refine mCall (s2 := (d + 6, 39, 0, [some (.ref 2)], [], 0, 0, (mSH, (mUp K3 1 2 (K3 29 2)), L))) rfl ?_
    refine mB 2 (s2 := (d + 6, 39, 4, [some (.ref 2)], [.int (K3 2 1)], 0, 0, (mSH, (mUp K3 1 2 (K3 29 2)), L))) rfl ?_
    refine mRt (r := (some (.int (K3 2 1)))) (h := (mSH, (mUp K3 1 2 (K3 29 2)), L)) rfl (mRet_int rfl) ?_
    show mWP mTb_ mFT ro (d + 7, 100, 45, [some (.ref 0)], [.int (K3 2 1)], 0, 0, (mSH, (mUp K3 1 2 (K3 29 2)), L)) _
    refine mB 3 (s2 := (d + 7, 100, 52, [some (.ref 0)], [.ref 4, .int (K3 2 1)], 0, 0, (mSH, (mUp K3 1 2 (K3 29 2)), L))) rfl ?_
    refine mCall (s2 := (d + 6, 39, 0, [some (.ref 4)], [], 0, 0, (mSH, (mUp K3 1 2 (K3 29 2)), L))) rfl ?_
    refine mB 2 (s2 := (d + 6, 39, 4, [some (.ref 4)], [.int (K3 4 1)], 0, 0, (mSH, (mUp K3 1 2 (K3 29 2)), L))) rfl ?_
    refine mRt (r := (some (.int (K3 4 1)))) (h := (mSH, (mUp K3 1 2 (K3 29 2)), L)) rfl (mRet_int rfl) ?_
    show mWP mTb_ mFT ro (d + 7, 100, 55, [some (.ref 0)], [.int (K3 4 1), .int (K3 2 1)], 0, 0, (mSH, (mUp K3 1 2 (K3 29 2)), L)) _
    refine mB 1 (s2 := (d + 7, 100, 56, [some (.ref 0)], [.int ((K3 2 1) + (K3 4 1))], 0, 0, (mSH, (mUp K3 1 2 (K3 29 2)), L))) rfl ?_
    refine mRt (r := (some (.int ((K3 2 1) + (K3 4 1))))) (h := (mSH, (mUp K3 1 2 (K3 29 2)), L)) rfl (mRet_int rfl) ?_
    exact hq _ _ (fun c hc => by rw [mUp_row (mMem_ne hc rfl), f3 c (mMem_ne hc rfl) (mMem_ne hc rfl), f2 c (mMem_ne hc rfl) (mMem_ne hc rfl)]; exact f1 c (mMem_sub (S := mSB) (by decide) hc)) ⟨mCn.of (I := mUp K3 1 2 (K3 29 2)) ((congrFun (f3 2 (by omega) (by omega)) 1).trans e2) m1 (by omega), mCn.of (I := mUp K3 1 2 (K3 29 2)) e3 m2 (by omega), mCn.eqr (J := mUp K3 1 2 (K3 29 2)) (((f3 23 (by omega) (by omega)).trans (f2 23 (by omega) (by omega))).trans (f1 23 rfl)) hI.2.2.1, mCn.eqr (J := mUp K3 1 2 (K3 29 2)) (((f3 26 (by omega) (by omega)).trans (f2 26 (by omega) (by omega))).trans (f1 26 rfl)) hI.2.2.2.1, mCn.eqr (J := mUp K3 1 2 (K3 29 2)) ((f3 30 (by omega) (by omega)).trans (f2 30 (by omega) (by omega))) (xRw.cn r30 m1 (by omega)), mCn.eqr (J := mUp K3 1 2 (K3 29 2)) ((f3 32 (by omega) (by omega)).trans (f2 32 (by omega) (by omega))) (xRw.cn r32 m2 (by omega)), mRk.eq (J := mUp K3 1 2 (K3 29 2)) (((f3 18 (by omega) (by omega)).trans (f2 18 (by omega) (by omega))).trans (f1 18 rfl)) (((f3 19 (by omega) (by omega)).trans (f2 19 (by omega) (by omega))).trans (f1 19 rfl)) hI.2.2.2.2.2.2⟩ (xSC_yes k1 ((congrFun ((f3 29 (by omega) (by omega)).trans (f2 29 (by omega) (by omega))) 2).trans s29) ((congrFun (f3 2 (by omega) (by omega)) 1).trans e2) e3 (fun j => by show K3 3 j = _; rw [f3 3 (by omega) (by omega), v2 j, f1 3 rfl]) (fun j => by show K3 5 j = _; rw [v3 j, f2 5 (by omega) (by omega), f1 5 rfl]))
