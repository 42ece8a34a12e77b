/-! The class reads it all, exactly. Written by a program (wip/mk_c.py). -/
theorem xRw.eq {q a : Nat} {l : List Int32} {I J : Nat → Nat → Int32} (e1 : J q = I q) (e2 : J a = I a) (h : xRw q a l I) : xRw q a l J := by
  unfold xRw
  rw [e1, e2]
  exact h
theorem xRw.cn {q a n : Nat} {l : List Int32} {I : Nat → Nat → Int32} (h : xRw q a l I) (hl : l.length ≤ n) (hn : n < 2 ^ 31) : mCn I q n := mCn.of h.1 hl hn
theorem xFp.fr {I J K : Nat → Nat → Int32} (h : mFr mSR I J) (g : xFp J K) : mFr mSR I K := fun c hc => (g c (mMem_ne hc rfl) (mMem_ne hc rfl)).trans (h c hc)
theorem xNf.fr {q a : Nat} {I J K : Nat → Nat → Int32} (hq : mMem mSR q = true) (ha : mMem mSR a = true) (h : mFr mSR I J) (g : ∀ z, z ≠ 28 → z ≠ q → z ≠ a → K z = J z) : mFr mSR I K := fun c hc => (g c (mMem_ne hc rfl) (mMem_ne hc hq) (mMem_ne hc ha)).trans (h c hc)
theorem mCn.eqr {q n : Nat} {I J : Nat → Nat → Int32} (e : J q = I q) (h : mCn I q n) : mCn J q n := by
  unfold mCn
  rw [e]
  exact h
theorem xLt {x : Int32} {s t : Nat} (ht : x = nI t) (c : nI s < x) (h1 : s < 2 ^ 31) (h2 : t < 2 ^ 31) : s < t := by
  rw [ht, nI_ltI h1 h2] at c
  exact c
theorem xNlt {x : Int32} {s t : Nat} (ht : x = nI t) (c : ¬ nI s < x) (h1 : s < 2 ^ 31) (h2 : t < 2 ^ 31) : ¬ s < t := fun g => c (by rw [ht, nI_ltI h1 h2]; exact g)
theorem x_readsAll {ro : Nat → Nat × (Nat → Int32)} {Q : mPo} {d : Nat} {I : Nat → Nat → Int32} {L : Nat → Nat → Int64} {t : Nat} {b : Nat → Int32} (h120 : t ≤ 120) (hb : I 27 = b) (ht : I 26 1 = nI t) (hB : mRB ro) (q0 : kAll (kWdC b t) b t = none → ∀ I1, mFr mSR I I1 → mCn I1 30 16 → mCn I1 32 8 → Q (some (.int 0)) (mSH, I1, L)) (q1 : ∀ ys so ls, kAll (kWdC b t) b t = some (ys, so, ls) → ys.length ≤ 16 → ls.length ≤ 8 → ∀ I1, mFr mSR I I1 → xRw 30 31 ys I1 → xRw 32 33 ls I1 → I1 29 2 = so → Q (some (.int 1)) (mSH, I1, L))   : mWP mTb_ mFT ro (d + 6, 28, 0, [some (.ref 28)], [], 0, 0, (mSH, I, L)) Q := by
  have kl : ∀ a, a ≤ 120 → kS b t a ≤ 120 := fun a ha => by
    have := kSk_le (b := b) (t := t) 200 a
    rw [kS_e]
    omega
  refine mB 6 (s2 := (d + 6, 28, 12, [some (.ref 28)], [.ref 30], 0, 0, (mSH, (mUp I 28 2 0), L))) rfl ?_
  refine mCall (s2 := (d + 5, 45, 0, [some (.ref 30), none], [], 0, 0, (mSH, (mUp I 28 2 0), L))) rfl ?_
  refine mB 7 (s2 := (d + 5, 45, 11, [some (.ref 30), some (.int (I 30 1))], [.int (I 30 1)], 0, 0, (mSH, (mUp (mUp I 28 2 0) 30 1 0), L))) rfl ?_
  refine mRt (r := (some (.int (I 30 1)))) (h := (mSH, (mUp (mUp I 28 2 0) 30 1 0), L)) rfl (mRet_int rfl) ?_
  show mWP mTb_ mFT ro (d + 6, 28, 15, [some (.ref 28)], [.int (I 30 1)], 0, 0, (mSH, (mUp (mUp I 28 2 0) 30 1 0), L)) _
  refine mB 4 (s2 := (d + 6, 28, 23, [some (.ref 28)], [.ref 32], 0, 0, (mSH, (mUp (mUp I 28 2 0) 30 1 0), L))) rfl ?_
  refine mCall (s2 := (d + 5, 45, 0, [some (.ref 32), none], [], 0, 0, (mSH, (mUp (mUp I 28 2 0) 30 1 0), L))) rfl ?_
  refine mB 7 (s2 := (d + 5, 45, 11, [some (.ref 32), some (.int (I 32 1))], [.int (I 32 1)], 0, 0, (mSH, (mUp (mUp (mUp I 28 2 0) 30 1 0) 32 1 0), L))) rfl ?_
  refine mRt (r := (some (.int (I 32 1)))) (h := (mSH, (mUp (mUp (mUp I 28 2 0) 30 1 0) 32 1 0), L)) rfl (mRet_int rfl) ?_
  show mWP mTb_ mFT ro (d + 6, 28, 26, [some (.ref 28)], [.int (I 32 1)], 0, 0, (mSH, (mUp (mUp (mUp I 28 2 0) 30 1 0) 32 1 0), L)) _
  refine mB 3 (s2 := (d + 6, 28, 30, [some (.ref 28)], [.ref 1003, .ref 28], 0, 0, (mSH, (mUp (mUp (mUp I 28 2 0) 30 1 0) 32 1 0), L))) rfl ?_
  refine mCall (s2 := (d + 5, 30, 0, [some (.ref 28), some (.ref 1003), none, none], [], 0, 0, (mSH, (mUp (mUp (mUp I 28 2 0) 30 1 0) 32 1 0), L))) rfl ?_
  refine x_word_0 (b := b) (a := 0) h120 hb ht rfl (by omega) hB ?_ ?_
  · intro we1
    show mWP mTb_ mFT ro (d + 6, 28, 33, [some (.ref 28)], [.int 0], 0, 0, (mSH, (mUp (mUp (mUp (mUp I 28 2 0) 30 1 0) 32 1 0) 28 2 (nI (kS b t 0))), L)) _
    refine mBT (s2 := (d + 6, 28, 91, [some (.ref 28)], [], 0, 0, (mSH, (mUp (mUp (mUp (mUp I 28 2 0) 30 1 0) 32 1 0) 28 2 (nI (kS b t 0))), L))) rfl (by decide) ?_
    refine mB 1 (s2 := (d + 6, 28, 92, [some (.ref 28)], [.int 0], 0, 0, (mSH, (mUp (mUp (mUp (mUp I 28 2 0) 30 1 0) 32 1 0) 28 2 (nI (kS b t 0))), L))) rfl ?_
    refine mRt (r := (some (.int 0))) (h := (mSH, (mUp (mUp (mUp (mUp I 28 2 0) 30 1 0) 32 1 0) 28 2 (nI (kS b t 0))), L)) rfl rfl ?_
    exact q0 (by simp only [kAll, we1]) _ (mFr.up (by rfl) (mFr.up (by rfl) (mFr.up (by rfl) (mFr.up (by rfl) mFr.rf)))) (mCn_z rfl) (mCn_z rfl)
  · intro e1 we1 le1
    show mWP mTb_ mFT ro (d + 6, 28, 33, [some (.ref 28)], [.int 1], 0, 0, (mSH, (mUp (mUp (mUp (mUp I 28 2 0) 30 1 0) 32 1 0) 28 2 (nI e1)), L)) _
    refine mBF (s3 := (d + 6, 28, 36, [some (.ref 28)], [], 0, 0, (mSH, (mUp (mUp (mUp (mUp I 28 2 0) 30 1 0) 32 1 0) 28 2 (nI e1)), L))) rfl (by decide) ?_
    refine mB 4 (s2 := (d + 6, 28, 44, [some (.ref 28)], [.ref 30, .ref 28], 0, 0, (mSH, (mUp (mUp (mUp (mUp I 28 2 0) 30 1 0) 32 1 0) 28 2 (nI e1)), L))) rfl ?_
    refine mCall (s2 := (d + 5, 31, 0, [some (.ref 28), some (.ref 30), none], [], 0, 0, (mSH, (mUp (mUp (mUp (mUp I 28 2 0) 30 1 0) 32 1 0) 28 2 (nI e1)), L))) rfl ?_
    refine x_nums_30 (b := b) (a := e1) h120 hb ht rfl (by omega) rfl ?_ ?_
    · intro kK2 K2 fK2 nK2
      show mWP mTb_ mFT ro (d + 6, 28, 47, [some (.ref 28)], [.int 0], 0, 0, (mSH, K2, L)) _
      refine mBT (s2 := (d + 6, 28, 91, [some (.ref 28)], [], 0, 0, (mSH, K2, L))) rfl (by decide) ?_
      refine mB 1 (s2 := (d + 6, 28, 92, [some (.ref 28)], [.int 0], 0, 0, (mSH, K2, L))) rfl ?_
      refine mRt (r := (some (.int 0))) (h := (mSH, K2, L)) rfl rfl ?_
      exact q0 (by simp only [kAll, we1, kK2]) _ (xNf.fr (by rfl) (by rfl) (mFr.up (by rfl) (mFr.up (by rfl) (mFr.up (by rfl) (mFr.up (by rfl) mFr.rf)))) fK2) nK2 (mCn_z ((congrFun (fK2 32 (by omega) (by omega) (by omega)) 1).trans rfl))
    · intro lK2 eK2 kK2 bK2 mK2 K2 fK2 tK2 rK2
      show mWP mTb_ mFT ro (d + 6, 28, 47, [some (.ref 28)], [.int 1], 0, 0, (mSH, K2, L)) _
      refine mBF (s3 := (d + 6, 28, 50, [some (.ref 28)], [], 0, 0, (mSH, K2, L))) rfl (by decide) ?_
      refine mB 2 (s2 := (d + 6, 28, 53, [some (.ref 28)], [.ref 1004, .ref 28], 0, 0, (mSH, K2, L))) rfl ?_
      refine mCall (s2 := (d + 5, 30, 0, [some (.ref 28), some (.ref 1004), none, none], [], 0, 0, (mSH, K2, L))) rfl ?_
      refine x_word_1 (b := b) (a := eK2) h120 ((fK2 27 (by omega) (by omega) (by omega)).trans hb) ((congrFun (fK2 26 (by omega) (by omega) (by omega)) 1).trans ht) tK2 (by omega) hB ?_ ?_
      · intro we3
        show mWP mTb_ mFT ro (d + 6, 28, 56, [some (.ref 28)], [.int 0], 0, 0, (mSH, (mUp K2 28 2 (nI (kS b t eK2))), L)) _
        refine mBT (s2 := (d + 6, 28, 91, [some (.ref 28)], [], 0, 0, (mSH, (mUp K2 28 2 (nI (kS b t eK2))), L))) rfl (by decide) ?_
        refine mB 1 (s2 := (d + 6, 28, 92, [some (.ref 28)], [.int 0], 0, 0, (mSH, (mUp K2 28 2 (nI (kS b t eK2))), L))) rfl ?_
        refine mRt (r := (some (.int 0))) (h := (mSH, (mUp K2 28 2 (nI (kS b t eK2))), L)) rfl rfl ?_
        exact q0 (by simp only [kAll, we1, kK2, we3]) _ (mFr.up (by rfl) (xNf.fr (by rfl) (by rfl) (mFr.up (by rfl) (mFr.up (by rfl) (mFr.up (by rfl) (mFr.up (by rfl) mFr.rf)))) fK2)) (show mCn K2 30 16 from xRw.cn rK2 mK2 (by omega)) (mCn_z ((congrFun (fK2 32 (by omega) (by omega) (by omega)) 1).trans rfl))
      · intro e3 we3 le3
        show mWP mTb_ mFT ro (d + 6, 28, 56, [some (.ref 28)], [.int 1], 0, 0, (mSH, (mUp K2 28 2 (nI e3)), L)) _
        refine mBF (s3 := (d + 6, 28, 59, [some (.ref 28)], [], 0, 0, (mSH, (mUp K2 28 2 (nI e3)), L))) rfl (by decide) ?_
        refine mB 1 (s2 := (d + 6, 28, 60, [some (.ref 28)], [.ref 28], 0, 0, (mSH, (mUp K2 28 2 (nI e3)), L))) rfl ?_
        refine mCall (s2 := (d + 5, 29, 0, [some (.ref 28)], [], 0, 0, (mSH, (mUp K2 28 2 (nI e3)), L))) rfl ?_
        refine x_point (b := b) (a := e3) h120 ((fK2 27 (by omega) (by omega) (by omega)).trans hb) ((congrFun (fK2 26 (by omega) (by omega) (by omega)) 1).trans ht) rfl (by omega) hB ?_ ?_
        · intro kK4 K4 fK4
          show mWP mTb_ mFT ro (d + 6, 28, 63, [some (.ref 28)], [.int 0], 0, 0, (mSH, K4, L)) _
          refine mBT (s2 := (d + 6, 28, 91, [some (.ref 28)], [], 0, 0, (mSH, K4, L))) rfl (by decide) ?_
          refine mB 1 (s2 := (d + 6, 28, 92, [some (.ref 28)], [.int 0], 0, 0, (mSH, K4, L))) rfl ?_
          refine mRt (r := (some (.int 0))) (h := (mSH, K4, L)) rfl rfl ?_
          exact q0 (by simp only [kAll, we1, kK2, we3, kK4]) _ (xFp.fr (mFr.up (by rfl) (xNf.fr (by rfl) (by rfl) (mFr.up (by rfl) (mFr.up (by rfl) (mFr.up (by rfl) (mFr.up (by rfl) mFr.rf)))) fK2)) fK4) (mCn.eqr (fK4 30 (by omega) (by omega)) (show mCn K2 30 16 from xRw.cn rK2 mK2 (by omega))) (mCn_z ((congrFun (fK4 32 (by omega) (by omega)) 1).trans ((congrFun (fK2 32 (by omega) (by omega) (by omega)) 1).trans rfl)))
        · intro vK4 eK4 kK4 bK4 K4 fK4 tK4 sK4
          show mWP mTb_ mFT ro (d + 6, 28, 63, [some (.ref 28)], [.int 1], 0, 0, (mSH, K4, L)) _
          refine mBF (s3 := (d + 6, 28, 66, [some (.ref 28)], [], 0, 0, (mSH, K4, L))) rfl (by decide) ?_
          refine mB 4 (s2 := (d + 6, 28, 74, [some (.ref 28)], [.ref 32, .ref 28], 0, 0, (mSH, K4, L))) rfl ?_
          refine mCall (s2 := (d + 5, 31, 0, [some (.ref 28), some (.ref 32), none], [], 0, 0, (mSH, K4, L))) rfl ?_
          refine x_nums_32 (b := b) (a := eK4) h120 ((fK4 27 (by omega) (by omega)).trans ((fK2 27 (by omega) (by omega) (by omega)).trans hb)) ((congrFun (fK4 26 (by omega) (by omega)) 1).trans ((congrFun (fK2 26 (by omega) (by omega) (by omega)) 1).trans ht)) tK4 (by omega) ((congrFun (fK4 32 (by omega) (by omega)) 1).trans ((congrFun (fK2 32 (by omega) (by omega) (by omega)) 1).trans rfl)) ?_ ?_
          · intro kK5 K5 fK5 nK5
            show mWP mTb_ mFT ro (d + 6, 28, 77, [some (.ref 28)], [.int 0], 0, 0, (mSH, K5, L)) _
            refine mBT (s2 := (d + 6, 28, 91, [some (.ref 28)], [], 0, 0, (mSH, K5, L))) rfl (by decide) ?_
            refine mB 1 (s2 := (d + 6, 28, 92, [some (.ref 28)], [.int 0], 0, 0, (mSH, K5, L))) rfl ?_
            refine mRt (r := (some (.int 0))) (h := (mSH, K5, L)) rfl rfl ?_
            exact q0 (by simp only [kAll, we1, kK2, we3, kK4, kK5]) _ (xNf.fr (by rfl) (by rfl) (xFp.fr (mFr.up (by rfl) (xNf.fr (by rfl) (by rfl) (mFr.up (by rfl) (mFr.up (by rfl) (mFr.up (by rfl) (mFr.up (by rfl) mFr.rf)))) fK2)) fK4) fK5) (mCn.eqr (fK5 30 (by omega) (by omega) (by omega)) (mCn.eqr (fK4 30 (by omega) (by omega)) (show mCn K2 30 16 from xRw.cn rK2 mK2 (by omega)))) nK5
          · intro lK5 eK5 kK5 bK5 mK5 K5 fK5 tK5 rK5
            show mWP mTb_ mFT ro (d + 6, 28, 77, [some (.ref 28)], [.int 1], 0, 0, (mSH, K5, L)) _
            refine mBF (s3 := (d + 6, 28, 80, [some (.ref 28)], [], 0, 0, (mSH, K5, L))) rfl (by decide) ?_
            refine mB 1 (s2 := (d + 6, 28, 81, [some (.ref 28)], [.ref 28], 0, 0, (mSH, K5, L))) rfl ?_
            refine mCall (s2 := (d + 5, 33, 0, [some (.ref 28)], [], 0, 0, (mSH, K5, L))) rfl ?_
            refine mB 1 (s2 := (d + 5, 33, 1, [some (.ref 28)], [.ref 28], 0, 0, (mSH, K5, L))) rfl ?_
            refine mCall (s2 := (d + 4, 34, 0, [some (.ref 28)], [], 0, 0, (mSH, K5, L))) rfl ?_
            refine x_skip (b := b) (a := eK5) h120 ((fK5 27 (by omega) (by omega) (by omega)).trans ((fK4 27 (by omega) (by omega)).trans ((fK2 27 (by omega) (by omega) (by omega)).trans hb))) ((congrFun (fK5 26 (by omega) (by omega) (by omega)) 1).trans ((congrFun (fK4 26 (by omega) (by omega)) 1).trans ((congrFun (fK2 26 (by omega) (by omega) (by omega)) 1).trans ht))) tK5 (by omega) ?_
            show mWP mTb_ mFT ro (d + 5, 33, 4, [some (.ref 28)], [], 0, 0, (mSH, (mUp K5 28 2 (nI (kS b t eK5))), L)) _
            refine mB 4 (s2 := (d + 5, 33, 12, [some (.ref 28)], [.ref 26, .int (nI (kS b t eK5))], 0, 0, (mSH, (mUp K5 28 2 (nI (kS b t eK5))), L))) rfl ?_
            refine mCall (s2 := (d + 4, 39, 0, [some (.ref 26)], [], 0, 0, (mSH, (mUp K5 28 2 (nI (kS b t eK5))), L))) rfl ?_
            refine mB 2 (s2 := (d + 4, 39, 4, [some (.ref 26)], [.int (K5 26 1)], 0, 0, (mSH, (mUp K5 28 2 (nI (kS b t eK5))), L))) rfl ?_
            refine mRt (r := (some (.int (K5 26 1)))) (h := (mSH, (mUp K5 28 2 (nI (kS b t eK5))), L)) rfl (mRet_int rfl) ?_
            show mWP mTb_ mFT ro (d + 5, 33, 15, [some (.ref 28)], [.int (K5 26 1), .int (nI (kS b t eK5))], 0, 0, (mSH, (mUp K5 28 2 (nI (kS b t eK5))), L)) _
            refine mBr (s2 := (d + 5, 33, 22, [some (.ref 28)], [], 0, 0, (mSH, (mUp K5 28 2 (nI (kS b t eK5))), L))) (s3 := (d + 5, 33, 18, [some (.ref 28)], [], 0, 0, (mSH, (mUp K5 28 2 (nI (kS b t eK5))), L))) rfl (fun c0 => ?_) (fun c0 => ?_)
            · refine mB 1 (s2 := (d + 5, 33, 23, [some (.ref 28)], [.int 0], 0, 0, (mSH, (mUp K5 28 2 (nI (kS b t eK5))), L))) rfl ?_
              refine mRt (r := (some (.int 0))) (h := (mSH, (mUp K5 28 2 (nI (kS b t eK5))), L)) rfl rfl ?_
              show mWP mTb_ mFT ro (d + 6, 28, 84, [some (.ref 28)], [.int 0], 0, 0, (mSH, (mUp K5 28 2 (nI (kS b t eK5))), L)) _
              refine mBT (s2 := (d + 6, 28, 91, [some (.ref 28)], [], 0, 0, (mSH, (mUp K5 28 2 (nI (kS b t eK5))), L))) rfl (by decide) ?_
              refine mB 1 (s2 := (d + 6, 28, 92, [some (.ref 28)], [.int 0], 0, 0, (mSH, (mUp K5 28 2 (nI (kS b t eK5))), L))) rfl ?_
              refine mRt (r := (some (.int 0))) (h := (mSH, (mUp K5 28 2 (nI (kS b t eK5))), L)) rfl rfl ?_
              exact q0 (by simp only [kAll, we1, kK2, we3, kK4, kK5]; rw [if_pos (xLt ((congrFun (fK5 26 (by omega) (by omega) (by omega)) 1).trans ((congrFun (fK4 26 (by omega) (by omega)) 1).trans ((congrFun (fK2 26 (by omega) (by omega) (by omega)) 1).trans ht))) (of_decide_eq_true c0) (by have z := kl eK5 (by omega); omega) (by omega))]) _ (mFr.up (by rfl) (xNf.fr (by rfl) (by rfl) (xFp.fr (mFr.up (by rfl) (xNf.fr (by rfl) (by rfl) (mFr.up (by rfl) (mFr.up (by rfl) (mFr.up (by rfl) (mFr.up (by rfl) mFr.rf)))) fK2)) fK4) fK5)) (mCn.eqr (fK5 30 (by omega) (by omega) (by omega)) (mCn.eqr (fK4 30 (by omega) (by omega)) (show mCn K2 30 16 from xRw.cn rK2 mK2 (by omega)))) (show mCn K5 32 8 from xRw.cn rK5 mK5 (by omega))
            · refine mB 2 (s2 := (d + 5, 33, 23, [some (.ref 28)], [.int 1], 0, 0, (mSH, (mUp K5 28 2 (nI (kS b t eK5))), L))) rfl ?_
              refine mRt (r := (some (.int 1))) (h := (mSH, (mUp K5 28 2 (nI (kS b t eK5))), L)) rfl rfl ?_
              show mWP mTb_ mFT ro (d + 6, 28, 84, [some (.ref 28)], [.int 1], 0, 0, (mSH, (mUp K5 28 2 (nI (kS b t eK5))), L)) _
              refine mBF (s3 := (d + 6, 28, 87, [some (.ref 28)], [], 0, 0, (mSH, (mUp K5 28 2 (nI (kS b t eK5))), L))) rfl (by decide) ?_
              refine mB 2 (s2 := (d + 6, 28, 92, [some (.ref 28)], [.int 1], 0, 0, (mSH, (mUp K5 28 2 (nI (kS b t eK5))), L))) rfl ?_
              refine mRt (r := (some (.int 1))) (h := (mSH, (mUp K5 28 2 (nI (kS b t eK5))), L)) rfl rfl ?_
              exact q1 _ _ _ (by simp only [kAll, we1, kK2, we3, kK4, kK5]; rw [if_neg (xNlt ((congrFun (fK5 26 (by omega) (by omega) (by omega)) 1).trans ((congrFun (fK4 26 (by omega) (by omega)) 1).trans ((congrFun (fK2 26 (by omega) (by omega) (by omega)) 1).trans ht))) (of_decide_eq_false c0) (by have z := kl eK5 (by omega); omega) (by omega))]) mK2 mK5 _ (mFr.up (by rfl) (xNf.fr (by rfl) (by rfl) (xFp.fr (mFr.up (by rfl) (xNf.fr (by rfl) (by rfl) (mFr.up (by rfl) (mFr.up (by rfl) (mFr.up (by rfl) (mFr.up (by rfl) mFr.rf)))) fK2)) fK4) fK5)) (xRw.eq (fK5 30 (by omega) (by omega) (by omega)) (fK5 31 (by omega) (by omega) (by omega)) (xRw.eq (fK4 30 (by omega) (by omega)) (fK4 31 (by omega) (by omega)) rK2)) rK5 ((congrFun (fK5 29 (by omega) (by omega) (by omega)) 2).trans sK4)
theorem z_like_2 {ro : Nat → Nat × (Nat → Int32)} {Q : mPo} {d : Nat} {I : Nat → Nat → Int32} {L : Nat → Nat → Int64} {k : Nat} (nf : mCn I 30 16) (h1 : ((I 30 1) ≤ (nI k)) → Q none (mSH, I, L)) (h2 : ¬ ((I 30 1) ≤ (nI k)) → ((I 2 1) < 16) → vp_in (I 2 1) 16) (h3 : ¬ ((I 30 1) ≤ (nI k)) → ((I 2 1) < 16) → mWP mTb_ mFT ro (d + 2, 46, 7, [some (.ref 2), some (.ref 30), some (.int ((nI k) + 1))], [], 0, 0, (mSH, (mUp (mUp I 3 ((I 2 1).toNatClampNeg) (mAt I 30 31 (nI k))) 2 1 ((I 2 1) + 1)), L)) Q) (h4 : ¬ ((I 30 1) ≤ (nI k)) → ¬ ((I 2 1) < 16) → mWP mTb_ mFT ro (d + 2, 46, 7, [some (.ref 2), some (.ref 30), some (.int ((nI k) + 1))], [], 0, 0, (mSH, I, L)) Q) : mWP mTb_ mFT ro (d + 2, 46, 7, [some (.ref 2), some (.ref 30), some (.int (nI k))], [], 0, 0, (mSH, I, L)) Q := by
  refine mB 2 (s2 := (d + 2, 46, 9, [some (.ref 2), some (.ref 30), some (.int (nI k))], [.ref 30, .int (nI k)], 0, 0, (mSH, I, L))) rfl ?_
  refine mCall (s2 := (d + 1, 39, 0, [some (.ref 30)], [], 0, 0, (mSH, I, L))) rfl ?_
  refine mB 2 (s2 := (d + 1, 39, 4, [some (.ref 30)], [.int (I 30 1)], 0, 0, (mSH, I, L))) rfl ?_
  refine mRt (r := (some (.int (I 30 1)))) (h := (mSH, I, L)) rfl (mRet_int rfl) ?_
  show mWP mTb_ mFT ro (d + 2, 46, 12, [some (.ref 2), some (.ref 30), some (.int (nI k))], [.int (I 30 1), .int (nI k)], 0, 0, (mSH, I, L)) _
  refine mBr (s2 := (d + 2, 46, 30, [some (.ref 2), some (.ref 30), some (.int (nI k))], [], 0, 0, (mSH, I, L))) (s3 := (d + 2, 46, 15, [some (.ref 2), some (.ref 30), some (.int (nI k))], [], 0, 0, (mSH, I, L))) rfl (fun c0 => ?_) (fun c0 => ?_)
  · refine mRt (r := none) (h := (mSH, I, L)) rfl rfl ?_
    exact h1 (of_decide_eq_true c0)
  · refine mB 3 (s2 := (d + 2, 46, 18, [some (.ref 2), some (.ref 30), some (.int (nI k))], [.int (nI k), .ref 30, .ref 2], 0, 0, (mSH, I, L))) rfl ?_
    refine mCall (s2 := (d + 1, 42, 0, [some (.ref 30), some (.int (nI k))], [], 0, 0, (mSH, I, L))) rfl ?_
    refine w_at_30 nf ?_
    show mWP mTb_ mFT ro (d + 2, 46, 21, [some (.ref 2), some (.ref 30), some (.int (nI k))], [.int (mAt I 30 31 (nI k)), .ref 2], 0, 0, (mSH, I, L)) _
    refine mCall (s2 := (d + 1, 44, 0, [some (.ref 2), some (.int (mAt I 30 31 (nI k)))], [], 0, 0, (mSH, I, L))) rfl ?_
    refine mB 1 (s2 := (d + 1, 44, 1, [some (.ref 2), some (.int (mAt I 30 31 (nI k)))], [.ref 2], 0, 0, (mSH, I, L))) rfl ?_
    refine mCall (s2 := (d, 40, 0, [some (.ref 2)], [], 0, 0, (mSH, I, L))) rfl ?_
    refine mB 5 (s2 := (d, 40, 9, [some (.ref 2)], [.int 16, .int (I 2 1)], 0, 0, (mSH, I, L))) rfl ?_
    refine mBr (s2 := (d, 40, 16, [some (.ref 2)], [], 0, 0, (mSH, I, L))) (s3 := (d, 40, 12, [some (.ref 2)], [], 0, 0, (mSH, I, L))) rfl (fun c1 => ?_) (fun c1 => ?_)
    · refine mB 1 (s2 := (d, 40, 17, [some (.ref 2)], [.int 0], 0, 0, (mSH, I, L))) rfl ?_
      refine mRt (r := (some (.int 0))) (h := (mSH, I, L)) rfl rfl ?_
      show mWP mTb_ mFT ro (d + 1, 44, 4, [some (.ref 2), some (.int (mAt I 30 31 (nI k)))], [.int 0], 0, 0, (mSH, I, L)) _
      refine mBT (s2 := (d + 1, 44, 7, [some (.ref 2), some (.int (mAt I 30 31 (nI k)))], [], 0, 0, (mSH, I, L))) rfl (by decide) ?_
      refine mB 5 (s2 := (d + 1, 44, 16, [some (.ref 2), some (.int (mAt I 30 31 (nI k)))], [.int (mAt I 30 31 (nI k)), .int (I 2 1), .ref 3], 0, 0, (mSH, I, L))) rfl ?_
      refine mRq (s2 := (d + 1, 44, 17, [some (.ref 2), some (.int (mAt I 30 31 (nI k)))], [], 0, 0, (mSH, (mUp I 3 ((I 2 1).toNatClampNeg) (mAt I 30 31 (nI k))), L))) rfl (mVp_of (h2 (of_decide_eq_false c0) (of_decide_eq_true c1))) ?_
      refine mB 6 (s2 := (d + 1, 44, 27, [some (.ref 2), some (.int (mAt I 30 31 (nI k)))], [], 0, 0, (mSH, (mUp (mUp I 3 ((I 2 1).toNatClampNeg) (mAt I 30 31 (nI k))) 2 1 ((I 2 1) + 1)), L))) rfl ?_
      refine mRt (r := none) (h := (mSH, (mUp (mUp I 3 ((I 2 1).toNatClampNeg) (mAt I 30 31 (nI k))) 2 1 ((I 2 1) + 1)), L)) rfl rfl ?_
      show mWP mTb_ mFT ro (d + 2, 46, 24, [some (.ref 2), some (.ref 30), some (.int (nI k))], [], 0, 0, (mSH, (mUp (mUp I 3 ((I 2 1).toNatClampNeg) (mAt I 30 31 (nI k))) 2 1 ((I 2 1) + 1)), L)) _
      refine mB 2 (s2 := (d + 2, 46, 7, [some (.ref 2), some (.ref 30), some (.int ((nI k) + 1))], [], 0, 0, (mSH, (mUp (mUp I 3 ((I 2 1).toNatClampNeg) (mAt I 30 31 (nI k))) 2 1 ((I 2 1) + 1)), L))) rfl ?_
      exact h3 (of_decide_eq_false c0) (of_decide_eq_true c1)
    · refine mB 2 (s2 := (d, 40, 17, [some (.ref 2)], [.int 1], 0, 0, (mSH, I, L))) rfl ?_
      refine mRt (r := (some (.int 1))) (h := (mSH, I, L)) rfl rfl ?_
      show mWP mTb_ mFT ro (d + 1, 44, 4, [some (.ref 2), some (.int (mAt I 30 31 (nI k)))], [.int 1], 0, 0, (mSH, I, L)) _
      refine mBF (s3 := (d + 1, 44, 27, [some (.ref 2), some (.int (mAt I 30 31 (nI k)))], [], 0, 0, (mSH, I, L))) rfl (by decide) ?_
      refine mRt (r := none) (h := (mSH, I, L)) rfl rfl ?_
      show mWP mTb_ mFT ro (d + 2, 46, 24, [some (.ref 2), some (.ref 30), some (.int (nI k))], [], 0, 0, (mSH, I, L)) _
      refine mB 2 (s2 := (d + 2, 46, 7, [some (.ref 2), some (.ref 30), some (.int ((nI k) + 1))], [], 0, 0, (mSH, I, L))) rfl ?_
      exact h4 (of_decide_eq_false c0) (of_decide_eq_false c1)
theorem z_like0_2 {ro : Nat → Nat × (Nat → Int32)} {Q : mPo} {d : Nat} {I : Nat → Nat → Int32} {L : Nat → Nat → Int64}  (h1 : mWP mTb_ mFT ro (d + 2, 46, 7, [some (.ref 2), some (.ref 30), some (.int 0)], [], 0, 0, (mSH, (mUp I 2 1 0), L)) Q) : mWP mTb_ mFT ro (d + 2, 46, 0, [some (.ref 2), some (.ref 30), none], [], 0, 0, (mSH, I, L)) Q := by
  refine mB 1 (s2 := (d + 2, 46, 1, [some (.ref 2), some (.ref 30), none], [.ref 2], 0, 0, (mSH, I, L))) rfl ?_
  refine mCall (s2 := (d + 1, 45, 0, [some (.ref 2), none], [], 0, 0, (mSH, I, L))) rfl ?_
  refine mB 7 (s2 := (d + 1, 45, 11, [some (.ref 2), some (.int (I 2 1))], [.int (I 2 1)], 0, 0, (mSH, (mUp I 2 1 0), L))) rfl ?_
  refine mRt (r := (some (.int (I 2 1)))) (h := (mSH, (mUp I 2 1 0), L)) rfl (mRet_int rfl) ?_
  show mWP mTb_ mFT ro (d + 2, 46, 4, [some (.ref 2), some (.ref 30), none], [.int (I 2 1)], 0, 0, (mSH, (mUp I 2 1 0), L)) _
  refine mB 3 (s2 := (d + 2, 46, 7, [some (.ref 2), some (.ref 30), some (.int 0)], [], 0, 0, (mSH, (mUp I 2 1 0), L))) rfl ?_
  exact h1
theorem l_xlike_2 {ro : Nat → Nat × (Nat → Int32)} {Q : mPo} {d : Nat} {L : Nat → Nat → Int64} {l : List Int32} (hn : l.length ≤ 16) : ∀ (m k : Nat) (I : Nat → Nat → Int32), k + m = l.length → I 2 1 = nI k → xRw 30 31 l I → (∀ I1, (∀ z, z ≠ 2 → z ≠ 3 → I1 z = I z) → I1 2 1 = nI l.length → (∀ j, I1 3 j = if k ≤ j ∧ j < l.length then l.getD j 0 else I 3 j) → Q none (mSH, I1, L)) → mWP mTb_ mFT ro (d + 2, 46, 7, [some (.ref 2), some (.ref 30), some (.int (nI k))], [], 0, 0, (mSH, I, L)) Q := by
  intro m
  induction m with
  | zero =>
    intro k I hk h1 hl hq
    have z : I 30 1 ≤ nI k := by
      rw [hl.1]
      exact nI_le (by omega) (by omega)
    have e : k = l.length := by omega
    refine z_like_2 (hl.cn hn (by omega)) (fun _ => hq I (fun _ _ _ => rfl) (by rw [h1, e]) (fun j => by rw [if_neg (by omega)])) (fun c => absurd z c) (fun c => absurd z c) (fun c => absurd z c)
  | succ m ih =>
    intro k I hk h1 hl hq
    have z : ¬ I 30 1 ≤ nI k := by
      rw [hl.1]
      exact nI_ge (by omega) (by omega)
    have lt : I 2 1 < 16 := by
      rw [h1]
      exact nI_lt (a := k) (b := 16) (by omega) (by omega)
    refine z_like_2 (hl.cn hn (by omega)) (fun c => absurd c z) (fun _ _ => by rw [h1]; exact vp_in_nI (by omega) (by omega)) (fun _ _ => ?_) (fun _ c => absurd lt c)
    rw [mAt_lt hl.1 (by omega) (by omega), hl.2 k (by omega), h1, nI_clamp (by omega), nI_1]
    refine ih (k + 1) _ (by omega) xUs (xRw.eq (I := I) rfl rfl hl) (fun I1 f1 f2 f3 => hq I1 (fun z z1 z2 => ?_) f2 (fun j => ?_))
    · rw [f1 z z1 z2, mUp_row z1, mUp_row z2]
    · rw [f3 j]
      by_cases c : k + 1 ≤ j ∧ j < l.length
      · rw [if_pos c, if_pos ⟨by omega, c.2⟩]
      · rw [if_neg c, mUp_row (by omega)]
        by_cases e : j = k
        · rw [e, xUs, if_pos ⟨Nat.le_refl k, by omega⟩]
        · rw [xUo e, if_neg (by omega)]
theorem x_like_2 {ro : Nat → Nat × (Nat → Int32)} {Q : mPo} {d : Nat} {L : Nat → Nat → Int64} {I : Nat → Nat → Int32} {l : List Int32} (hn : l.length ≤ 16) (hl : xRw 30 31 l I) (hq : ∀ I1, (∀ z, z ≠ 2 → z ≠ 3 → I1 z = I z) → I1 2 1 = nI l.length → (∀ j, I1 3 j = if j < l.length then l.getD j 0 else I 3 j) → Q none (mSH, I1, L)) : mWP mTb_ mFT ro (d + 2, 46, 0, [some (.ref 2), some (.ref 30), none], [], 0, 0, (mSH, I, L)) Q := by
  refine z_like0_2 ?_
  refine l_xlike_2 hn l.length 0 _ (by omega) rfl (xRw.eq (I := I) rfl rfl hl) (fun I1 f1 f2 f3 => hq I1 (fun z z1 z2 => ?_) f2 (fun j => ?_))
  · rw [f1 z z1 z2, mUp_row z1]
  · rw [f3 j]
    by_cases c : j < l.length
    · rw [if_pos ⟨Nat.zero_le j, c⟩, if_pos c]
    · rw [if_neg (fun z => c z.2), if_neg c, mUp_row (by omega)]
theorem z_like_4 {ro : Nat → Nat × (Nat → Int32)} {Q : mPo} {d : Nat} {I : Nat → Nat → Int32} {L : Nat → Nat → Int64} {k : Nat} (nf : mCn I 32 8) (h1 : ((I 32 1) ≤ (nI k)) → Q none (mSH, I, L)) (h2 : ¬ ((I 32 1) ≤ (nI k)) → ((I 4 1) < 8) → vp_in (I 4 1) 8) (h3 : ¬ ((I 32 1) ≤ (nI k)) → ((I 4 1) < 8) → mWP mTb_ mFT ro (d + 2, 46, 7, [some (.ref 4), some (.ref 32), some (.int ((nI k) + 1))], [], 0, 0, (mSH, (mUp (mUp I 5 ((I 4 1).toNatClampNeg) (mAt I 32 33 (nI k))) 4 1 ((I 4 1) + 1)), L)) Q) (h4 : ¬ ((I 32 1) ≤ (nI k)) → ¬ ((I 4 1) < 8) → mWP mTb_ mFT ro (d + 2, 46, 7, [some (.ref 4), some (.ref 32), some (.int ((nI k) + 1))], [], 0, 0, (mSH, I, L)) Q) : mWP mTb_ mFT ro (d + 2, 46, 7, [some (.ref 4), some (.ref 32), some (.int (nI k))], [], 0, 0, (mSH, I, L)) Q := by
  refine mB 2 (s2 := (d + 2, 46, 9, [some (.ref 4), some (.ref 32), some (.int (nI k))], [.ref 32, .int (nI k)], 0, 0, (mSH, I, L))) rfl ?_
  refine mCall (s2 := (d + 1, 39, 0, [some (.ref 32)], [], 0, 0, (mSH, I, L))) rfl ?_
  refine mB 2 (s2 := (d + 1, 39, 4, [some (.ref 32)], [.int (I 32 1)], 0, 0, (mSH, I, L))) rfl ?_
  refine mRt (r := (some (.int (I 32 1)))) (h := (mSH, I, L)) rfl (mRet_int rfl) ?_
  show mWP mTb_ mFT ro (d + 2, 46, 12, [some (.ref 4), some (.ref 32), some (.int (nI k))], [.int (I 32 1), .int (nI k)], 0, 0, (mSH, I, L)) _
  refine mBr (s2 := (d + 2, 46, 30, [some (.ref 4), some (.ref 32), some (.int (nI k))], [], 0, 0, (mSH, I, L))) (s3 := (d + 2, 46, 15, [some (.ref 4), some (.ref 32), some (.int (nI k))], [], 0, 0, (mSH, I, L))) rfl (fun c0 => ?_) (fun c0 => ?_)
  · refine mRt (r := none) (h := (mSH, I, L)) rfl rfl ?_
    exact h1 (of_decide_eq_true c0)
  · refine mB 3 (s2 := (d + 2, 46, 18, [some (.ref 4), some (.ref 32), some (.int (nI k))], [.int (nI k), .ref 32, .ref 4], 0, 0, (mSH, I, L))) rfl ?_
    refine mCall (s2 := (d + 1, 42, 0, [some (.ref 32), some (.int (nI k))], [], 0, 0, (mSH, I, L))) rfl ?_
    refine w_at_32 nf ?_
    show mWP mTb_ mFT ro (d + 2, 46, 21, [some (.ref 4), some (.ref 32), some (.int (nI k))], [.int (mAt I 32 33 (nI k)), .ref 4], 0, 0, (mSH, I, L)) _
    refine mCall (s2 := (d + 1, 44, 0, [some (.ref 4), some (.int (mAt I 32 33 (nI k)))], [], 0, 0, (mSH, I, L))) rfl ?_
    refine mB 1 (s2 := (d + 1, 44, 1, [some (.ref 4), some (.int (mAt I 32 33 (nI k)))], [.ref 4], 0, 0, (mSH, I, L))) rfl ?_
    refine mCall (s2 := (d, 40, 0, [some (.ref 4)], [], 0, 0, (mSH, I, L))) rfl ?_
    refine mB 5 (s2 := (d, 40, 9, [some (.ref 4)], [.int 8, .int (I 4 1)], 0, 0, (mSH, I, L))) rfl ?_
    refine mBr (s2 := (d, 40, 16, [some (.ref 4)], [], 0, 0, (mSH, I, L))) (s3 := (d, 40, 12, [some (.ref 4)], [], 0, 0, (mSH, I, L))) rfl (fun c1 => ?_) (fun c1 => ?_)
    · refine mB 1 (s2 := (d, 40, 17, [some (.ref 4)], [.int 0], 0, 0, (mSH, I, L))) rfl ?_
      refine mRt (r := (some (.int 0))) (h := (mSH, I, L)) rfl rfl ?_
      show mWP mTb_ mFT ro (d + 1, 44, 4, [some (.ref 4), some (.int (mAt I 32 33 (nI k)))], [.int 0], 0, 0, (mSH, I, L)) _
      refine mBT (s2 := (d + 1, 44, 7, [some (.ref 4), some (.int (mAt I 32 33 (nI k)))], [], 0, 0, (mSH, I, L))) rfl (by decide) ?_
      refine mB 5 (s2 := (d + 1, 44, 16, [some (.ref 4), some (.int (mAt I 32 33 (nI k)))], [.int (mAt I 32 33 (nI k)), .int (I 4 1), .ref 5], 0, 0, (mSH, I, L))) rfl ?_
      refine mRq (s2 := (d + 1, 44, 17, [some (.ref 4), some (.int (mAt I 32 33 (nI k)))], [], 0, 0, (mSH, (mUp I 5 ((I 4 1).toNatClampNeg) (mAt I 32 33 (nI k))), L))) rfl (mVp_of (h2 (of_decide_eq_false c0) (of_decide_eq_true c1))) ?_
      refine mB 6 (s2 := (d + 1, 44, 27, [some (.ref 4), some (.int (mAt I 32 33 (nI k)))], [], 0, 0, (mSH, (mUp (mUp I 5 ((I 4 1).toNatClampNeg) (mAt I 32 33 (nI k))) 4 1 ((I 4 1) + 1)), L))) rfl ?_
      refine mRt (r := none) (h := (mSH, (mUp (mUp I 5 ((I 4 1).toNatClampNeg) (mAt I 32 33 (nI k))) 4 1 ((I 4 1) + 1)), L)) rfl rfl ?_
      show mWP mTb_ mFT ro (d + 2, 46, 24, [some (.ref 4), some (.ref 32), some (.int (nI k))], [], 0, 0, (mSH, (mUp (mUp I 5 ((I 4 1).toNatClampNeg) (mAt I 32 33 (nI k))) 4 1 ((I 4 1) + 1)), L)) _
      refine mB 2 (s2 := (d + 2, 46, 7, [some (.ref 4), some (.ref 32), some (.int ((nI k) + 1))], [], 0, 0, (mSH, (mUp (mUp I 5 ((I 4 1).toNatClampNeg) (mAt I 32 33 (nI k))) 4 1 ((I 4 1) + 1)), L))) rfl ?_
      exact h3 (of_decide_eq_false c0) (of_decide_eq_true c1)
    · refine mB 2 (s2 := (d, 40, 17, [some (.ref 4)], [.int 1], 0, 0, (mSH, I, L))) rfl ?_
      refine mRt (r := (some (.int 1))) (h := (mSH, I, L)) rfl rfl ?_
      show mWP mTb_ mFT ro (d + 1, 44, 4, [some (.ref 4), some (.int (mAt I 32 33 (nI k)))], [.int 1], 0, 0, (mSH, I, L)) _
      refine mBF (s3 := (d + 1, 44, 27, [some (.ref 4), some (.int (mAt I 32 33 (nI k)))], [], 0, 0, (mSH, I, L))) rfl (by decide) ?_
      refine mRt (r := none) (h := (mSH, I, L)) rfl rfl ?_
      show mWP mTb_ mFT ro (d + 2, 46, 24, [some (.ref 4), some (.ref 32), some (.int (nI k))], [], 0, 0, (mSH, I, L)) _
      refine mB 2 (s2 := (d + 2, 46, 7, [some (.ref 4), some (.ref 32), some (.int ((nI k) + 1))], [], 0, 0, (mSH, I, L))) rfl ?_
      exact h4 (of_decide_eq_false c0) (of_decide_eq_false c1)
theorem z_like0_4 {ro : Nat → Nat × (Nat → Int32)} {Q : mPo} {d : Nat} {I : Nat → Nat → Int32} {L : Nat → Nat → Int64}  (h1 : mWP mTb_ mFT ro (d + 2, 46, 7, [some (.ref 4), some (.ref 32), some (.int 0)], [], 0, 0, (mSH, (mUp I 4 1 0), L)) Q) : mWP mTb_ mFT ro (d + 2, 46, 0, [some (.ref 4), some (.ref 32), none], [], 0, 0, (mSH, I, L)) Q := by
  refine mB 1 (s2 := (d + 2, 46, 1, [some (.ref 4), some (.ref 32), none], [.ref 4], 0, 0, (mSH, I, L))) rfl ?_
  refine mCall (s2 := (d + 1, 45, 0, [some (.ref 4), none], [], 0, 0, (mSH, I, L))) rfl ?_
  refine mB 7 (s2 := (d + 1, 45, 11, [some (.ref 4), some (.int (I 4 1))], [.int (I 4 1)], 0, 0, (mSH, (mUp I 4 1 0), L))) rfl ?_
  refine mRt (r := (some (.int (I 4 1)))) (h := (mSH, (mUp I 4 1 0), L)) rfl (mRet_int rfl) ?_
  show mWP mTb_ mFT ro (d + 2, 46, 4, [some (.ref 4), some (.ref 32), none], [.int (I 4 1)], 0, 0, (mSH, (mUp I 4 1 0), L)) _
  refine mB 3 (s2 := (d + 2, 46, 7, [some (.ref 4), some (.ref 32), some (.int 0)], [], 0, 0, (mSH, (mUp I 4 1 0), L))) rfl ?_
  exact h1
theorem l_xlike_4 {ro : Nat → Nat × (Nat → Int32)} {Q : mPo} {d : Nat} {L : Nat → Nat → Int64} {l : List Int32} (hn : l.length ≤ 8) : ∀ (m k : Nat) (I : Nat → Nat → Int32), k + m = l.length → I 4 1 = nI k → xRw 32 33 l I → (∀ I1, (∀ z, z ≠ 4 → z ≠ 5 → I1 z = I z) → I1 4 1 = nI l.length → (∀ j, I1 5 j = if k ≤ j ∧ j < l.length then l.getD j 0 else I 5 j) → Q none (mSH, I1, L)) → mWP mTb_ mFT ro (d + 2, 46, 7, [some (.ref 4), some (.ref 32), some (.int (nI k))], [], 0, 0, (mSH, I, L)) Q := by
  intro m
  induction m with
  | zero =>
    intro k I hk h1 hl hq
    have z : I 32 1 ≤ nI k := by
      rw [hl.1]
      exact nI_le (by omega) (by omega)
    have e : k = l.length := by omega
    refine z_like_4 (hl.cn hn (by omega)) (fun _ => hq I (fun _ _ _ => rfl) (by rw [h1, e]) (fun j => by rw [if_neg (by omega)])) (fun c => absurd z c) (fun c => absurd z c) (fun c => absurd z c)
  | succ m ih =>
    intro k I hk h1 hl hq
    have z : ¬ I 32 1 ≤ nI k := by
      rw [hl.1]
      exact nI_ge (by omega) (by omega)
    have lt : I 4 1 < 8 := by
      rw [h1]
      exact nI_lt (a := k) (b := 8) (by omega) (by omega)
    refine z_like_4 (hl.cn hn (by omega)) (fun c => absurd c z) (fun _ _ => by rw [h1]; exact vp_in_nI (by omega) (by omega)) (fun _ _ => ?_) (fun _ c => absurd lt c)
    rw [mAt_lt hl.1 (by omega) (by omega), hl.2 k (by omega), h1, nI_clamp (by omega), nI_1]
    refine ih (k + 1) _ (by omega) xUs (xRw.eq (I := I) rfl rfl hl) (fun I1 f1 f2 f3 => hq I1 (fun z z1 z2 => ?_) f2 (fun j => ?_))
    · rw [f1 z z1 z2, mUp_row z1, mUp_row z2]
    · rw [f3 j]
      by_cases c : k + 1 ≤ j ∧ j < l.length
      · rw [if_pos c, if_pos ⟨by omega, c.2⟩]
      · rw [if_neg c, mUp_row (by omega)]
        by_cases e : j = k
        · rw [e, xUs, if_pos ⟨Nat.le_refl k, by omega⟩]
        · rw [xUo e, if_neg (by omega)]
theorem x_like_4 {ro : Nat → Nat × (Nat → Int32)} {Q : mPo} {d : Nat} {L : Nat → Nat → Int64} {I : Nat → Nat → Int32} {l : List Int32} (hn : l.length ≤ 8) (hl : xRw 32 33 l I) (hq : ∀ I1, (∀ z, z ≠ 4 → z ≠ 5 → I1 z = I z) → I1 4 1 = nI l.length → (∀ j, I1 5 j = if j < l.length then l.getD j 0 else I 5 j) → Q none (mSH, I1, L)) : mWP mTb_ mFT ro (d + 2, 46, 0, [some (.ref 4), some (.ref 32), none], [], 0, 0, (mSH, I, L)) Q := by
  refine z_like0_4 ?_
  refine l_xlike_4 hn l.length 0 _ (by omega) rfl (xRw.eq (I := I) rfl rfl hl) (fun I1 f1 f2 f3 => hq I1 (fun z z1 z2 => ?_) f2 (fun j => ?_))
  · rw [f1 z z1 z2, mUp_row z1]
  · rw [f3 j]
    by_cases c : j < l.length
    · rw [if_pos ⟨Nat.zero_le j, c⟩, if_pos c]
    · rw [if_neg (fun z => c z.2), if_neg c, mUp_row (by omega)]
