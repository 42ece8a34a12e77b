/-! The reference reads it all, exactly. Written by a program (wip/mk_c.py). -/
theorem xIf0 {j q : Nat} {x y : Int32} : (if 0 ≤ j ∧ j < q then x else y) = if j < q then x else y := by
  by_cases c : j < q
  · rw [if_pos ⟨Nat.zero_le j, c⟩, if_pos c]
  · rw [if_neg (fun z => c z.2), if_neg c]
theorem l_yrd3 {ro : Nat → Nat × (Nat → Int32)} {Q : mPo} {d : Nat} {L : Nat → Nat → Int64} {p q : Nat} {b : Int32} (hp : p ≤ 16) (hq8 : q ≤ 8) : ∀ (e k : Nat), k + e = q → ∀ I, (∀ I1, (∀ c, c ≠ 36 → I1 c = I c) → (∀ j, I1 36 j = if k ≤ j ∧ j < q then I 43 j else I 36 j) → Q (some (.int (nI p + nI q))) (mSH, I1, L)) → mWP mTb_ mFT ro (d + 4, 156, 166, [some (.ref 34), some (.int (nI p)), some (.int b), some (.int (nI q)), some (.int (nI k))], [], 0, 0, (mSH, I, L)) Q := by
  intro e
  induction e with
  | zero =>
    intro k he I hQ
    have e : k = q := by omega
    subst e
    have z : nI k ≤ nI k := nI_le (Nat.le_refl k) (by omega)
    exact s_rd3 (fun _ => hQ I (fun _ _ => rfl) (fun j => by rw [if_neg (by omega)])) (fun c => absurd z c) (fun c => absurd z c) (fun c => absurd z c)
  | succ e ih =>
    intro k he I hQ
    have z : ¬ nI q ≤ nI k := nI_ge (by omega) (by omega)
    refine s_rd3 (fun c => absurd c z) (fun _ => vp_in_nI (by omega) (by omega)) (fun _ => vp_in_nI (by omega) (by omega)) (fun _ => ?_)
    rw [nI_clamp (by omega), nI_1]
    refine ih (k + 1) (by omega) _ (fun I1 g1 g2 => hQ I1 (fun c hc => ?_) (fun j => ?_))
    · rw [g1 c hc, mUp_row hc]
    · rw [g2 j, mUp_row (show (43 : Nat) ≠ 36 by omega)]
      by_cases c : k + 1 ≤ j ∧ j < q
      · rw [if_pos c, if_pos ⟨by omega, c.2⟩]
      · rw [if_neg c]
        by_cases e : j = k
        · rw [e, mUp_same, if_pos ⟨Nat.le_refl k, by omega⟩]
        · rw [mUp_oth e, if_neg (by omega)]
theorem l_yrd2 {ro : Nat → Nat × (Nat → Int32)} {Q : mPo} {d : Nat} {L : Nat → Nat → Int64} {p q : Nat} {b : Int32} (hp : p ≤ 16) (hq8 : q ≤ 8) : ∀ (e k : Nat), k + e = p → ∀ I, (∀ I1, (∀ c, c ≠ 35 → c ≠ 36 → I1 c = I c) → (∀ j, I1 35 j = if k ≤ j ∧ j < p then I 42 j else I 35 j) → (∀ j, I1 36 j = if j < q then I 43 j else I 36 j) → Q (some (.int (nI p + nI q))) (mSH, I1, L)) → mWP mTb_ mFT ro (d + 4, 156, 137, [some (.ref 34), some (.int (nI p)), some (.int b), some (.int (nI q)), some (.int (nI k))], [], 0, 0, (mSH, I, L)) Q := by
  intro e
  induction e with
  | zero =>
    intro k he I hQ
    have e : k = p := by omega
    subst e
    have z : nI k ≤ nI k := nI_le (Nat.le_refl k) (by omega)
    refine s_rd2 (fun _ => ?_) (fun c => absurd z c) (fun c => absurd z c) (fun c => absurd z c)
    exact l_yrd3 hp hq8 q 0 (by omega) I (fun I1 g1 g2 => hQ I1 (fun c _ hc => g1 c hc) (fun j => by rw [g1 35 (by omega), if_neg (by omega)]) (fun j => by rw [g2 j, xIf0]))
  | succ e ih =>
    intro k he I hQ
    have z : ¬ nI p ≤ nI k := nI_ge (by omega) (by omega)
    refine s_rd2 (fun c => absurd c z) (fun _ => vp_in_nI (by omega) (by omega)) (fun _ => vp_in_nI (by omega) (by omega)) (fun _ => ?_)
    rw [nI_clamp (by omega), nI_1]
    refine ih (k + 1) (by omega) _ (fun I1 g1 g2 g3 => hQ I1 (fun c hc hd => ?_) (fun j => ?_) (fun j => ?_))
    · rw [g1 c hc hd, mUp_row hc]
    · rw [g2 j, mUp_row (show (42 : Nat) ≠ 35 by omega)]
      by_cases c : k + 1 ≤ j ∧ j < p
      · rw [if_pos c, if_pos ⟨by omega, c.2⟩]
      · rw [if_neg c]
        by_cases e : j = k
        · rw [e, mUp_same, if_pos ⟨Nat.le_refl k, by omega⟩]
        · rw [mUp_oth e, if_neg (by omega)]
    · rw [g3 j, mUp_row (show (43 : Nat) ≠ 35 by omega), mUp_row (show (36 : Nat) ≠ 35 by omega)]
/-- what reads makes of the site; the cells of the two sides: c1 pointing, counts and values -/
def xSite (r : Option (List Int32 × Int32 × List Int32)) (cs : Nat × Nat) (cn : Nat × Nat) (ca : Nat) (dn : Nat × Nat) (da : Nat) (I I1 : Nat → Nat → Int32) : Prop := match r with
  | none => I1 cs.1 cs.2 = I cs.1 cs.2 ∧ I1 cn.1 cn.2 = I cn.1 cn.2 ∧ I1 dn.1 dn.2 = I dn.1 dn.2 ∧ I1 ca = I ca ∧ I1 da = I da
  | some (ys, so, ls) => I1 cs.1 cs.2 = so ∧ I1 cn.1 cn.2 = nI ys.length ∧ I1 dn.1 dn.2 = nI ls.length ∧ (∀ j, I1 ca j = if j < ys.length then ys.getD j 0 else I ca j) ∧ (∀ j, I1 da j = if j < ls.length then ls.getD j 0 else I da j)
abbrev xSM (r : Option (List Int32 × Int32 × List Int32)) : (Nat → Nat → Int32) → (Nat → Nat → Int32) → Prop := xSite r (34, 4) (34, 1) 35 (34, 3) 36
abbrev xSC (r : Option (List Int32 × Int32 × List Int32)) : (Nat → Nat → Int32) → (Nat → Nat → Int32) → Prop := xSite r (1, 2) (2, 1) 3 (4, 1) 5
theorem y_rd1 {ro : Nat → Nat × (Nat → Int32)} {Q : mPo} {d : Nat} {I : Nat → Nat → Int32} {L : Nat → Nat → Int64} {s n t : Nat} {I0 : Nat → Nat → Int32} {ys ls : List Int32} {v so : Int32} {w : Option (List Int32 × Int32 × List Int32)} (hw : w = some (ys, so, ls)) (hv : (v = 0 → so = 1) ∧ (¬ v = 0 → so = 0)) (hp : ys.length ≤ 16) (hq8 : ls.length ≤ 8) (hm : mM s n t I) (hx : mGr I0 I) (h42 : ∀ j, j < ys.length → I 42 j = ys.getD j 0) (y42 : ∀ j, j < ys.length → mYR (I 42 j)) (h43 : ∀ j, j < ls.length → I 43 j = ls.getD j 0) (y43 : ∀ j, j < ls.length → mYR (I 43 j)) (hq : ∀ r I1 L1, mXm xSr xFr I0 I1 → mIM I1 → xSM w I0 I1 → Q (some (.int r)) (mSH, I1, L1)) : mWP mTb_ mFT ro (d + 4, 156, 111, [some (.ref 34), some (.int (nI ys.length)), some (.int v), some (.int (nI ls.length)), none], [], 0, 0, (mSH, I, L)) Q := by
  subst hw
  have fin : ∀ (w : Int32), w = so → ∀ I1, (∀ c, c ≠ 35 → c ≠ 36 → I1 c = (mUp (mUp (mUp I 34 1 (nI ys.length)) 34 3 (nI ls.length)) 34 4 w) c) → (∀ j, I1 35 j = if 0 ≤ j ∧ j < ys.length then I 42 j else I 35 j) → (∀ j, I1 36 j = if j < ls.length then I 43 j else I 36 j) → Q (some (.int (nI ys.length + nI ls.length))) (mSH, I1, L) := fun w ew I1 g1 g2 g3 => by
    have g34 := g1 34 (by omega) (by omega)
    have v35 : ∀ j, j < ys.length → I1 35 j = I 42 j := fun j hj => by rw [g2 j, if_pos ⟨Nat.zero_le j, hj⟩]
    have v36 : ∀ j, j < ls.length → I1 36 j = I 43 j := fun j hj => by rw [g3 j, if_pos hj]
    refine hq _ I1 L ⟨fun c hc => ?_, fun j hj => ?_⟩ ⟨ys.length, ls.length, t, ⟨?_, hp⟩, ⟨?_, hq8⟩, ⟨?_, hm.2.2.1.2⟩, fun j hj => by rw [v35 j hj]; exact y42 j hj, fun j hj => by rw [v36 j hj]; exact ⟨(y43 j hj).1, Int.le_trans (y43 j hj).2 (by omega)⟩, ?_⟩ ⟨?_, ?_, ?_, fun j => ?_, fun j => ?_⟩
    · have c34 : c ≠ 34 := mMem_ne hc rfl
      rw [g1 c (mMem_ne hc rfl) (mMem_ne hc rfl), mUp_row c34, mUp_row c34, mUp_row c34]
      exact hx.1 c (mMem_sub (S := xSr) (by decide) hc)
    · rw [g34, mUp_oth (mMem_ne hj rfl), mUp_oth (mMem_ne hj rfl), mUp_oth (mMem_ne hj rfl)]
      exact hx.2 j (mMem_sub (S := xFr) (by decide) hj)
    · rw [g34]
      rfl
    · rw [g34]
      rfl
    · rw [g34]
      exact hm.2.2.1.1
    · rw [g1 41 (by omega) (by omega)]
      exact hm.2.2.2.2.2
    · show I1 34 4 = so
      rw [g34, ← ew]
      rfl
    · show I1 34 1 = _
      rw [g34]
      rfl
    · show I1 34 3 = _
      rw [g34]
      rfl
    · show I1 35 j = _
      rw [g2 j]
      by_cases c : j < ys.length
      · rw [if_pos ⟨Nat.zero_le j, c⟩, if_pos c, h42 j c]
      · rw [if_neg (fun z => c z.2), if_neg c, hx.1 35 rfl]
    · show I1 36 j = _
      rw [g3 j]
      by_cases c : j < ls.length
      · rw [if_pos c, if_pos c, h43 j c]
      · rw [if_neg c, if_neg c, hx.1 36 rfl]
  refine s_rd1 (fun e => ?_) (fun e => ?_)
  · exact l_yrd2 hp hq8 ys.length 0 (by omega) _ (fin _ (hv.1 e).symm)
  · exact l_yrd2 hp hq8 ys.length 0 (by omega) _ (fin _ (hv.2 e).symm)
theorem xGe {x : Int32} {s t : Nat} (ht : x = nI t) (c : x ≤ nI s) (h1 : s < 2 ^ 31) (h2 : t < 2 ^ 31) : ¬ s < t := by
  rw [ht, nI_leI h2 h1] at c
  omega
theorem xNge {x : Int32} {s t : Nat} (ht : x = nI t) (c : ¬ x ≤ nI s) (h1 : s < 2 ^ 31) (h2 : t < 2 ^ 31) : s < t := by
  rw [ht, nI_leI h2 h1] at c
  omega
theorem xSM_no {I J : Nat → Nat → Int32} {w : Option (List Int32 × Int32 × List Int32)} (hw : w = none) (g : mGr I J) : xSM w I J := by
  subst hw
  exact ⟨g.2 4 rfl, g.2 1 rfl, g.2 3 rfl, g.1 35 rfl, g.1 36 rfl⟩
set_option maxHeartbeats 8000000 in
theorem y_reads {ro : Nat → Nat × (Nat → Int32)} {Q : mPo} {d : Nat} {I : Nat → Nat → Int32} {L : Nat → Nat → Int64} {s n t : Nat} {b : Nat → Int32} (hm : mM s n t I) (hb : I 40 = b) (hq : ∀ r I1 L1, mXm xSr xFr I I1 → mIM I1 → xSM (kAll (kWdM b t) b t) I I1 → Q (some (.int r)) (mSH, I1, L1))   : mWP mTb_ mFT ro (d + 5, 156, 0, [some (.ref 34), none, none, none, none], [], 0, 0, (mSH, I, L)) Q := by
  have h120 := hm.2.2.1.2
  have kl : ∀ a, a ≤ 120 → kS b t a ≤ 120 := fun a ha => by
    have := kSk_le (b := b) (t := t) 200 a
    rw [kS_e]
    omega
  refine mB 5 (s2 := (d + 5, 156, 7, [some (.ref 34), none, none, none, none], [.int 0, .ref 34], 0, 0, (mSH, (mUp I 34 12 0), L))) rfl ?_
  refine mCall (s2 := (d + 4, 154, 0, [some (.ref 34), some (.int 0), none, none], [], 0, 0, (mSH, (mUp I 34 12 0), L))) rfl ?_
  refine y_word_0 (b := b) (a := 0) ((mGr.uf (by rfl) mGr.rf).m hm) hb rfl (by first | omega | exact Nat.le_trans (kl _ (by omega)) (by omega) | exact Nat.le_trans (kl _ (kl _ (by omega))) (by omega)) ?_ ?_
  · intro we1
    show mWP mTb_ mFT ro (d + 5, 156, 10, [some (.ref 34), none, none, none, none], [.int 0], 0, 0, (mSH, (mUp (mUp I 34 12 0) 34 12 (nI (kS b t 0))), L)) _
    refine mBT (s2 := (d + 5, 156, 26, [some (.ref 34), none, none, none, none], [], 0, 0, (mSH, (mUp (mUp I 34 12 0) 34 12 (nI (kS b t 0))), L))) rfl (by decide) ?_
    refine mB 3 (s2 := (d + 5, 156, 29, [some (.ref 34), some (.int (-1)), none, none, none], [.int (-1)], 0, 0, (mSH, (mUp (mUp I 34 12 0) 34 12 (nI (kS b t 0))), L))) rfl ?_
    refine mBT (s2 := (d + 5, 156, 41, [some (.ref 34), some (.int (-1)), none, none, none], [], 0, 0, (mSH, (mUp (mUp I 34 12 0) 34 12 (nI (kS b t 0))), L))) rfl (by decide) ?_
    refine mB 4 (s2 := (d + 5, 156, 48, [some (.ref 34), some (.int (-1)), none, none, none], [.int ((-10) - (nI (kS b t 0)))], 0, 0, (mSH, (mUp (mUp I 34 12 0) 34 12 (nI (kS b t 0))), L))) rfl ?_
    refine mRt (r := (some (.int ((-10) - (nI (kS b t 0)))))) (h := (mSH, (mUp (mUp I 34 12 0) 34 12 (nI (kS b t 0))), L)) rfl (mRet_int rfl) ?_
    (have g9 : mGr I (mUp (mUp I 34 12 0) 34 12 (nI (kS b t 0))) := (mGr.uf (by rfl) (mGr.uf (by rfl) mGr.rf)); exact hq _ _ _ g9.xm ⟨s, n, t, g9.m hm⟩ (xSM_no (by simp only [kAll, kPt, we1]) g9))
  · intro e1 we1; have le1 := kWm_e (by decide) we1
    show mWP mTb_ mFT ro (d + 5, 156, 10, [some (.ref 34), none, none, none, none], [.int 1], 0, 0, (mSH, (mUp (mUp I 34 12 0) 34 12 (nI e1)), L)) _
    refine mBF (s3 := (d + 5, 156, 13, [some (.ref 34), none, none, none, none], [], 0, 0, (mSH, (mUp (mUp I 34 12 0) 34 12 (nI e1)), L))) rfl (by decide) ?_
    refine mB 4 (s2 := (d + 5, 156, 20, [some (.ref 34), none, none, none, none], [.int 16, .ref 42, .ref 34], 0, 0, (mSH, (mUp (mUp I 34 12 0) 34 12 (nI e1)), L))) rfl ?_
    refine mCall (s2 := (d + 4, 155, 0, [some (.ref 34), some (.ref 42), some (.int 16), none], [], 0, 0, (mSH, (mUp (mUp I 34 12 0) 34 12 (nI e1)), L))) rfl ?_
    refine y_ns_42 (b := b) (a := e1) ((mGr.uf (by rfl) (mGr.uf (by rfl) mGr.rf)).m hm) hb rfl (by first | omega | exact kl _ (by omega)) ?_ ?_
    · intro kK2 K2 aK2 nK2 bK2 tK2
      show mWP mTb_ mFT ro (d + 5, 156, 23, [some (.ref 34), none, none, none, none], [.int (-1)], 0, 0, (mSH, K2, L)) _
      refine mB 3 (s2 := (d + 5, 156, 29, [some (.ref 34), some (.int (-1)), none, none, none], [.int (-1)], 0, 0, (mSH, K2, L))) rfl ?_
      refine mBT (s2 := (d + 5, 156, 41, [some (.ref 34), some (.int (-1)), none, none, none], [], 0, 0, (mSH, K2, L))) rfl (by decide) ?_
      refine mB 4 (s2 := (d + 5, 156, 48, [some (.ref 34), some (.int (-1)), none, none, none], [.int ((-10) - (K2 34 12))], 0, 0, (mSH, K2, L))) rfl ?_
      refine mRt (r := (some (.int ((-10) - (K2 34 12))))) (h := (mSH, K2, L)) rfl (mRet_int rfl) ?_
      (have g9 : mGr I K2 := (mGr.nr (by omega) nK2 (mGr.uf (by rfl) (mGr.uf (by rfl) mGr.rf))); exact hq _ _ _ g9.xm ⟨s, n, t, g9.m hm⟩ (xSM_no (by simp only [kAll, kPt, we1, kK2]) g9))
    · intro lK2 eK2 kK2 bK2 mK2 K2 nK2 tK2 hK2 yK2
      show mWP mTb_ mFT ro (d + 5, 156, 23, [some (.ref 34), none, none, none, none], [.int (nI lK2.length)], 0, 0, (mSH, K2, L)) _
      refine mB 3 (s2 := (d + 5, 156, 29, [some (.ref 34), some (.int (nI lK2.length)), none, none, none], [.int (nI lK2.length)], 0, 0, (mSH, K2, L))) rfl ?_
      refine mBr (s2 := (d + 5, 156, 41, [some (.ref 34), some (.int (nI lK2.length)), none, none, none], [], 0, 0, (mSH, K2, L))) (s3 := (d + 5, 156, 32, [some (.ref 34), some (.int (nI lK2.length)), none, none, none], [], 0, 0, (mSH, K2, L))) rfl (fun c0 => ?_) (fun c0 => ?_)
      · refine mB 4 (s2 := (d + 5, 156, 48, [some (.ref 34), some (.int (nI lK2.length)), none, none, none], [.int ((-10) - (K2 34 12))], 0, 0, (mSH, K2, L))) rfl ?_
        refine mRt (r := (some (.int ((-10) - (K2 34 12))))) (h := (mSH, K2, L)) rfl (mRet_int rfl) ?_
        exact absurd (of_decide_eq_true c0) (nI_pos (by omega))
      · refine mB 2 (s2 := (d + 5, 156, 35, [some (.ref 34), some (.int (nI lK2.length)), none, none, none], [.int 6, .ref 34], 0, 0, (mSH, K2, L))) rfl ?_
        refine mCall (s2 := (d + 4, 154, 0, [some (.ref 34), some (.int 6), none, none], [], 0, 0, (mSH, K2, L))) rfl ?_
        refine y_word_1 (b := b) (a := eK2) ((mGr.nr (by omega) nK2 (mGr.uf (by rfl) (mGr.uf (by rfl) mGr.rf))).m hm) ((nK2.1 40 (by omega) (by omega)).trans hb) tK2 (by first | omega | exact Nat.le_trans (kl _ (by omega)) (by omega) | exact Nat.le_trans (kl _ (kl _ (by omega))) (by omega)) ?_ ?_
        · intro we3
          show mWP mTb_ mFT ro (d + 5, 156, 38, [some (.ref 34), some (.int (nI lK2.length)), none, none, none], [.int 0], 0, 0, (mSH, (mUp K2 34 12 (nI (kS b t eK2))), L)) _
          refine mBT (s2 := (d + 5, 156, 41, [some (.ref 34), some (.int (nI lK2.length)), none, none, none], [], 0, 0, (mSH, (mUp K2 34 12 (nI (kS b t eK2))), L))) rfl (by decide) ?_
          refine mB 4 (s2 := (d + 5, 156, 48, [some (.ref 34), some (.int (nI lK2.length)), none, none, none], [.int ((-10) - (nI (kS b t eK2)))], 0, 0, (mSH, (mUp K2 34 12 (nI (kS b t eK2))), L))) rfl ?_
          refine mRt (r := (some (.int ((-10) - (nI (kS b t eK2)))))) (h := (mSH, (mUp K2 34 12 (nI (kS b t eK2))), L)) rfl (mRet_int rfl) ?_
          (have g9 : mGr I (mUp K2 34 12 (nI (kS b t eK2))) := (mGr.uf (by rfl) (mGr.nr (by omega) nK2 (mGr.uf (by rfl) (mGr.uf (by rfl) mGr.rf)))); exact hq _ _ _ g9.xm ⟨s, n, t, g9.m hm⟩ (xSM_no (by simp only [kAll, kPt, we1, kK2, we3]) g9))
        · intro e3 we3; have le3 := kWm_e (by decide) we3
          show mWP mTb_ mFT ro (d + 5, 156, 38, [some (.ref 34), some (.int (nI lK2.length)), none, none, none], [.int 1], 0, 0, (mSH, (mUp K2 34 12 (nI e3)), L)) _
          refine mBF (s3 := (d + 5, 156, 49, [some (.ref 34), some (.int (nI lK2.length)), none, none, none], [], 0, 0, (mSH, (mUp K2 34 12 (nI e3)), L))) rfl (by decide) ?_
          refine mB 2 (s2 := (d + 5, 156, 52, [some (.ref 34), some (.int (nI lK2.length)), none, none, none], [.int 11, .ref 34], 0, 0, (mSH, (mUp K2 34 12 (nI e3)), L))) rfl ?_
          refine mCall (s2 := (d + 4, 154, 0, [some (.ref 34), some (.int 11), none, none], [], 0, 0, (mSH, (mUp K2 34 12 (nI e3)), L))) rfl ?_
          refine y_word_2 (b := b) (a := e3) ((mGr.uf (by rfl) (mGr.nr (by omega) nK2 (mGr.uf (by rfl) (mGr.uf (by rfl) mGr.rf)))).m hm) ((nK2.1 40 (by omega) (by omega)).trans hb) rfl (by first | omega | exact Nat.le_trans (kl _ (by omega)) (by omega) | exact Nat.le_trans (kl _ (kl _ (by omega))) (by omega)) ?_ ?_
          · intro we4
            show mWP mTb_ mFT ro (d + 5, 156, 55, [some (.ref 34), some (.int (nI lK2.length)), none, none, none], [.int 0], 0, 0, (mSH, (mUp (mUp K2 34 12 (nI e3)) 34 12 (nI (kS b t e3))), L)) _
            refine mB 2 (s2 := (d + 5, 156, 57, [some (.ref 34), some (.int (nI lK2.length)), some (.int 0), none, none], [.int 0], 0, 0, (mSH, (mUp (mUp K2 34 12 (nI e3)) 34 12 (nI (kS b t e3))), L))) rfl ?_
            refine mBT (s2 := (d + 5, 156, 60, [some (.ref 34), some (.int (nI lK2.length)), some (.int 0), none, none], [], 0, 0, (mSH, (mUp (mUp K2 34 12 (nI e3)) 34 12 (nI (kS b t e3))), L))) rfl (by decide) ?_
            refine mB 2 (s2 := (d + 5, 156, 63, [some (.ref 34), some (.int (nI lK2.length)), some (.int 0), none, none], [.int 17, .ref 34], 0, 0, (mSH, (mUp (mUp K2 34 12 (nI e3)) 34 12 (nI (kS b t e3))), L))) rfl ?_
            refine mCall (s2 := (d + 4, 154, 0, [some (.ref 34), some (.int 17), none, none], [], 0, 0, (mSH, (mUp (mUp K2 34 12 (nI e3)) 34 12 (nI (kS b t e3))), L))) rfl ?_
            refine y_word_3 (b := b) (a := kS b t e3) ((mGr.uf (by rfl) (mGr.uf (by rfl) (mGr.nr (by omega) nK2 (mGr.uf (by rfl) (mGr.uf (by rfl) mGr.rf))))).m hm) ((nK2.1 40 (by omega) (by omega)).trans hb) rfl (by first | omega | exact Nat.le_trans (kl _ (by omega)) (by omega) | exact Nat.le_trans (kl _ (kl _ (by omega))) (by omega)) ?_ ?_
            · intro we5
              show mWP mTb_ mFT ro (d + 5, 156, 66, [some (.ref 34), some (.int (nI lK2.length)), some (.int 0), none, none], [.int 0], 0, 0, (mSH, (mUp (mUp (mUp K2 34 12 (nI e3)) 34 12 (nI (kS b t e3))) 34 12 (nI (kS b t (kS b t e3)))), L)) _
              refine mBT (s2 := (d + 5, 156, 82, [some (.ref 34), some (.int (nI lK2.length)), some (.int 0), none, none], [], 0, 0, (mSH, (mUp (mUp (mUp K2 34 12 (nI e3)) 34 12 (nI (kS b t e3))) 34 12 (nI (kS b t (kS b t e3)))), L))) rfl (by decide) ?_
              refine mB 3 (s2 := (d + 5, 156, 85, [some (.ref 34), some (.int (nI lK2.length)), some (.int 0), some (.int (-1)), none], [.ref 34], 0, 0, (mSH, (mUp (mUp (mUp K2 34 12 (nI e3)) 34 12 (nI (kS b t e3))) 34 12 (nI (kS b t (kS b t e3)))), L))) rfl ?_
              refine mCall (s2 := (d + 4, 152, 0, [some (.ref 34)], [], 0, 0, (mSH, (mUp (mUp (mUp K2 34 12 (nI e3)) 34 12 (nI (kS b t e3))) 34 12 (nI (kS b t (kS b t e3)))), L))) rfl ?_
              refine y_skips (b := b) (a := kS b t (kS b t e3)) ((mGr.uf (by rfl) (mGr.uf (by rfl) (mGr.uf (by rfl) (mGr.nr (by omega) nK2 (mGr.uf (by rfl) (mGr.uf (by rfl) mGr.rf)))))).m hm) ((nK2.1 40 (by omega) (by omega)).trans hb) rfl (by first | omega | exact Nat.le_trans (kl _ (by omega)) (by omega) | exact Nat.le_trans (kl _ (kl _ (by omega))) (by omega)) ?_
              show mWP mTb_ mFT ro (d + 5, 156, 88, [some (.ref 34), some (.int (nI lK2.length)), some (.int 0), some (.int (-1)), none], [], 0, 0, (mSH, (mUp (mUp (mUp (mUp K2 34 12 (nI e3)) 34 12 (nI (kS b t e3))) 34 12 (nI (kS b t (kS b t e3)))) 34 12 (nI (kS b t (kS b t (kS b t e3))))), L)) _
              refine mB 1 (s2 := (d + 5, 156, 89, [some (.ref 34), some (.int (nI lK2.length)), some (.int 0), some (.int (-1)), none], [.int (-1)], 0, 0, (mSH, (mUp (mUp (mUp (mUp K2 34 12 (nI e3)) 34 12 (nI (kS b t e3))) 34 12 (nI (kS b t (kS b t e3)))) 34 12 (nI (kS b t (kS b t (kS b t e3))))), L))) rfl ?_
              refine mBT (s2 := (d + 5, 156, 103, [some (.ref 34), some (.int (nI lK2.length)), some (.int 0), some (.int (-1)), none], [], 0, 0, (mSH, (mUp (mUp (mUp (mUp K2 34 12 (nI e3)) 34 12 (nI (kS b t e3))) 34 12 (nI (kS b t (kS b t e3)))) 34 12 (nI (kS b t (kS b t (kS b t e3))))), L))) rfl (by decide) ?_
              refine mB 4 (s2 := (d + 5, 156, 110, [some (.ref 34), some (.int (nI lK2.length)), some (.int 0), some (.int (-1)), none], [.int ((-10) - (nI (kS b t (kS b t (kS b t e3)))))], 0, 0, (mSH, (mUp (mUp (mUp (mUp K2 34 12 (nI e3)) 34 12 (nI (kS b t e3))) 34 12 (nI (kS b t (kS b t e3)))) 34 12 (nI (kS b t (kS b t (kS b t e3))))), L))) rfl ?_
              refine mRt (r := (some (.int ((-10) - (nI (kS b t (kS b t (kS b t e3)))))))) (h := (mSH, (mUp (mUp (mUp (mUp K2 34 12 (nI e3)) 34 12 (nI (kS b t e3))) 34 12 (nI (kS b t (kS b t e3)))) 34 12 (nI (kS b t (kS b t (kS b t e3))))), L)) rfl (mRet_int rfl) ?_
              (have g9 : mGr I (mUp (mUp (mUp (mUp K2 34 12 (nI e3)) 34 12 (nI (kS b t e3))) 34 12 (nI (kS b t (kS b t e3)))) 34 12 (nI (kS b t (kS b t (kS b t e3))))) := (mGr.uf (by rfl) (mGr.uf (by rfl) (mGr.uf (by rfl) (mGr.uf (by rfl) (mGr.nr (by omega) nK2 (mGr.uf (by rfl) (mGr.uf (by rfl) mGr.rf))))))); exact hq _ _ _ g9.xm ⟨s, n, t, g9.m hm⟩ (xSM_no (by simp only [kAll, kPt, we1, kK2, we3, we4, we5]) g9))
            · intro e5 we5; have le5 := kWm_e (by decide) we5
              show mWP mTb_ mFT ro (d + 5, 156, 66, [some (.ref 34), some (.int (nI lK2.length)), some (.int 0), none, none], [.int 1], 0, 0, (mSH, (mUp (mUp (mUp K2 34 12 (nI e3)) 34 12 (nI (kS b t e3))) 34 12 (nI e5)), L)) _
              refine mBF (s3 := (d + 5, 156, 69, [some (.ref 34), some (.int (nI lK2.length)), some (.int 0), none, none], [], 0, 0, (mSH, (mUp (mUp (mUp K2 34 12 (nI e3)) 34 12 (nI (kS b t e3))) 34 12 (nI e5)), L))) rfl (by decide) ?_
              refine mB 4 (s2 := (d + 5, 156, 76, [some (.ref 34), some (.int (nI lK2.length)), some (.int 0), none, none], [.int 8, .ref 43, .ref 34], 0, 0, (mSH, (mUp (mUp (mUp K2 34 12 (nI e3)) 34 12 (nI (kS b t e3))) 34 12 (nI e5)), L))) rfl ?_
              refine mCall (s2 := (d + 4, 155, 0, [some (.ref 34), some (.ref 43), some (.int 8), none], [], 0, 0, (mSH, (mUp (mUp (mUp K2 34 12 (nI e3)) 34 12 (nI (kS b t e3))) 34 12 (nI e5)), L))) rfl ?_
              refine y_ns_43 (b := b) (a := e5) ((mGr.uf (by rfl) (mGr.uf (by rfl) (mGr.uf (by rfl) (mGr.nr (by omega) nK2 (mGr.uf (by rfl) (mGr.uf (by rfl) mGr.rf)))))).m hm) ((nK2.1 40 (by omega) (by omega)).trans hb) rfl (by first | omega | exact kl _ (by omega)) ?_ ?_
              · intro kK6 K6 aK6 nK6 bK6 tK6
                show mWP mTb_ mFT ro (d + 5, 156, 79, [some (.ref 34), some (.int (nI lK2.length)), some (.int 0), none, none], [.int (-1)], 0, 0, (mSH, K6, L)) _
                refine mB 3 (s2 := (d + 5, 156, 85, [some (.ref 34), some (.int (nI lK2.length)), some (.int 0), some (.int (-1)), none], [.ref 34], 0, 0, (mSH, K6, L))) rfl ?_
                refine mCall (s2 := (d + 4, 152, 0, [some (.ref 34)], [], 0, 0, (mSH, K6, L))) rfl ?_
                refine y_skips (b := b) (a := aK6) ((mGr.nr (by omega) nK6 (mGr.uf (by rfl) (mGr.uf (by rfl) (mGr.uf (by rfl) (mGr.nr (by omega) nK2 (mGr.uf (by rfl) (mGr.uf (by rfl) mGr.rf))))))).m hm) ((nK6.1 40 (by omega) (by omega)).trans ((nK2.1 40 (by omega) (by omega)).trans hb)) tK6 (by first | omega | exact Nat.le_trans (kl _ (by omega)) (by omega) | exact Nat.le_trans (kl _ (kl _ (by omega))) (by omega)) ?_
                show mWP mTb_ mFT ro (d + 5, 156, 88, [some (.ref 34), some (.int (nI lK2.length)), some (.int 0), some (.int (-1)), none], [], 0, 0, (mSH, (mUp K6 34 12 (nI (kS b t aK6))), L)) _
                refine mB 1 (s2 := (d + 5, 156, 89, [some (.ref 34), some (.int (nI lK2.length)), some (.int 0), some (.int (-1)), none], [.int (-1)], 0, 0, (mSH, (mUp K6 34 12 (nI (kS b t aK6))), L))) rfl ?_
                refine mBT (s2 := (d + 5, 156, 103, [some (.ref 34), some (.int (nI lK2.length)), some (.int 0), some (.int (-1)), none], [], 0, 0, (mSH, (mUp K6 34 12 (nI (kS b t aK6))), L))) rfl (by decide) ?_
                refine mB 4 (s2 := (d + 5, 156, 110, [some (.ref 34), some (.int (nI lK2.length)), some (.int 0), some (.int (-1)), none], [.int ((-10) - (nI (kS b t aK6)))], 0, 0, (mSH, (mUp K6 34 12 (nI (kS b t aK6))), L))) rfl ?_
                refine mRt (r := (some (.int ((-10) - (nI (kS b t aK6)))))) (h := (mSH, (mUp K6 34 12 (nI (kS b t aK6))), L)) rfl (mRet_int rfl) ?_
                (have g9 : mGr I (mUp K6 34 12 (nI (kS b t aK6))) := (mGr.uf (by rfl) (mGr.nr (by omega) nK6 (mGr.uf (by rfl) (mGr.uf (by rfl) (mGr.uf (by rfl) (mGr.nr (by omega) nK2 (mGr.uf (by rfl) (mGr.uf (by rfl) mGr.rf)))))))); exact hq _ _ _ g9.xm ⟨s, n, t, g9.m hm⟩ (xSM_no (by simp only [kAll, kPt, we1, kK2, we3, we4, we5, kK6]) g9))
              · intro lK6 eK6 kK6 bK6 mK6 K6 nK6 tK6 hK6 yK6
                show mWP mTb_ mFT ro (d + 5, 156, 79, [some (.ref 34), some (.int (nI lK2.length)), some (.int 0), none, none], [.int (nI lK6.length)], 0, 0, (mSH, K6, L)) _
                refine mB 3 (s2 := (d + 5, 156, 85, [some (.ref 34), some (.int (nI lK2.length)), some (.int 0), some (.int (nI lK6.length)), none], [.ref 34], 0, 0, (mSH, K6, L))) rfl ?_
                refine mCall (s2 := (d + 4, 152, 0, [some (.ref 34)], [], 0, 0, (mSH, K6, L))) rfl ?_
                refine y_skips (b := b) (a := eK6) ((mGr.nr (by omega) nK6 (mGr.uf (by rfl) (mGr.uf (by rfl) (mGr.uf (by rfl) (mGr.nr (by omega) nK2 (mGr.uf (by rfl) (mGr.uf (by rfl) mGr.rf))))))).m hm) ((nK6.1 40 (by omega) (by omega)).trans ((nK2.1 40 (by omega) (by omega)).trans hb)) tK6 (by first | omega | exact Nat.le_trans (kl _ (by omega)) (by omega) | exact Nat.le_trans (kl _ (kl _ (by omega))) (by omega)) ?_
                show mWP mTb_ mFT ro (d + 5, 156, 88, [some (.ref 34), some (.int (nI lK2.length)), some (.int 0), some (.int (nI lK6.length)), none], [], 0, 0, (mSH, (mUp K6 34 12 (nI (kS b t eK6))), L)) _
                refine mB 1 (s2 := (d + 5, 156, 89, [some (.ref 34), some (.int (nI lK2.length)), some (.int 0), some (.int (nI lK6.length)), none], [.int (nI lK6.length)], 0, 0, (mSH, (mUp K6 34 12 (nI (kS b t eK6))), L))) rfl ?_
                refine mBr (s2 := (d + 5, 156, 103, [some (.ref 34), some (.int (nI lK2.length)), some (.int 0), some (.int (nI lK6.length)), none], [], 0, 0, (mSH, (mUp K6 34 12 (nI (kS b t eK6))), L))) (s3 := (d + 5, 156, 92, [some (.ref 34), some (.int (nI lK2.length)), some (.int 0), some (.int (nI lK6.length)), none], [], 0, 0, (mSH, (mUp K6 34 12 (nI (kS b t eK6))), L))) rfl (fun c1 => ?_) (fun c1 => ?_)
                · refine mB 4 (s2 := (d + 5, 156, 110, [some (.ref 34), some (.int (nI lK2.length)), some (.int 0), some (.int (nI lK6.length)), none], [.int ((-10) - (nI (kS b t eK6)))], 0, 0, (mSH, (mUp K6 34 12 (nI (kS b t eK6))), L))) rfl ?_
                  refine mRt (r := (some (.int ((-10) - (nI (kS b t eK6)))))) (h := (mSH, (mUp K6 34 12 (nI (kS b t eK6))), L)) rfl (mRet_int rfl) ?_
                  exact absurd (of_decide_eq_true c1) (nI_pos (by omega))
                · refine mB 4 (s2 := (d + 5, 156, 100, [some (.ref 34), some (.int (nI lK2.length)), some (.int 0), some (.int (nI lK6.length)), none], [.int (K6 34 11), .int (nI (kS b t eK6))], 0, 0, (mSH, (mUp K6 34 12 (nI (kS b t eK6))), L))) rfl ?_
                  refine mBr (s2 := (d + 5, 156, 111, [some (.ref 34), some (.int (nI lK2.length)), some (.int 0), some (.int (nI lK6.length)), none], [], 0, 0, (mSH, (mUp K6 34 12 (nI (kS b t eK6))), L))) (s3 := (d + 5, 156, 103, [some (.ref 34), some (.int (nI lK2.length)), some (.int 0), some (.int (nI lK6.length)), none], [], 0, 0, (mSH, (mUp K6 34 12 (nI (kS b t eK6))), L))) rfl (fun c2 => ?_) (fun c2 => ?_)
                  · (have g9 : mGr I (mUp K6 34 12 (nI (kS b t eK6))) := (mGr.uf (by rfl) (mGr.nr (by omega) nK6 (mGr.uf (by rfl) (mGr.uf (by rfl) (mGr.uf (by rfl) (mGr.nr (by omega) nK2 (mGr.uf (by rfl) (mGr.uf (by rfl) mGr.rf)))))))); have w9 : kAll (kWdM b t) b t = some (lK2, 1, lK6) := (by simp only [kAll, kPt, we1, kK2, we3, we4, we5, kK6]; rw [if_neg (xGe (g9.m hm).2.2.1.1 (of_decide_eq_true c2) (by have z := kl eK6 (by omega); omega) (by omega))]); exact y_rd1 w9 (by decide) mK2 mK6 (g9.m hm) g9 (show ∀ j, j < lK2.length → K6 42 j = lK2.getD j 0 from (by rw [nK6.1 42 (by omega) (by omega)]; exact hK2)) (show ∀ j, j < lK2.length → mYR (K6 42 j) from (by rw [nK6.1 42 (by omega) (by omega)]; exact yK2)) hK6 yK6 hq)
                  · refine mB 4 (s2 := (d + 5, 156, 110, [some (.ref 34), some (.int (nI lK2.length)), some (.int 0), some (.int (nI lK6.length)), none], [.int ((-10) - (nI (kS b t eK6)))], 0, 0, (mSH, (mUp K6 34 12 (nI (kS b t eK6))), L))) rfl ?_
                    refine mRt (r := (some (.int ((-10) - (nI (kS b t eK6)))))) (h := (mSH, (mUp K6 34 12 (nI (kS b t eK6))), L)) rfl (mRet_int rfl) ?_
                    (have g9 : mGr I (mUp K6 34 12 (nI (kS b t eK6))) := (mGr.uf (by rfl) (mGr.nr (by omega) nK6 (mGr.uf (by rfl) (mGr.uf (by rfl) (mGr.uf (by rfl) (mGr.nr (by omega) nK2 (mGr.uf (by rfl) (mGr.uf (by rfl) mGr.rf)))))))); exact hq _ _ _ g9.xm ⟨s, n, t, g9.m hm⟩ (xSM_no (by simp only [kAll, kPt, we1, kK2, we3, we4, we5, kK6]; rw [if_pos (xNge (g9.m hm).2.2.1.1 (of_decide_eq_false c2) (by have z := kl eK6 (by omega); omega) (by omega))]) g9))
          · intro e4 we4; have le4 := kWm_e (by decide) we4
            show mWP mTb_ mFT ro (d + 5, 156, 55, [some (.ref 34), some (.int (nI lK2.length)), none, none, none], [.int 1], 0, 0, (mSH, (mUp (mUp K2 34 12 (nI e3)) 34 12 (nI e4)), L)) _
            refine mB 2 (s2 := (d + 5, 156, 57, [some (.ref 34), some (.int (nI lK2.length)), some (.int 1), none, none], [.int 1], 0, 0, (mSH, (mUp (mUp K2 34 12 (nI e3)) 34 12 (nI e4)), L))) rfl ?_
            refine mBF (s3 := (d + 5, 156, 69, [some (.ref 34), some (.int (nI lK2.length)), some (.int 1), none, none], [], 0, 0, (mSH, (mUp (mUp K2 34 12 (nI e3)) 34 12 (nI e4)), L))) rfl (by decide) ?_
            refine mB 4 (s2 := (d + 5, 156, 76, [some (.ref 34), some (.int (nI lK2.length)), some (.int 1), none, none], [.int 8, .ref 43, .ref 34], 0, 0, (mSH, (mUp (mUp K2 34 12 (nI e3)) 34 12 (nI e4)), L))) rfl ?_
            refine mCall (s2 := (d + 4, 155, 0, [some (.ref 34), some (.ref 43), some (.int 8), none], [], 0, 0, (mSH, (mUp (mUp K2 34 12 (nI e3)) 34 12 (nI e4)), L))) rfl ?_
            refine y_ns_43 (b := b) (a := e4) ((mGr.uf (by rfl) (mGr.uf (by rfl) (mGr.nr (by omega) nK2 (mGr.uf (by rfl) (mGr.uf (by rfl) mGr.rf))))).m hm) ((nK2.1 40 (by omega) (by omega)).trans hb) rfl (by first | omega | exact kl _ (by omega)) ?_ ?_
            · intro kK7 K7 aK7 nK7 bK7 tK7
              show mWP mTb_ mFT ro (d + 5, 156, 79, [some (.ref 34), some (.int (nI lK2.length)), some (.int 1), none, none], [.int (-1)], 0, 0, (mSH, K7, L)) _
              refine mB 3 (s2 := (d + 5, 156, 85, [some (.ref 34), some (.int (nI lK2.length)), some (.int 1), some (.int (-1)), none], [.ref 34], 0, 0, (mSH, K7, L))) rfl ?_
              refine mCall (s2 := (d + 4, 152, 0, [some (.ref 34)], [], 0, 0, (mSH, K7, L))) rfl ?_
              refine y_skips (b := b) (a := aK7) ((mGr.nr (by omega) nK7 (mGr.uf (by rfl) (mGr.uf (by rfl) (mGr.nr (by omega) nK2 (mGr.uf (by rfl) (mGr.uf (by rfl) mGr.rf)))))).m hm) ((nK7.1 40 (by omega) (by omega)).trans ((nK2.1 40 (by omega) (by omega)).trans hb)) tK7 (by first | omega | exact Nat.le_trans (kl _ (by omega)) (by omega) | exact Nat.le_trans (kl _ (kl _ (by omega))) (by omega)) ?_
              show mWP mTb_ mFT ro (d + 5, 156, 88, [some (.ref 34), some (.int (nI lK2.length)), some (.int 1), some (.int (-1)), none], [], 0, 0, (mSH, (mUp K7 34 12 (nI (kS b t aK7))), L)) _
              refine mB 1 (s2 := (d + 5, 156, 89, [some (.ref 34), some (.int (nI lK2.length)), some (.int 1), some (.int (-1)), none], [.int (-1)], 0, 0, (mSH, (mUp K7 34 12 (nI (kS b t aK7))), L))) rfl ?_
              refine mBT (s2 := (d + 5, 156, 103, [some (.ref 34), some (.int (nI lK2.length)), some (.int 1), some (.int (-1)), none], [], 0, 0, (mSH, (mUp K7 34 12 (nI (kS b t aK7))), L))) rfl (by decide) ?_
              refine mB 4 (s2 := (d + 5, 156, 110, [some (.ref 34), some (.int (nI lK2.length)), some (.int 1), some (.int (-1)), none], [.int ((-10) - (nI (kS b t aK7)))], 0, 0, (mSH, (mUp K7 34 12 (nI (kS b t aK7))), L))) rfl ?_
              refine mRt (r := (some (.int ((-10) - (nI (kS b t aK7)))))) (h := (mSH, (mUp K7 34 12 (nI (kS b t aK7))), L)) rfl (mRet_int rfl) ?_
              (have g9 : mGr I (mUp K7 34 12 (nI (kS b t aK7))) := (mGr.uf (by rfl) (mGr.nr (by omega) nK7 (mGr.uf (by rfl) (mGr.uf (by rfl) (mGr.nr (by omega) nK2 (mGr.uf (by rfl) (mGr.uf (by rfl) mGr.rf))))))); exact hq _ _ _ g9.xm ⟨s, n, t, g9.m hm⟩ (xSM_no (by simp only [kAll, kPt, we1, kK2, we3, we4, kK7]) g9))
            · intro lK7 eK7 kK7 bK7 mK7 K7 nK7 tK7 hK7 yK7
              show mWP mTb_ mFT ro (d + 5, 156, 79, [some (.ref 34), some (.int (nI lK2.length)), some (.int 1), none, none], [.int (nI lK7.length)], 0, 0, (mSH, K7, L)) _
              refine mB 3 (s2 := (d + 5, 156, 85, [some (.ref 34), some (.int (nI lK2.length)), some (.int 1), some (.int (nI lK7.length)), none], [.ref 34], 0, 0, (mSH, K7, L))) rfl ?_
              refine mCall (s2 := (d + 4, 152, 0, [some (.ref 34)], [], 0, 0, (mSH, K7, L))) rfl ?_
              refine y_skips (b := b) (a := eK7) ((mGr.nr (by omega) nK7 (mGr.uf (by rfl) (mGr.uf (by rfl) (mGr.nr (by omega) nK2 (mGr.uf (by rfl) (mGr.uf (by rfl) mGr.rf)))))).m hm) ((nK7.1 40 (by omega) (by omega)).trans ((nK2.1 40 (by omega) (by omega)).trans hb)) tK7 (by first | omega | exact Nat.le_trans (kl _ (by omega)) (by omega) | exact Nat.le_trans (kl _ (kl _ (by omega))) (by omega)) ?_
              show mWP mTb_ mFT ro (d + 5, 156, 88, [some (.ref 34), some (.int (nI lK2.length)), some (.int 1), some (.int (nI lK7.length)), none], [], 0, 0, (mSH, (mUp K7 34 12 (nI (kS b t eK7))), L)) _
              refine mB 1 (s2 := (d + 5, 156, 89, [some (.ref 34), some (.int (nI lK2.length)), some (.int 1), some (.int (nI lK7.length)), none], [.int (nI lK7.length)], 0, 0, (mSH, (mUp K7 34 12 (nI (kS b t eK7))), L))) rfl ?_
              refine mBr (s2 := (d + 5, 156, 103, [some (.ref 34), some (.int (nI lK2.length)), some (.int 1), some (.int (nI lK7.length)), none], [], 0, 0, (mSH, (mUp K7 34 12 (nI (kS b t eK7))), L))) (s3 := (d + 5, 156, 92, [some (.ref 34), some (.int (nI lK2.length)), some (.int 1), some (.int (nI lK7.length)), none], [], 0, 0, (mSH, (mUp K7 34 12 (nI (kS b t eK7))), L))) rfl (fun c1 => ?_) (fun c1 => ?_)
              · refine mB 4 (s2 := (d + 5, 156, 110, [some (.ref 34), some (.int (nI lK2.length)), some (.int 1), some (.int (nI lK7.length)), none], [.int ((-10) - (nI (kS b t eK7)))], 0, 0, (mSH, (mUp K7 34 12 (nI (kS b t eK7))), L))) rfl ?_
                refine mRt (r := (some (.int ((-10) - (nI (kS b t eK7)))))) (h := (mSH, (mUp K7 34 12 (nI (kS b t eK7))), L)) rfl (mRet_int rfl) ?_
                exact absurd (of_decide_eq_true c1) (nI_pos (by omega))
              · refine mB 4 (s2 := (d + 5, 156, 100, [some (.ref 34), some (.int (nI lK2.length)), some (.int 1), some (.int (nI lK7.length)), none], [.int (K7 34 11), .int (nI (kS b t eK7))], 0, 0, (mSH, (mUp K7 34 12 (nI (kS b t eK7))), L))) rfl ?_
                refine mBr (s2 := (d + 5, 156, 111, [some (.ref 34), some (.int (nI lK2.length)), some (.int 1), some (.int (nI lK7.length)), none], [], 0, 0, (mSH, (mUp K7 34 12 (nI (kS b t eK7))), L))) (s3 := (d + 5, 156, 103, [some (.ref 34), some (.int (nI lK2.length)), some (.int 1), some (.int (nI lK7.length)), none], [], 0, 0, (mSH, (mUp K7 34 12 (nI (kS b t eK7))), L))) rfl (fun c2 => ?_) (fun c2 => ?_)
                · (have g9 : mGr I (mUp K7 34 12 (nI (kS b t eK7))) := (mGr.uf (by rfl) (mGr.nr (by omega) nK7 (mGr.uf (by rfl) (mGr.uf (by rfl) (mGr.nr (by omega) nK2 (mGr.uf (by rfl) (mGr.uf (by rfl) mGr.rf))))))); have w9 : kAll (kWdM b t) b t = some (lK2, 0, lK7) := (by simp only [kAll, kPt, we1, kK2, we3, we4, kK7]; rw [if_neg (xGe (g9.m hm).2.2.1.1 (of_decide_eq_true c2) (by have z := kl eK7 (by omega); omega) (by omega))]); exact y_rd1 w9 (by decide) mK2 mK7 (g9.m hm) g9 (show ∀ j, j < lK2.length → K7 42 j = lK2.getD j 0 from (by rw [nK7.1 42 (by omega) (by omega)]; exact hK2)) (show ∀ j, j < lK2.length → mYR (K7 42 j) from (by rw [nK7.1 42 (by omega) (by omega)]; exact yK2)) hK7 yK7 hq)
                · refine mB 4 (s2 := (d + 5, 156, 110, [some (.ref 34), some (.int (nI lK2.length)), some (.int 1), some (.int (nI lK7.length)), none], [.int ((-10) - (nI (kS b t eK7)))], 0, 0, (mSH, (mUp K7 34 12 (nI (kS b t eK7))), L))) rfl ?_
                  refine mRt (r := (some (.int ((-10) - (nI (kS b t eK7)))))) (h := (mSH, (mUp K7 34 12 (nI (kS b t eK7))), L)) rfl (mRet_int rfl) ?_
                  (have g9 : mGr I (mUp K7 34 12 (nI (kS b t eK7))) := (mGr.uf (by rfl) (mGr.nr (by omega) nK7 (mGr.uf (by rfl) (mGr.uf (by rfl) (mGr.nr (by omega) nK2 (mGr.uf (by rfl) (mGr.uf (by rfl) mGr.rf))))))); exact hq _ _ _ g9.xm ⟨s, n, t, g9.m hm⟩ (xSM_no (by simp only [kAll, kPt, we1, kK2, we3, we4, kK7]; rw [if_pos (xNge (g9.m hm).2.2.1.1 (of_decide_eq_false c2) (by have z := kl eK7 (by omega); omega) (by omega))]) g9))
