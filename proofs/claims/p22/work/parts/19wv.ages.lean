/-! The class's ages, exactly. Written by a program (wip/mk_c.py). -/
section CA
variable {ro : Nat → Nat × (Nat → Int32)} {Q : mPo} {d : Nat} {I : Nat → Nat → Int32} {L : Nat → Nat → Int64} {T : ct_S} {e : bt_E} {j i m : Nat} {v w : Int32}
theorem x_yrsv (e0 : v = nI i) (e1 : w = nI m) (hT : ct_So T) (hS : cl_S T I) (h : i + m ≤ T.1.1) (hq : Q (some (.int (nI (ct_ys T.2.1 i m)))) (mSH, I, L)) : mWP mTb_ mFT ro (d + 1, 69, 0, [some (.ref 1), some (.int v), some (.int w), none, none], [], 0, 0, (mSH, I, L)) Q := by
  subst e0
  subst e1
  exact w_yrs hT hS h hq
theorem x_at23 (e0 : v = nI j) (hn : T.1.2.1 ≤ 8) (hM : cl_M T.1.2.1 e I) (hj : j < T.1.2.1) (hq : Q (some (.int (nI (bt_bl e.2.tail j)))) (mSH, I, L)) : mWP mTb_ mFT ro (d, 42, 0, [some (.ref 23), some (.int v)], [], 0, 0, (mSH, I, L)) Q := by
  subst e0
  refine w_at_23 (mCn.of hM.2.1 hn (by omega)) ?_
  rw [mAt_lt hM.2.1 hj (by omega), hM.bl hj]
  exact hq
theorem x_at4 (e0 : v = nI j) (hT : ct_So T) (hS : cl_S T I) (hj : j < T.1.2.1) (hq : Q (some (.int (nI (T.2.2 j)))) (mSH, I, L)) : mWP mTb_ mFT ro (d, 42, 0, [some (.ref 4), some (.int v)], [], 0, 0, (mSH, I, L)) Q := by
  subst e0
  have := hT.2.1
  refine w_at_4 (hS.cn4 hT) ?_
  rw [mAt_lt hS.2.1 hj (by omega), hS.2.2.2.2 j hj]
  exact hq
theorem x_t23 (e0 : v = nI j) (hT : ct_So T) (hM : cl_M T.1.2.1 e I) (hj : j ≤ T.1.2.1) (hq : Q (some (.int (nI (ct_ys (bt_bl e.2.tail) 0 j)))) (mSH, I, L)) : mWP mTb_ mFT ro (d, 47, 0, [some (.ref 23), some (.int v), none, none], [], 0, 0, (mSH, I, L)) Q := by
  have := hT.2.1
  refine x_tot_23 (y := bt_bl e.2.tail) e0 (by omega) hM.2.1 hT.2.1 (fun k hk => hM.bl hk) ?_
  rw [Nat.min_eq_right hj]
  exact hq
theorem x_t2 (e0 : v = nI j) (hT : ct_So T) (hS : cl_S T I) (hj : j ≤ T.1.1) (hq : Q (some (.int (nI (ct_ys T.2.1 0 j)))) (mSH, I, L)) : mWP mTb_ mFT ro (d, 47, 0, [some (.ref 2), some (.int v), none, none], [], 0, 0, (mSH, I, L)) Q := by
  have := hT.1
  refine x_tot_2 (y := T.2.1) e0 (by omega) hS.1 hT.1 hS.2.2.2.1 ?_
  rw [Nat.min_eq_right hj]
  exact hq
theorem x_t4 (e0 : v = nI j) (hT : ct_So T) (hS : cl_S T I) (hj : j ≤ T.1.2.1) (hq : Q (some (.int (nI (an_D T j)))) (mSH, I, L)) : mWP mTb_ mFT ro (d, 47, 0, [some (.ref 4), some (.int v), none, none], [], 0, 0, (mSH, I, L)) Q := by
  have := hT.2.1
  refine x_tot_4 (y := T.2.2) e0 (by omega) hS.2.1 hT.2.1 hS.2.2.2.2 ?_
  rw [Nat.min_eq_right hj]
  exact hq
end CA
theorem x_yof {ro : Nat → Nat × (Nat → Int32)} {Q : mPo} {d : Nat} {I : Nat → Nat → Int32} {L : Nat → Nat → Int64} {T : ct_S} {e : bt_E} {v0 : Int32} {j : Nat} (hT : ct_So T) (hS : cl_S T I) (hM : cl_M T.1.2.1 e I) (hv : bt_vl T.1.1 T.1.2.1 e.2) (e0 : v0 = nI j) (hj : j < T.1.2.1) (hq : Q (some (.int (nI (an_Y T e j)))) (mSH, I, L))   : mWP mTb_ mFT ro (d + 2, 17, 0, [some (.ref 22), some (.int v0)], [], 0, 0, (mSH, I, L)) Q := by
  refine mB 7 (s2 := (d + 2, 17, 13, [some (.ref 22), some (.int v0)], [.int v0, .ref 23, .int (I 22 2), .ref 1], 0, 0, (mSH, I, L))) rfl ?_
  refine mCall (s2 := (d + 1, 47, 0, [some (.ref 23), some (.int v0), none, none], [], 0, 0, (mSH, I, L))) rfl ?_
  refine x_t23 e0 hT hM (Nat.le_of_lt hj) ?_
  show mWP mTb_ mFT ro (d + 2, 17, 16, [some (.ref 22), some (.int v0)], [.int (nI (ct_ys (bt_bl e.2.tail) 0 j)), .int (I 22 2), .ref 1], 0, 0, (mSH, I, L)) _
  refine mB 4 (s2 := (d + 2, 17, 22, [some (.ref 22), some (.int v0)], [.int v0, .ref 23, .int ((I 22 2) + (nI (ct_ys (bt_bl e.2.tail) 0 j))), .ref 1], 0, 0, (mSH, I, L))) rfl ?_
  refine mCall (s2 := (d + 1, 42, 0, [some (.ref 23), some (.int v0)], [], 0, 0, (mSH, I, L))) rfl ?_
  refine x_at23 e0 hT.2.1 hM hj ?_
  show mWP mTb_ mFT ro (d + 2, 17, 25, [some (.ref 22), some (.int v0)], [.int (nI (bt_bl e.2.tail j)), .int ((I 22 2) + (nI (ct_ys (bt_bl e.2.tail) 0 j))), .ref 1], 0, 0, (mSH, I, L)) _
  refine mCall (s2 := (d + 1, 69, 0, [some (.ref 1), some (.int ((I 22 2) + (nI (ct_ys (bt_bl e.2.tail) 0 j)))), some (.int (nI (bt_bl e.2.tail j))), none, none], [], 0, 0, (mSH, I, L))) rfl ?_
  refine x_yrsv (i := an_p e j) (m := bt_bl e.2.tail j) (by rw [hM.hd, nI_add]; rfl) rfl hT hS (an_Yb hT hv hj).1 ?_
  show mWP mTb_ mFT ro (d + 2, 17, 28, [some (.ref 22), some (.int v0)], [.int (nI (an_Y T e j))], 0, 0, (mSH, I, L)) _
  refine mRt (r := (some (.int (nI (an_Y T e j))))) (h := (mSH, I, L)) rfl (mRet_int rfl) ?_
  exact hq
theorem x_aab {ro : Nat → Nat × (Nat → Int32)} {Q : mPo} {d : Nat} {I : Nat → Nat → Int32} {L : Nat → Nat → Int64} {T : ct_S} {e : bt_E} {v0 : Int32} {j : Nat} (hT : ct_So T) (hS : cl_S T I) (hM : cl_M T.1.2.1 e I) (hv : bt_vl T.1.1 T.1.2.1 e.2) (e0 : v0 = nI j) (hj : j ≤ T.1.2.1) (hq : Q (some (.int (nI (an_A T e j)))) (mSH, I, L))   : mWP mTb_ mFT ro (d + 1, 20, 0, [some (.ref 22), some (.int v0)], [], 0, 0, (mSH, I, L)) Q := by
  refine mB 8 (s2 := (d + 1, 20, 16, [some (.ref 22), some (.int v0)], [.int v0, .ref 23, .int (I 22 2), .ref 2], 0, 0, (mSH, I, L))) rfl ?_
  refine mCall (s2 := (d, 47, 0, [some (.ref 23), some (.int v0), none, none], [], 0, 0, (mSH, I, L))) rfl ?_
  refine x_t23 e0 hT hM hj ?_
  show mWP mTb_ mFT ro (d + 1, 20, 19, [some (.ref 22), some (.int v0)], [.int (nI (ct_ys (bt_bl e.2.tail) 0 j)), .int (I 22 2), .ref 2], 0, 0, (mSH, I, L)) _
  refine mB 1 (s2 := (d + 1, 20, 20, [some (.ref 22), some (.int v0)], [.int ((I 22 2) + (nI (ct_ys (bt_bl e.2.tail) 0 j))), .ref 2], 0, 0, (mSH, I, L))) rfl ?_
  refine mCall (s2 := (d, 47, 0, [some (.ref 2), some (.int ((I 22 2) + (nI (ct_ys (bt_bl e.2.tail) 0 j)))), none, none], [], 0, 0, (mSH, I, L))) rfl ?_
  refine x_t2 (j := an_p e j) (by rw [hM.hd, nI_add]; rfl) hT hS (an_Ab hT hv hj).1 ?_
  show mWP mTb_ mFT ro (d + 1, 20, 23, [some (.ref 22), some (.int v0)], [.int (nI (an_A T e j))], 0, 0, (mSH, I, L)) _
  refine mRt (r := (some (.int (nI (an_A T e j))))) (h := (mSH, I, L)) rfl (mRet_int rfl) ?_
  exact hq
theorem x_top {ro : Nat → Nat × (Nat → Int32)} {Q : mPo} {d : Nat} {I : Nat → Nat → Int32} {L : Nat → Nat → Int64} {T : ct_S} {e : bt_E} (hT : ct_So T) (hS : cl_S T I) (hM : cl_M T.1.2.1 e I) (hv : bt_vl T.1.1 T.1.2.1 e.2) (hq : Q (some (.int (nI (an_A T e 0)))) (mSH, I, L))   : mWP mTb_ mFT ro (d + 2, 18, 0, [some (.ref 22)], [], 0, 0, (mSH, I, L)) Q := by
  refine mB 5 (s2 := (d + 2, 18, 11, [some (.ref 22)], [.int (I 22 2), .ref 2], 0, 0, (mSH, I, L))) rfl ?_
  refine mCall (s2 := (d + 1, 47, 0, [some (.ref 2), some (.int (I 22 2)), none, none], [], 0, 0, (mSH, I, L))) rfl ?_
  refine x_t2 (j := an_p e 0) hM.hd hT hS (an_Ab hT hv (Nat.zero_le _)).1 ?_
  show mWP mTb_ mFT ro (d + 2, 18, 14, [some (.ref 22)], [.int (nI (an_A T e 0))], 0, 0, (mSH, I, L)) _
  refine mRt (r := (some (.int (nI (an_A T e 0))))) (h := (mSH, I, L)) rfl (mRet_int rfl) ?_
  exact hq
theorem x_bot {ro : Nat → Nat × (Nat → Int32)} {Q : mPo} {d : Nat} {I : Nat → Nat → Int32} {L : Nat → Nat → Int64} {T : ct_S} {e : bt_E} (hT : ct_So T) (hS : cl_S T I) (hM : cl_M T.1.2.1 e I) (hv : bt_vl T.1.1 T.1.2.1 e.2) (hq : Q (some (.int (nI (an_A T e T.1.2.1)))) (mSH, I, L))   : mWP mTb_ mFT ro (d + 3, 19, 0, [some (.ref 22)], [], 0, 0, (mSH, I, L)) Q := by
  refine mB 4 (s2 := (d + 3, 19, 8, [some (.ref 22)], [.ref 22, .ref 2], 0, 0, (mSH, I, L))) rfl ?_
  refine mCall (s2 := (d + 2, 16, 0, [some (.ref 22)], [], 0, 0, (mSH, I, L))) rfl ?_
  refine x_behind hM hv hT.1 hT.2.1 ?_
  show mWP mTb_ mFT ro (d + 3, 19, 11, [some (.ref 22)], [.int (nI (an_p e T.1.2.1)), .ref 2], 0, 0, (mSH, I, L)) _
  refine mCall (s2 := (d + 2, 47, 0, [some (.ref 2), some (.int (nI (an_p e T.1.2.1))), none, none], [], 0, 0, (mSH, I, L))) rfl ?_
  refine x_t2 (j := an_p e T.1.2.1) rfl hT hS (an_Ab hT hv (Nat.le_refl _)).1 ?_
  show mWP mTb_ mFT ro (d + 3, 19, 14, [some (.ref 22)], [.int (nI (an_A T e T.1.2.1))], 0, 0, (mSH, I, L)) _
  refine mRt (r := (some (.int (nI (an_A T e T.1.2.1))))) (h := (mSH, I, L)) rfl (mRet_int rfl) ?_
  exact hq
section JS
variable {p : Nat → Bool} {T : ct_S} {e : bt_E}
theorem an_js_p : ∀ (f j : Nat), (j ≤ an_js p f j ∧ an_js p f j ≤ j + f) ∧ (∀ i, j ≤ i → i < an_js p f j → p i = true) ∧ (an_js p f j < j + f → ¬ p (an_js p f j) = true)
  | 0, j => ⟨⟨Nat.le_refl _, Nat.le_refl _⟩, fun i h1 h2 => absurd (Nat.lt_of_le_of_lt h1 h2) (Nat.lt_irrefl _), fun h => absurd h (Nat.lt_irrefl _)⟩
  | f + 1, j => by
    have z := an_js_p f (j + 1)
    unfold an_js
    by_cases c : p j = true
    · rw [if_pos c]
      refine ⟨⟨by omega, by omega⟩, fun i h1 h2 => ?_, fun h => z.2.2 (by omega)⟩
      by_cases e : i = j
      · rw [e]; exact c
      · exact z.2.1 i (by omega) h2
    · rw [if_neg c]
      exact ⟨⟨Nat.le_refl _, by omega⟩, fun i h1 h2 => by omega, fun _ => c⟩
def an_pd (T : ct_S) (x j : Nat) : Bool := decide (an_D T (j + 1) < x)
def an_py (T : ct_S) (e : bt_E) (x j : Nat) : Bool := decide (an_A T e (j + 1) < x)
/-- the layer at depth x; at age x -/
def an_jd (T : ct_S) (x : Nat) : Nat := an_js (an_pd T x) (T.1.2.1 - 1) 0
def an_jy (T : ct_S) (e : bt_E) (x : Nat) : Nat := an_js (an_py T e x) (T.1.2.1 - 1) 0
theorem an_jd_p {x : Nat} (hn : 0 < T.1.2.1) : an_jd T x < T.1.2.1 ∧ an_D T (an_jd T x) ≤ x := by
  have z := an_js_p (p := an_pd T x) (T.1.2.1 - 1) 0
  unfold an_jd
  refine ⟨by omega, ?_⟩
  rcases Nat.eq_zero_or_pos (an_js (an_pd T x) (T.1.2.1 - 1) 0) with y | y
  · rw [y]
    exact Nat.zero_le _
  · have w := of_decide_eq_true (z.2.1 (an_js (an_pd T x) (T.1.2.1 - 1) 0 - 1) (Nat.zero_le _) (by omega))
    rw [Nat.sub_add_cancel y] at w
    omega
theorem an_jy_p {x : Nat} (hn : 0 < T.1.2.1) (hx : an_A T e 0 ≤ x) : an_jy T e x < T.1.2.1 ∧ an_A T e (an_jy T e x) ≤ x := by
  have z := an_js_p (p := an_py T e x) (T.1.2.1 - 1) 0
  unfold an_jy
  refine ⟨by omega, ?_⟩
  rcases Nat.eq_zero_or_pos (an_js (an_py T e x) (T.1.2.1 - 1) 0) with y | y
  · rw [y]
    exact hx
  · have w := of_decide_eq_true (z.2.1 (an_js (an_py T e x) (T.1.2.1 - 1) 0 - 1) (Nat.zero_le _) (by omega))
    rw [Nat.sub_add_cancel y] at w
    omega
end JS
theorem s_ladx {ro : Nat → Nat × (Nat → Int32)} {Q : mPo} {d : Nat} {I : Nat → Nat → Int32} {L : Nat → Nat → Int64} {T : ct_S} {e : bt_E} {v : Int32} {k : Nat} (hT : ct_So T) (hS : cl_S T I) (hM : cl_M T.1.2.1 e I) (hv : bt_vl T.1.1 T.1.2.1 e.2) (hb : ¬ (I 23 1 - 1 ≤ nI k) → k + 1 ≤ T.1.2.1)  (h1 : (((I 23 1) - 1) ≤ (nI k)) → Q (some (.int (nI k))) (mSH, I, L)) (h2 : ¬ (((I 23 1) - 1) ≤ (nI k)) → (v ≤ (nI (an_D T (k + 1)))) → Q (some (.int (nI k))) (mSH, I, L)) (h3 : ¬ (((I 23 1) - 1) ≤ (nI k)) → ¬ (v ≤ (nI (an_D T (k + 1)))) → mWP mTb_ mFT ro (d + 1, 21, 2, [some (.ref 22), some (.int v), some (.int ((nI k) + 1))], [], 0, 0, (mSH, I, L)) Q) : mWP mTb_ mFT ro (d + 1, 21, 2, [some (.ref 22), some (.int v), some (.int (nI k))], [], 0, 0, (mSH, I, L)) Q := by
  refine mB 3 (s2 := (d + 1, 21, 7, [some (.ref 22), some (.int v), some (.int (nI k))], [.ref 23, .int (nI k)], 0, 0, (mSH, I, L))) rfl ?_
  refine mCall (s2 := (d, 39, 0, [some (.ref 23)], [], 0, 0, (mSH, I, L))) rfl ?_
  refine mB 2 (s2 := (d, 39, 4, [some (.ref 23)], [.int (I 23 1)], 0, 0, (mSH, I, L))) rfl ?_
  refine mRt (r := (some (.int (I 23 1)))) (h := (mSH, I, L)) rfl (mRet_int rfl) ?_
  show mWP mTb_ mFT ro (d + 1, 21, 10, [some (.ref 22), some (.int v), some (.int (nI k))], [.int (I 23 1), .int (nI k)], 0, 0, (mSH, I, L)) _
  refine mB 2 (s2 := (d + 1, 21, 12, [some (.ref 22), some (.int v), some (.int (nI k))], [.int ((I 23 1) - 1), .int (nI k)], 0, 0, (mSH, I, L))) rfl ?_
  refine mBr (s2 := (d + 1, 21, 38, [some (.ref 22), some (.int v), some (.int (nI k))], [], 0, 0, (mSH, I, L))) (s3 := (d + 1, 21, 15, [some (.ref 22), some (.int v), some (.int (nI k))], [], 0, 0, (mSH, I, L))) rfl (fun c0 => ?_) (fun c0 => ?_)
  · refine mB 1 (s2 := (d + 1, 21, 39, [some (.ref 22), some (.int v), some (.int (nI k))], [.int (nI k)], 0, 0, (mSH, I, L))) rfl ?_
    refine mRt (r := (some (.int (nI k)))) (h := (mSH, I, L)) rfl (mRet_int rfl) ?_
    exact h1 (of_decide_eq_true c0)
  · refine mB 7 (s2 := (d + 1, 21, 26, [some (.ref 22), some (.int v), some (.int (nI k))], [.int ((nI k) + 1), .ref 4, .int v], 0, 0, (mSH, I, L))) rfl ?_
    refine mCall (s2 := (d, 47, 0, [some (.ref 4), some (.int ((nI k) + 1)), none, none], [], 0, 0, (mSH, I, L))) rfl ?_
    refine x_t4 (j := k + 1) (nI_add k 1) hT hS (hb (of_decide_eq_false c0)) ?_
    show mWP mTb_ mFT ro (d + 1, 21, 29, [some (.ref 22), some (.int v), some (.int (nI k))], [.int (nI (an_D T (k + 1))), .int v], 0, 0, (mSH, I, L)) _
    refine mBr (s2 := (d + 1, 21, 38, [some (.ref 22), some (.int v), some (.int (nI k))], [], 0, 0, (mSH, I, L))) (s3 := (d + 1, 21, 32, [some (.ref 22), some (.int v), some (.int (nI k))], [], 0, 0, (mSH, I, L))) rfl (fun c1 => ?_) (fun c1 => ?_)
    · refine mB 1 (s2 := (d + 1, 21, 39, [some (.ref 22), some (.int v), some (.int (nI k))], [.int (nI k)], 0, 0, (mSH, I, L))) rfl ?_
      refine mRt (r := (some (.int (nI k)))) (h := (mSH, I, L)) rfl (mRet_int rfl) ?_
      exact h2 (of_decide_eq_false c0) (of_decide_eq_true c1)
    · refine mB 2 (s2 := (d + 1, 21, 2, [some (.ref 22), some (.int v), some (.int ((nI k) + 1))], [], 0, 0, (mSH, I, L))) rfl ?_
      exact h3 (of_decide_eq_false c0) (of_decide_eq_false c1)
theorem l_ladx {ro : Nat → Nat × (Nat → Int32)} {Q : mPo} {d : Nat} {I : Nat → Nat → Int32} {L : Nat → Nat → Int64} {T : ct_S} {e : bt_E} {v : Int32} {x : Nat} (hT : ct_So T) (hS : cl_S T I) (hM : cl_M T.1.2.1 e I) (hv : bt_vl T.1.1 T.1.2.1 e.2) (e0 : v = nI x) (hx : x < 2 ^ 31) : ∀ (f k : Nat), k + f + 1 = T.1.2.1 → Q (some (.int (nI (an_js (an_pd T x) f k)))) (mSH, I, L) → mWP mTb_ mFT ro (d + 1, 21, 2, [some (.ref 22), some (.int v), some (.int (nI k))], [], 0, 0, (mSH, I, L)) Q := by
  have n8 := hT.2.1
  intro f
  induction f with
  | zero =>
    intro k hk hq
    have z : I 23 1 - 1 ≤ nI k := by
      rw [hM.2.1, ← hk, nI_sp]
      exact nI_le (Nat.le_refl _) (by omega)
    exact s_ladx hT hS hM hv (fun c => absurd z c) (fun _ => hq) (fun c => absurd z c) (fun c => absurd z c)
  | succ f ih =>
    intro k hk hq
    have z : ¬ I 23 1 - 1 ≤ nI k := by
      rw [hM.2.1, ← hk, nI_sp]
      exact nI_ge (by omega) (by omega)
    have le : v ≤ nI (an_D T (k + 1)) ↔ x ≤ an_D T (k + 1) := by
      rw [e0]
      exact nI_leI hx (by have z := an_Db hT (k + 1) (by omega); omega)
    refine s_ladx hT hS hM hv (fun _ => by omega) (fun c => absurd c z) (fun _ c => ?_) (fun _ c => ?_)
    · have y : an_js (an_pd T x) (f + 1) k = k := if_neg (fun y => by have y := of_decide_eq_true y; have := le.mp c; omega)
      rw [y] at hq
      exact hq
    · have y : an_js (an_pd T x) (f + 1) k = an_js (an_pd T x) f (k + 1) := if_pos (decide_eq_true (by have := mt le.mpr c; omega))
      rw [y] at hq
      rw [nI_1]
      exact ih (k + 1) (by omega) hq
theorem x_lad {ro : Nat → Nat × (Nat → Int32)} {Q : mPo} {d : Nat} {I : Nat → Nat → Int32} {L : Nat → Nat → Int64} {T : ct_S} {e : bt_E} {v : Int32} {x : Nat} (hT : ct_So T) (hS : cl_S T I) (hM : cl_M T.1.2.1 e I) (hv : bt_vl T.1.1 T.1.2.1 e.2) (hn : 0 < T.1.2.1) (e0 : v = nI x) (hx : x < 2 ^ 31) (hq : Q (some (.int (nI (an_jd T x)))) (mSH, I, L)) : mWP mTb_ mFT ro (d + 1, 21, 0, [some (.ref 22), some (.int v), none], [], 0, 0, (mSH, I, L)) Q :=
  mB 2 (s2 := (d + 1, 21, 2, [some (.ref 22), some (.int v), some (.int (nI 0))], [], 0, 0, (mSH, I, L))) rfl (l_ladx hT hS hM hv e0 hx (T.1.2.1 - 1) 0 (by omega) hq)
theorem s_laax {ro : Nat → Nat × (Nat → Int32)} {Q : mPo} {d : Nat} {I : Nat → Nat → Int32} {L : Nat → Nat → Int64} {T : ct_S} {e : bt_E} {v : Int32} {k : Nat} (hT : ct_So T) (hS : cl_S T I) (hM : cl_M T.1.2.1 e I) (hv : bt_vl T.1.1 T.1.2.1 e.2) (hb : ¬ (I 23 1 - 1 ≤ nI k) → k + 1 ≤ T.1.2.1)  (h1 : (((I 23 1) - 1) ≤ (nI k)) → Q (some (.int (nI k))) (mSH, I, L)) (h2 : ¬ (((I 23 1) - 1) ≤ (nI k)) → (v ≤ (nI (an_A T e (k + 1)))) → Q (some (.int (nI k))) (mSH, I, L)) (h3 : ¬ (((I 23 1) - 1) ≤ (nI k)) → ¬ (v ≤ (nI (an_A T e (k + 1)))) → mWP mTb_ mFT ro (d + 2, 22, 2, [some (.ref 22), some (.int v), some (.int ((nI k) + 1))], [], 0, 0, (mSH, I, L)) Q) : mWP mTb_ mFT ro (d + 2, 22, 2, [some (.ref 22), some (.int v), some (.int (nI k))], [], 0, 0, (mSH, I, L)) Q := by
  refine mB 3 (s2 := (d + 2, 22, 7, [some (.ref 22), some (.int v), some (.int (nI k))], [.ref 23, .int (nI k)], 0, 0, (mSH, I, L))) rfl ?_
  refine mCall (s2 := (d + 1, 39, 0, [some (.ref 23)], [], 0, 0, (mSH, I, L))) rfl ?_
  refine mB 2 (s2 := (d + 1, 39, 4, [some (.ref 23)], [.int (I 23 1)], 0, 0, (mSH, I, L))) rfl ?_
  refine mRt (r := (some (.int (I 23 1)))) (h := (mSH, I, L)) rfl (mRet_int rfl) ?_
  show mWP mTb_ mFT ro (d + 2, 22, 10, [some (.ref 22), some (.int v), some (.int (nI k))], [.int (I 23 1), .int (nI k)], 0, 0, (mSH, I, L)) _
  refine mB 2 (s2 := (d + 2, 22, 12, [some (.ref 22), some (.int v), some (.int (nI k))], [.int ((I 23 1) - 1), .int (nI k)], 0, 0, (mSH, I, L))) rfl ?_
  refine mBr (s2 := (d + 2, 22, 32, [some (.ref 22), some (.int v), some (.int (nI k))], [], 0, 0, (mSH, I, L))) (s3 := (d + 2, 22, 15, [some (.ref 22), some (.int v), some (.int (nI k))], [], 0, 0, (mSH, I, L))) rfl (fun c0 => ?_) (fun c0 => ?_)
  · refine mB 1 (s2 := (d + 2, 22, 33, [some (.ref 22), some (.int v), some (.int (nI k))], [.int (nI k)], 0, 0, (mSH, I, L))) rfl ?_
    refine mRt (r := (some (.int (nI k)))) (h := (mSH, I, L)) rfl (mRet_int rfl) ?_
    exact h1 (of_decide_eq_true c0)
  · refine mB 5 (s2 := (d + 2, 22, 20, [some (.ref 22), some (.int v), some (.int (nI k))], [.int ((nI k) + 1), .ref 22, .int v], 0, 0, (mSH, I, L))) rfl ?_
    refine mCall (s2 := (d + 1, 20, 0, [some (.ref 22), some (.int ((nI k) + 1))], [], 0, 0, (mSH, I, L))) rfl ?_
    refine x_aab (j := k + 1) hT hS hM hv (nI_add k 1) (hb (of_decide_eq_false c0)) ?_
    show mWP mTb_ mFT ro (d + 2, 22, 23, [some (.ref 22), some (.int v), some (.int (nI k))], [.int (nI (an_A T e (k + 1))), .int v], 0, 0, (mSH, I, L)) _
    refine mBr (s2 := (d + 2, 22, 32, [some (.ref 22), some (.int v), some (.int (nI k))], [], 0, 0, (mSH, I, L))) (s3 := (d + 2, 22, 26, [some (.ref 22), some (.int v), some (.int (nI k))], [], 0, 0, (mSH, I, L))) rfl (fun c1 => ?_) (fun c1 => ?_)
    · refine mB 1 (s2 := (d + 2, 22, 33, [some (.ref 22), some (.int v), some (.int (nI k))], [.int (nI k)], 0, 0, (mSH, I, L))) rfl ?_
      refine mRt (r := (some (.int (nI k)))) (h := (mSH, I, L)) rfl (mRet_int rfl) ?_
      exact h2 (of_decide_eq_false c0) (of_decide_eq_true c1)
    · refine mB 2 (s2 := (d + 2, 22, 2, [some (.ref 22), some (.int v), some (.int ((nI k) + 1))], [], 0, 0, (mSH, I, L))) rfl ?_
      exact h3 (of_decide_eq_false c0) (of_decide_eq_false c1)
theorem l_laax {ro : Nat → Nat × (Nat → Int32)} {Q : mPo} {d : Nat} {I : Nat → Nat → Int32} {L : Nat → Nat → Int64} {T : ct_S} {e : bt_E} {v : Int32} {x : Nat} (hT : ct_So T) (hS : cl_S T I) (hM : cl_M T.1.2.1 e I) (hv : bt_vl T.1.1 T.1.2.1 e.2) (e0 : v = nI x) (hx : x < 2 ^ 31) : ∀ (f k : Nat), k + f + 1 = T.1.2.1 → Q (some (.int (nI (an_js (an_py T e x) f k)))) (mSH, I, L) → mWP mTb_ mFT ro (d + 2, 22, 2, [some (.ref 22), some (.int v), some (.int (nI k))], [], 0, 0, (mSH, I, L)) Q := by
  have n8 := hT.2.1
  intro f
  induction f with
  | zero =>
    intro k hk hq
    have z : I 23 1 - 1 ≤ nI k := by
      rw [hM.2.1, ← hk, nI_sp]
      exact nI_le (Nat.le_refl _) (by omega)
    exact s_laax hT hS hM hv (fun c => absurd z c) (fun _ => hq) (fun c => absurd z c) (fun c => absurd z c)
  | succ f ih =>
    intro k hk hq
    have z : ¬ I 23 1 - 1 ≤ nI k := by
      rw [hM.2.1, ← hk, nI_sp]
      exact nI_ge (by omega) (by omega)
    have le : v ≤ nI (an_A T e (k + 1)) ↔ x ≤ an_A T e (k + 1) := by
      rw [e0]
      exact nI_leI hx (by have z := (an_Ab hT hv (show k + 1 ≤ T.1.2.1 by omega)).2; omega)
    refine s_laax hT hS hM hv (fun _ => by omega) (fun c => absurd c z) (fun _ c => ?_) (fun _ c => ?_)
    · have y : an_js (an_py T e x) (f + 1) k = k := if_neg (fun y => by have y := of_decide_eq_true y; have := le.mp c; omega)
      rw [y] at hq
      exact hq
    · have y : an_js (an_py T e x) (f + 1) k = an_js (an_py T e x) f (k + 1) := if_pos (decide_eq_true (by have := mt le.mpr c; omega))
      rw [y] at hq
      rw [nI_1]
      exact ih (k + 1) (by omega) hq
theorem x_laa {ro : Nat → Nat × (Nat → Int32)} {Q : mPo} {d : Nat} {I : Nat → Nat → Int32} {L : Nat → Nat → Int64} {T : ct_S} {e : bt_E} {v : Int32} {x : Nat} (hT : ct_So T) (hS : cl_S T I) (hM : cl_M T.1.2.1 e I) (hv : bt_vl T.1.1 T.1.2.1 e.2) (hn : 0 < T.1.2.1) (e0 : v = nI x) (hx : x < 2 ^ 31) (hq : Q (some (.int (nI (an_jy T e x)))) (mSH, I, L)) : mWP mTb_ mFT ro (d + 2, 22, 0, [some (.ref 22), some (.int v), none], [], 0, 0, (mSH, I, L)) Q :=
  mB 2 (s2 := (d + 2, 22, 2, [some (.ref 22), some (.int v), some (.int (nI 0))], [], 0, 0, (mSH, I, L))) rfl (l_laax hT hS hM hv e0 hx (T.1.2.1 - 1) 0 (by omega) hq)
theorem x_tage {ro : Nat → Nat × (Nat → Int32)} {Q : mPo} {d : Nat} {I : Nat → Nat → Int32} {L : Nat → Nat → Int64} {T : ct_S} {e : bt_E} {v0 : Int32} {x jj : Nat} (hT : ct_So T) (hS : cl_S T I) (hM : cl_M T.1.2.1 e I) (hv : bt_vl T.1.1 T.1.2.1 e.2) (hn : 0 < T.1.2.1) (e0 : v0 = nI x) (hx : x ≤ 7992) (ejj : an_jd T x = jj) (hj : jj < T.1.2.1) (hd : an_D T jj ≤ x) (hq : Q none (mSH, mUp (mUp I 25 0 (nI (fr_a (an_A T e jj * T.2.2 jj + (x - an_D T jj) * an_Y T e jj) (T.2.2 jj)))) 25 1 (nI (fr_b (an_A T e jj * T.2.2 jj + (x - an_D T jj) * an_Y T e jj) (T.2.2 jj))), L))   : mWP mTb_ mFT ro (d + 3, 23, 0, [some (.ref 22), some (.int v0), some (.ref 25), none, none, none], [], 0, 0, (mSH, I, L)) Q := by
  have n8 := hT.2.1
  have yb := (an_Yb hT hv hj).2
  have ab := (an_Ab hT hv (Nat.le_of_lt hj)).2
  have db := an_Db hT jj (Nat.le_of_lt hj)
  have lb := hT.2.2.2.2 jj hj
  have m1 : an_A T e jj * T.2.2 jj ≤ 1584 * 999 := Nat.mul_le_mul ab lb.2
  have m2 : (x - an_D T jj) * an_Y T e jj ≤ 7992 * 1584 := Nat.mul_le_mul (by omega) yb.2
  have m3 : an_D T jj * an_Y T e jj ≤ 7992 * 1584 := Nat.mul_le_mul (by omega) yb.2
  have m4 : (x - an_A T e jj) * T.2.2 jj ≤ 7992 * 999 := Nat.mul_le_mul (by omega) lb.2
  have ea : nI (an_A T e jj) * nI (T.2.2 jj) + (v0 - nI (an_D T jj)) * nI (an_Y T e jj) = nI (an_A T e jj * T.2.2 jj + (x - an_D T jj) * an_Y T e jj) := by rw [e0, pk_sub hd, nI_mul, nI_mul, nI_add]
  have hab : an_A T e jj * T.2.2 jj + (x - an_D T jj) * an_Y T e jj < 2 ^ 31 := by omega
  have hb0 := lb.1
  refine mB 2 (s2 := (d + 3, 23, 2, [some (.ref 22), some (.int v0), some (.ref 25), none, none, none], [.int v0, .ref 22], 0, 0, (mSH, I, L))) rfl ?_
  refine mCall (s2 := (d + 2, 21, 0, [some (.ref 22), some (.int v0), none], [], 0, 0, (mSH, I, L))) rfl ?_
  refine x_lad hT hS hM hv hn e0 (by omega) ?_; rw [ejj]
  show mWP mTb_ mFT ro (d + 3, 23, 5, [some (.ref 22), some (.int v0), some (.ref 25), none, none, none], [.int (nI jj)], 0, 0, (mSH, I, L)) _
  refine mB 5 (s2 := (d + 3, 23, 14, [some (.ref 22), some (.int v0), some (.ref 25), some (.int (nI jj)), none, none], [.int (nI jj), .ref 4], 0, 0, (mSH, I, L))) rfl ?_
  refine mCall (s2 := (d + 2, 42, 0, [some (.ref 4), some (.int (nI jj))], [], 0, 0, (mSH, I, L))) rfl ?_
  refine x_at4 rfl hT hS hj ?_
  show mWP mTb_ mFT ro (d + 3, 23, 17, [some (.ref 22), some (.int v0), some (.ref 25), some (.int (nI jj)), none, none], [.int (nI (T.2.2 jj))], 0, 0, (mSH, I, L)) _
  refine mB 6 (s2 := (d + 3, 23, 28, [some (.ref 22), some (.int v0), some (.ref 25), some (.int (nI jj)), some (.int (nI (T.2.2 jj))), none], [.int (nI jj), .ref 4, .int v0], 0, 0, (mSH, I, L))) rfl ?_
  refine mCall (s2 := (d + 2, 47, 0, [some (.ref 4), some (.int (nI jj)), none, none], [], 0, 0, (mSH, I, L))) rfl ?_
  refine x_t4 rfl hT hS (Nat.le_of_lt hj) ?_
  show mWP mTb_ mFT ro (d + 3, 23, 31, [some (.ref 22), some (.int v0), some (.ref 25), some (.int (nI jj)), some (.int (nI (T.2.2 jj))), none], [.int (nI (an_D T jj)), .int v0], 0, 0, (mSH, I, L)) _
  refine mB 5 (s2 := (d + 3, 23, 37, [some (.ref 22), some (.int v0), some (.ref 25), some (.int (nI jj)), some (.int (nI (T.2.2 jj))), some (.int (v0 - (nI (an_D T jj))))], [.int (nI jj), .ref 22, .ref 25], 0, 0, (mSH, I, L))) rfl ?_
  refine mCall (s2 := (d + 2, 20, 0, [some (.ref 22), some (.int (nI jj))], [], 0, 0, (mSH, I, L))) rfl ?_
  refine x_aab hT hS hM hv rfl (Nat.le_of_lt hj) ?_
  show mWP mTb_ mFT ro (d + 3, 23, 40, [some (.ref 22), some (.int v0), some (.ref 25), some (.int (nI jj)), some (.int (nI (T.2.2 jj))), some (.int (v0 - (nI (an_D T jj))))], [.int (nI (an_A T e jj)), .ref 25], 0, 0, (mSH, I, L)) _
  refine mB 5 (s2 := (d + 3, 23, 47, [some (.ref 22), some (.int v0), some (.ref 25), some (.int (nI jj)), some (.int (nI (T.2.2 jj))), some (.int (v0 - (nI (an_D T jj))))], [.int (nI jj), .ref 22, .int (v0 - (nI (an_D T jj))), .int ((nI (an_A T e jj)) * (nI (T.2.2 jj))), .ref 25], 0, 0, (mSH, I, L))) rfl ?_
  refine mCall (s2 := (d + 2, 17, 0, [some (.ref 22), some (.int (nI jj))], [], 0, 0, (mSH, I, L))) rfl ?_
  refine x_yof hT hS hM hv rfl hj ?_
  show mWP mTb_ mFT ro (d + 3, 23, 50, [some (.ref 22), some (.int v0), some (.ref 25), some (.int (nI jj)), some (.int (nI (T.2.2 jj))), some (.int (v0 - (nI (an_D T jj))))], [.int (nI (an_Y T e jj)), .int (v0 - (nI (an_D T jj))), .int ((nI (an_A T e jj)) * (nI (T.2.2 jj))), .ref 25], 0, 0, (mSH, I, L)) _
  refine mB 3 (s2 := (d + 3, 23, 54, [some (.ref 22), some (.int v0), some (.ref 25), some (.int (nI jj)), some (.int (nI (T.2.2 jj))), some (.int (v0 - (nI (an_D T jj))))], [.int (nI (T.2.2 jj)), .int (((nI (an_A T e jj)) * (nI (T.2.2 jj))) + ((v0 - (nI (an_D T jj))) * (nI (an_Y T e jj)))), .ref 25], 0, 0, (mSH, I, L))) rfl ?_
  refine mCall (s2 := (d + 2, 5, 0, [some (.ref 25), some (.int (((nI (an_A T e jj)) * (nI (T.2.2 jj))) + ((v0 - (nI (an_D T jj))) * (nI (an_Y T e jj))))), some (.int (nI (T.2.2 jj))), none], [], 0, 0, (mSH, I, L))) rfl ?_
  refine x_frac (a := an_A T e jj * T.2.2 jj + (x - an_D T jj) * an_Y T e jj) (b := T.2.2 jj) ea rfl hab hb0 (by omega) ?_
  show mWP mTb_ mFT ro (d + 3, 23, 57, [some (.ref 22), some (.int v0), some (.ref 25), some (.int (nI jj)), some (.int (nI (T.2.2 jj))), some (.int (v0 - (nI (an_D T jj))))], [], 0, 0, (mSH, (mUp (mUp I 25 0 (nI (fr_a (an_A T e jj * T.2.2 jj + (x - an_D T jj) * an_Y T e jj) (T.2.2 jj)))) 25 1 (nI (fr_b (an_A T e jj * T.2.2 jj + (x - an_D T jj) * an_Y T e jj) (T.2.2 jj)))), L)) _
  refine mRt (r := none) (h := (mSH, (mUp (mUp I 25 0 (nI (fr_a (an_A T e jj * T.2.2 jj + (x - an_D T jj) * an_Y T e jj) (T.2.2 jj)))) 25 1 (nI (fr_b (an_A T e jj * T.2.2 jj + (x - an_D T jj) * an_Y T e jj) (T.2.2 jj)))), L)) rfl rfl ?_
  exact hq
theorem x_tdep {ro : Nat → Nat × (Nat → Int32)} {Q : mPo} {d : Nat} {I : Nat → Nat → Int32} {L : Nat → Nat → Int64} {T : ct_S} {e : bt_E} {v0 : Int32} {x jj : Nat} (hT : ct_So T) (hS : cl_S T I) (hM : cl_M T.1.2.1 e I) (hv : bt_vl T.1.1 T.1.2.1 e.2) (hn : 0 < T.1.2.1) (e0 : v0 = nI x) (hx : x ≤ 7992) (ejj : an_jy T e x = jj) (hj : jj < T.1.2.1) (hd : an_A T e jj ≤ x) (hq : Q none (mSH, mUp (mUp I 25 0 (nI (fr_a (an_D T jj * an_Y T e jj + (x - an_A T e jj) * T.2.2 jj) (an_Y T e jj)))) 25 1 (nI (fr_b (an_D T jj * an_Y T e jj + (x - an_A T e jj) * T.2.2 jj) (an_Y T e jj))), L))   : mWP mTb_ mFT ro (d + 3, 24, 0, [some (.ref 22), some (.int v0), some (.ref 25), none, none, none], [], 0, 0, (mSH, I, L)) Q := by
  have n8 := hT.2.1
  have yb := (an_Yb hT hv hj).2
  have ab := (an_Ab hT hv (Nat.le_of_lt hj)).2
  have db := an_Db hT jj (Nat.le_of_lt hj)
  have lb := hT.2.2.2.2 jj hj
  have m1 : an_A T e jj * T.2.2 jj ≤ 1584 * 999 := Nat.mul_le_mul ab lb.2
  have m2 : (x - an_D T jj) * an_Y T e jj ≤ 7992 * 1584 := Nat.mul_le_mul (by omega) yb.2
  have m3 : an_D T jj * an_Y T e jj ≤ 7992 * 1584 := Nat.mul_le_mul (by omega) yb.2
  have m4 : (x - an_A T e jj) * T.2.2 jj ≤ 7992 * 999 := Nat.mul_le_mul (by omega) lb.2
  have ea : nI (an_D T jj) * nI (an_Y T e jj) + (v0 - nI (an_A T e jj)) * nI (T.2.2 jj) = nI (an_D T jj * an_Y T e jj + (x - an_A T e jj) * T.2.2 jj) := by rw [e0, pk_sub hd, nI_mul, nI_mul, nI_add]
  have hab : an_D T jj * an_Y T e jj + (x - an_A T e jj) * T.2.2 jj < 2 ^ 31 := by omega
  have hb0 := yb.1
  refine mB 2 (s2 := (d + 3, 24, 2, [some (.ref 22), some (.int v0), some (.ref 25), none, none, none], [.int v0, .ref 22], 0, 0, (mSH, I, L))) rfl ?_
  refine mCall (s2 := (d + 2, 22, 0, [some (.ref 22), some (.int v0), none], [], 0, 0, (mSH, I, L))) rfl ?_
  refine x_laa hT hS hM hv hn e0 (by omega) ?_; rw [ejj]
  show mWP mTb_ mFT ro (d + 3, 24, 5, [some (.ref 22), some (.int v0), some (.ref 25), none, none, none], [.int (nI jj)], 0, 0, (mSH, I, L)) _
  refine mB 3 (s2 := (d + 3, 24, 8, [some (.ref 22), some (.int v0), some (.ref 25), some (.int (nI jj)), none, none], [.int (nI jj), .ref 22], 0, 0, (mSH, I, L))) rfl ?_
  refine mCall (s2 := (d + 2, 17, 0, [some (.ref 22), some (.int (nI jj))], [], 0, 0, (mSH, I, L))) rfl ?_
  refine x_yof hT hS hM hv rfl hj ?_
  show mWP mTb_ mFT ro (d + 3, 24, 11, [some (.ref 22), some (.int v0), some (.ref 25), some (.int (nI jj)), none, none], [.int (nI (an_Y T e jj))], 0, 0, (mSH, I, L)) _
  refine mB 4 (s2 := (d + 3, 24, 16, [some (.ref 22), some (.int v0), some (.ref 25), some (.int (nI jj)), some (.int (nI (an_Y T e jj))), none], [.int (nI jj), .ref 22, .int v0], 0, 0, (mSH, I, L))) rfl ?_
  refine mCall (s2 := (d + 2, 20, 0, [some (.ref 22), some (.int (nI jj))], [], 0, 0, (mSH, I, L))) rfl ?_
  refine x_aab hT hS hM hv rfl (Nat.le_of_lt hj) ?_
  show mWP mTb_ mFT ro (d + 3, 24, 19, [some (.ref 22), some (.int v0), some (.ref 25), some (.int (nI jj)), some (.int (nI (an_Y T e jj))), none], [.int (nI (an_A T e jj)), .int v0], 0, 0, (mSH, I, L)) _
  refine mB 7 (s2 := (d + 3, 24, 31, [some (.ref 22), some (.int v0), some (.ref 25), some (.int (nI jj)), some (.int (nI (an_Y T e jj))), some (.int (v0 - (nI (an_A T e jj))))], [.int (nI jj), .ref 4, .ref 25], 0, 0, (mSH, I, L))) rfl ?_
  refine mCall (s2 := (d + 2, 47, 0, [some (.ref 4), some (.int (nI jj)), none, none], [], 0, 0, (mSH, I, L))) rfl ?_
  refine x_t4 rfl hT hS (Nat.le_of_lt hj) ?_
  show mWP mTb_ mFT ro (d + 3, 24, 34, [some (.ref 22), some (.int v0), some (.ref 25), some (.int (nI jj)), some (.int (nI (an_Y T e jj))), some (.int (v0 - (nI (an_A T e jj))))], [.int (nI (an_D T jj)), .ref 25], 0, 0, (mSH, I, L)) _
  refine mB 7 (s2 := (d + 3, 24, 47, [some (.ref 22), some (.int v0), some (.ref 25), some (.int (nI jj)), some (.int (nI (an_Y T e jj))), some (.int (v0 - (nI (an_A T e jj))))], [.int (nI jj), .ref 4, .int (v0 - (nI (an_A T e jj))), .int ((nI (an_D T jj)) * (nI (an_Y T e jj))), .ref 25], 0, 0, (mSH, I, L))) rfl ?_
  refine mCall (s2 := (d + 2, 42, 0, [some (.ref 4), some (.int (nI jj))], [], 0, 0, (mSH, I, L))) rfl ?_
  refine x_at4 rfl hT hS hj ?_
  show mWP mTb_ mFT ro (d + 3, 24, 50, [some (.ref 22), some (.int v0), some (.ref 25), some (.int (nI jj)), some (.int (nI (an_Y T e jj))), some (.int (v0 - (nI (an_A T e jj))))], [.int (nI (T.2.2 jj)), .int (v0 - (nI (an_A T e jj))), .int ((nI (an_D T jj)) * (nI (an_Y T e jj))), .ref 25], 0, 0, (mSH, I, L)) _
  refine mB 3 (s2 := (d + 3, 24, 54, [some (.ref 22), some (.int v0), some (.ref 25), some (.int (nI jj)), some (.int (nI (an_Y T e jj))), some (.int (v0 - (nI (an_A T e jj))))], [.int (nI (an_Y T e jj)), .int (((nI (an_D T jj)) * (nI (an_Y T e jj))) + ((v0 - (nI (an_A T e jj))) * (nI (T.2.2 jj)))), .ref 25], 0, 0, (mSH, I, L))) rfl ?_
  refine mCall (s2 := (d + 2, 5, 0, [some (.ref 25), some (.int (((nI (an_D T jj)) * (nI (an_Y T e jj))) + ((v0 - (nI (an_A T e jj))) * (nI (T.2.2 jj))))), some (.int (nI (an_Y T e jj))), none], [], 0, 0, (mSH, I, L))) rfl ?_
  refine x_frac (a := an_D T jj * an_Y T e jj + (x - an_A T e jj) * T.2.2 jj) (b := an_Y T e jj) ea rfl hab hb0 (by omega) ?_
  show mWP mTb_ mFT ro (d + 3, 24, 57, [some (.ref 22), some (.int v0), some (.ref 25), some (.int (nI jj)), some (.int (nI (an_Y T e jj))), some (.int (v0 - (nI (an_A T e jj))))], [], 0, 0, (mSH, (mUp (mUp I 25 0 (nI (fr_a (an_D T jj * an_Y T e jj + (x - an_A T e jj) * T.2.2 jj) (an_Y T e jj)))) 25 1 (nI (fr_b (an_D T jj * an_Y T e jj + (x - an_A T e jj) * T.2.2 jj) (an_Y T e jj)))), L)) _
  refine mRt (r := none) (h := (mSH, (mUp (mUp I 25 0 (nI (fr_a (an_D T jj * an_Y T e jj + (x - an_A T e jj) * T.2.2 jj) (an_Y T e jj)))) 25 1 (nI (fr_b (an_D T jj * an_Y T e jj + (x - an_A T e jj) * T.2.2 jj) (an_Y T e jj)))), L)) rfl rfl ?_
  exact hq
