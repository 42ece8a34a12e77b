/-! What the class finds, exactly. Written by a program (wip/mk_c.py). -/
/-- the two best matches, how many there are, how many are as good -/
def an_W (T : ct_S) (B : ct_B) (kd g pe : Nat) : bt_T := bt_top (bt_Rt (ct_cc T B kd g pe) T.1.2.1 T.1.1)
def an_E (T : ct_S) (B : ct_B) (kd g pe : Nat) (w : Int32) : bt_E := if w.toInt = 0 then (an_W T B kd g pe).1 else (an_W T B kd g pe).2.1
section AN
variable {T : ct_S} {B : ct_B} {kd g pe : Nat} {I J K : Nat → Nat → Int32} {w v : Int32} {S : List Nat}
theorem an_E0 (h : w = 0) : an_E T B kd g pe w = (an_W T B kd g pe).1 := by
  subst h
  rfl
theorem an_E1 (h : w = 1) : an_E T B kd g pe w = (an_W T B kd g pe).2.1 := by
  subst h
  rfl
theorem an_ok (hO : pm_O T B kd g pe) : bt_ok 0 (an_W T B kd g pe) := bt_topok (fun x hx => by have := bt_Rt_b (ct_ccb hO.1 hO.2.2.1) hO.1.2.1 x hx; omega)
theorem an_w (hO : pm_O T B kd g pe) : (an_W T B kd g pe).2.2.1 ≤ 104976 := by
  unfold an_W
  rw [bt_top_w]
  exact bt_Rt_l hO.1.1 hO.1.2.1
theorem an_lw (hO : pm_O T B kd g pe) : (an_W T B kd g pe).2.2.2 ≤ 104976 := by
  unfold an_W
  exact Nat.le_trans (bt_top_lw _) (bt_Rt_l hO.1.1 hO.1.2.1)
/-- a best one is a match that fits -/
theorem an_v (hO : pm_O T B kd g pe) (h : (an_E T B kd g pe w).1 < bt_U) : bt_vl T.1.1 T.1.2.1 (an_E T B kd g pe w).2 ∧ 0 < T.1.2.1 := by
  have hV := ct_ccb (B := B) (kd := kd) hO.1 hO.2.2.1
  have hcs : ∀ j i p v, ct_cc T B kd g pe j i p = some v → i + (2 * p + 1) ≤ T.1.1 := fun j i p v h => (ct_ccs hO.1 hO.2.2.1 h).1
  unfold an_E at h ⊢
  by_cases c : w.toInt = 0
  · rw [if_pos c] at h ⊢
    exact bt_Rt_v hV hcs _ ((bt_top_m _).1 h)
  · rw [if_neg c] at h ⊢
    exact bt_Rt_v hV hcs _ ((bt_top_m _).2 h)
theorem mIC.sx (hI : mIC I) (F : mFr mSX I J) (R : mRk J) (C : mCn J 23 8) : mIC J := ⟨mCn.eqr (F 2 rfl) hI.1, mCn.eqr (F 4 rfl) hI.2.1, C, mCn.eqr (F 26 rfl) hI.2.2.2.1, mCn.eqr (F 30 rfl) hI.2.2.2.2.1, mCn.eqr (F 32 rfl) hI.2.2.2.2.2.1, R⟩
theorem mIC.ss (hI : mIC I) (F : mFr mSS I J) (R : mRk J) : mIC J := ⟨mCn.eqr (F 2 rfl) hI.1, mCn.eqr (F 4 rfl) hI.2.1, mCn.eqr (F 23 rfl) hI.2.2.1, mCn.eqr (F 26 rfl) hI.2.2.2.1, mCn.eqr (F 30 rfl) hI.2.2.2.2.1, mCn.eqr (F 32 rfl) hI.2.2.2.2.2.1, R⟩
theorem mIC.u0 {z : Nat} (hI : mIC I) : mIC (mUp I 0 z v) := ⟨hI.1, hI.2.1, hI.2.2.1, hI.2.2.2.1, hI.2.2.2.2.1, hI.2.2.2.2.2.1, mRk.up hI.2.2.2.2.2.2 (by rfl) (by rfl)⟩
theorem mIC.u25 {z : Nat} (hI : mIC I) : mIC (mUp I 25 z v) := ⟨hI.1, hI.2.1, hI.2.2.1, hI.2.2.2.1, hI.2.2.2.2.1, hI.2.2.2.2.2.1, mRk.up hI.2.2.2.2.2.2 (by rfl) (by rfl)⟩
theorem pm_C.fr (h : pm_C T B kd g pe I) (f : mFr S I J) (h1 : S.all (fun q => !(mMem [1, 2, 3, 4, 5, 6, 7, 9] q)) = true) : pm_C T B kd g pe J := by
  have key : ∀ q, mMem [1, 2, 3, 4, 5, 6, 7, 9] q = true → J q = I q := fun q hq => by
    apply f q
    cases e : mMem S q with
    | false => rfl
    | true =>
      exfalso
      clear f h
      induction S with
      | nil => cases e
      | cons a r ih =>
        rw [List.all_cons, Bool.and_eq_true] at h1
        unfold mMem at e
        cases z : Nat.beq a q with
        | true =>
          have z := Nat.eq_of_beq_eq_true z
          subst z
          rw [hq] at h1
          cases h1.1
        | false =>
          rw [z] at e
          exact ih h1.2 e
  unfold pm_C cl_S cl_B cl_J
  rw [key 1 rfl, key 2 rfl, key 3 rfl, key 4 rfl, key 5 rfl, key 6 rfl, key 7 rfl, key 9 rfl]
  exact h
end AN
theorem x_fillv_6 {ro : Nat → Nat × (Nat → Int32)} {Q : mPo} {d : Nat} {I : Nat → Nat → Int32} {L : Nat → Nat → Int64} {T : ct_S} {B : ct_B} {kd k2 g pe : Nat} {v : Int32} (hv : v = nI k2) (hk2 : k2 ≤ 3) (hO : pm_O T B kd g pe) (hC : pm_C T B kd g pe I) (hR : mRk I) (hq : ∀ J, mFr mSS I J → mRk J → bs_W T B k2 g pe J → Q none (mSH, J, L)) : mWP mTb_ mFT ro (d + 4, 52, 0, [some (.ref 10), some (.ref 6), some (.int v), none, none, none], [], 0, 0, (mSH, I, L)) Q := by
  subst hv
  exact x_fill_6 hO.1 hC.1 hC.2.1 hO.2.1 hC.2.2.2.1 hO.2.2.1 (by omega) hR hq
theorem x_fillv_7 {ro : Nat → Nat × (Nat → Int32)} {Q : mPo} {d : Nat} {I : Nat → Nat → Int32} {L : Nat → Nat → Int64} {T : ct_S} {B : ct_B} {kd k2 g pe : Nat} {v : Int32} (hv : v = nI k2) (hk2 : k2 ≤ 3) (hO : pm_O T B kd g pe) (hC : pm_C T B kd g pe I) (hR : mRk I) (hq : ∀ J, mFr mSS I J → mRk J → bs_W T ct_B0 k2 g pe J → Q none (mSH, J, L)) : mWP mTb_ mFT ro (d + 4, 52, 0, [some (.ref 10), some (.ref 7), some (.int v), none, none, none], [], 0, 0, (mSH, I, L)) Q := by
  subst hv
  exact x_fill_7 hO.1 hC.1 hC.2.2.1 ct_B0o hC.2.2.2.1 hO.2.2.1 (by omega) hR hq
theorem x_finds_0 {ro : Nat → Nat × (Nat → Int32)} {Q : mPo} {d : Nat} {I : Nat → Nat → Int32} {L : Nat → Nat → Int64} {T : ct_S} {B : ct_B} {kd g pe : Nat} (hI : mIC I) (hO : pm_O T B kd g pe) (hC : pm_C T B kd g pe I) (q0 : ¬ (an_W T B kd g pe).1.1 < bt_U → ∀ K, mFr mSX I K → mRk K → mCn K 23 8 → Q (some (.int 0)) (mSH, K, L)) (q1 : (an_W T B kd g pe).1.1 < bt_U → ∀ K, mFr mSX I K → mRk K → mCn K 23 8 → cl_M T.1.2.1 (an_W T B kd g pe).1 K → Q (some (.int 1)) (mSH, K, L))   : mWP mTb_ mFT ro (d + 5, 106, 0, [some (.ref 0), some (.int 0)], [], 0, 0, (mSH, I, L)) Q := by
  refine mB 7 (s2 := (d + 5, 106, 13, [some (.ref 0), some (.int 0)], [.int 0, .ref 8, .ref 6, .ref 10], 0, 0, (mSH, I, L))) rfl ?_
  refine mCall (s2 := (d + 4, 10, 0, [some (.ref 8), some (.int 0)], [], 0, 0, (mSH, I, L))) rfl ?_
  refine mB 2 (s2 := (d + 4, 10, 2, [some (.ref 8), some (.int 0)], [.int 0, .ref 8], 0, 0, (mSH, I, L))) rfl ?_
  refine mCall (s2 := (d + 3, 8, 0, [some (.ref 8), some (.int 0)], [], 0, 0, (mSH, I, L))) rfl ?_
  refine mB 1 (s2 := (d + 3, 8, 1, [some (.ref 8), some (.int 0)], [.int 0], 0, 0, (mSH, I, L))) rfl ?_
  refine mBF (s3 := (d + 3, 8, 4, [some (.ref 8), some (.int 0)], [], 0, 0, (mSH, I, L))) rfl (by decide) ?_
  refine mB 4 (s2 := (d + 3, 8, 10, [some (.ref 8), some (.int 0)], [.int 3, .int 0], 0, 0, (mSH, I, L))) rfl ?_
  refine mBF (s3 := (d + 3, 8, 13, [some (.ref 8), some (.int 0)], [], 0, 0, (mSH, I, L))) rfl (by decide) ?_
  refine mB 2 (s2 := (d + 3, 8, 18, [some (.ref 8), some (.int 0)], [.int 1], 0, 0, (mSH, I, L))) rfl ?_
  refine mRt (r := (some (.int 1))) (h := (mSH, I, L)) rfl rfl ?_
  show mWP mTb_ mFT ro (d + 4, 10, 5, [some (.ref 8), some (.int 0)], [.int 1], 0, 0, (mSH, I, L)) _
  refine mBF (s3 := (d + 4, 10, 8, [some (.ref 8), some (.int 0)], [], 0, 0, (mSH, I, L))) rfl (by decide) ?_
  refine mB 3 (s2 := (d + 4, 10, 13, [some (.ref 8), some (.int 0)], [.int 0, .ref 9], 0, 0, (mSH, I, L))) rfl ?_
  refine mRq (s2 := (d + 4, 10, 14, [some (.ref 8), some (.int 0)], [.int (I 9 0)], 0, 0, (mSH, I, L))) rfl (by decide) ?_
  refine mB 1 (s2 := (d + 4, 10, 18, [some (.ref 8), some (.int 0)], [.int (I 9 0)], 0, 0, (mSH, I, L))) rfl ?_
  refine mRt (r := (some (.int (I 9 0)))) (h := (mSH, I, L)) rfl (mRet_int rfl) ?_
  show mWP mTb_ mFT ro (d + 5, 106, 16, [some (.ref 0), some (.int 0)], [.int (I 9 0), .ref 6, .ref 10], 0, 0, (mSH, I, L)) _
  refine mCall (s2 := (d + 4, 52, 0, [some (.ref 10), some (.ref 6), some (.int (I 9 0)), none, none, none], [], 0, 0, (mSH, I, L))) rfl ?_
  refine x_fillv_6 (k2 := kd) hC.2.2.2.2 hO.2.2.2 hO hC hI.2.2.2.2.2.2 (fun J1 fJ1 rJ1 wJ1 => ?_)
  show mWP mTb_ mFT ro (d + 5, 106, 19, [some (.ref 0), some (.int 0)], [], 0, 0, (mSH, J1, L)) _
  refine mB 5 (s2 := (d + 5, 106, 28, [some (.ref 0), some (.int 0)], [.ref 22, .int 0, .ref 10], 0, 0, (mSH, J1, L))) rfl ?_
  refine mCall (s2 := (d + 4, 65, 0, [some (.ref 10), some (.int 0), some (.ref 22), none, none, none, none], [], 0, 0, (mSH, J1, L))) rfl ?_
  refine x_traces_0 hO.1 hO.2.2.1 (by rw [fJ1 4 rfl]; exact hC.1.2.1) wJ1 ?_ ?_
  · intro hn
    show mWP mTb_ mFT ro (d + 5, 106, 31, [some (.ref 0), some (.int 0)], [.int 0], 0, 0, (mSH, J1, L)) _
    refine mRt (r := (some (.int 0))) (h := (mSH, J1, L)) rfl rfl ?_
    exact q0 hn _ (mFr.sub (by decide) fJ1) rJ1 (mCn.eqr (fJ1 23 rfl) hI.2.2.1)
  · intro hy K fK mK
    show mWP mTb_ mFT ro (d + 5, 106, 31, [some (.ref 0), some (.int 0)], [.int 1], 0, 0, (mSH, K, L)) _
    refine mRt (r := (some (.int 1))) (h := (mSH, K, L)) rfl rfl ?_
    exact q1 hy _ (fun c hc => (fK c (mMem_sub (by decide) hc)).trans (fJ1 c (mMem_sub (by decide) hc))) (mRk.eq (fK 18 rfl) (fK 19 rfl) rJ1) (mCn.of mK.2.1 hO.1.2.1 (by omega)) mK
theorem x_finds_1 {ro : Nat → Nat × (Nat → Int32)} {Q : mPo} {d : Nat} {I : Nat → Nat → Int32} {L : Nat → Nat → Int64} {T : ct_S} {B : ct_B} {kd g pe : Nat} (hI : mIC I) (hO : pm_O T B kd g pe) (hC : pm_C T B kd g pe I) (q0 : ¬ (an_W T B kd g pe).2.1.1 < bt_U → ∀ K, mFr mSX I K → mRk K → mCn K 23 8 → Q (some (.int 0)) (mSH, K, L)) (q1 : (an_W T B kd g pe).2.1.1 < bt_U → ∀ K, mFr mSX I K → mRk K → mCn K 23 8 → cl_M T.1.2.1 (an_W T B kd g pe).2.1 K → Q (some (.int 1)) (mSH, K, L))   : mWP mTb_ mFT ro (d + 5, 106, 0, [some (.ref 0), some (.int 1)], [], 0, 0, (mSH, I, L)) Q := by
  refine mB 7 (s2 := (d + 5, 106, 13, [some (.ref 0), some (.int 1)], [.int 0, .ref 8, .ref 6, .ref 10], 0, 0, (mSH, I, L))) rfl ?_
  refine mCall (s2 := (d + 4, 10, 0, [some (.ref 8), some (.int 0)], [], 0, 0, (mSH, I, L))) rfl ?_
  refine mB 2 (s2 := (d + 4, 10, 2, [some (.ref 8), some (.int 0)], [.int 0, .ref 8], 0, 0, (mSH, I, L))) rfl ?_
  refine mCall (s2 := (d + 3, 8, 0, [some (.ref 8), some (.int 0)], [], 0, 0, (mSH, I, L))) rfl ?_
  refine mB 1 (s2 := (d + 3, 8, 1, [some (.ref 8), some (.int 0)], [.int 0], 0, 0, (mSH, I, L))) rfl ?_
  refine mBF (s3 := (d + 3, 8, 4, [some (.ref 8), some (.int 0)], [], 0, 0, (mSH, I, L))) rfl (by decide) ?_
  refine mB 4 (s2 := (d + 3, 8, 10, [some (.ref 8), some (.int 0)], [.int 3, .int 0], 0, 0, (mSH, I, L))) rfl ?_
  refine mBF (s3 := (d + 3, 8, 13, [some (.ref 8), some (.int 0)], [], 0, 0, (mSH, I, L))) rfl (by decide) ?_
  refine mB 2 (s2 := (d + 3, 8, 18, [some (.ref 8), some (.int 0)], [.int 1], 0, 0, (mSH, I, L))) rfl ?_
  refine mRt (r := (some (.int 1))) (h := (mSH, I, L)) rfl rfl ?_
  show mWP mTb_ mFT ro (d + 4, 10, 5, [some (.ref 8), some (.int 0)], [.int 1], 0, 0, (mSH, I, L)) _
  refine mBF (s3 := (d + 4, 10, 8, [some (.ref 8), some (.int 0)], [], 0, 0, (mSH, I, L))) rfl (by decide) ?_
  refine mB 3 (s2 := (d + 4, 10, 13, [some (.ref 8), some (.int 0)], [.int 0, .ref 9], 0, 0, (mSH, I, L))) rfl ?_
  refine mRq (s2 := (d + 4, 10, 14, [some (.ref 8), some (.int 0)], [.int (I 9 0)], 0, 0, (mSH, I, L))) rfl (by decide) ?_
  refine mB 1 (s2 := (d + 4, 10, 18, [some (.ref 8), some (.int 0)], [.int (I 9 0)], 0, 0, (mSH, I, L))) rfl ?_
  refine mRt (r := (some (.int (I 9 0)))) (h := (mSH, I, L)) rfl (mRet_int rfl) ?_
  show mWP mTb_ mFT ro (d + 5, 106, 16, [some (.ref 0), some (.int 1)], [.int (I 9 0), .ref 6, .ref 10], 0, 0, (mSH, I, L)) _
  refine mCall (s2 := (d + 4, 52, 0, [some (.ref 10), some (.ref 6), some (.int (I 9 0)), none, none, none], [], 0, 0, (mSH, I, L))) rfl ?_
  refine x_fillv_6 (k2 := kd) hC.2.2.2.2 hO.2.2.2 hO hC hI.2.2.2.2.2.2 (fun J1 fJ1 rJ1 wJ1 => ?_)
  show mWP mTb_ mFT ro (d + 5, 106, 19, [some (.ref 0), some (.int 1)], [], 0, 0, (mSH, J1, L)) _
  refine mB 5 (s2 := (d + 5, 106, 28, [some (.ref 0), some (.int 1)], [.ref 22, .int 1, .ref 10], 0, 0, (mSH, J1, L))) rfl ?_
  refine mCall (s2 := (d + 4, 65, 0, [some (.ref 10), some (.int 1), some (.ref 22), none, none, none, none], [], 0, 0, (mSH, J1, L))) rfl ?_
  refine x_traces_1 hO.1 hO.2.2.1 (by rw [fJ1 4 rfl]; exact hC.1.2.1) wJ1 ?_ ?_
  · intro hn
    show mWP mTb_ mFT ro (d + 5, 106, 31, [some (.ref 0), some (.int 1)], [.int 0], 0, 0, (mSH, J1, L)) _
    refine mRt (r := (some (.int 0))) (h := (mSH, J1, L)) rfl rfl ?_
    exact q0 hn _ (mFr.sub (by decide) fJ1) rJ1 (mCn.eqr (fJ1 23 rfl) hI.2.2.1)
  · intro hy K fK mK
    show mWP mTb_ mFT ro (d + 5, 106, 31, [some (.ref 0), some (.int 1)], [.int 1], 0, 0, (mSH, K, L)) _
    refine mRt (r := (some (.int 1))) (h := (mSH, K, L)) rfl rfl ?_
    exact q1 hy _ (fun c hc => (fK c (mMem_sub (by decide) hc)).trans (fJ1 c (mMem_sub (by decide) hc))) (mRk.eq (fK 18 rfl) (fK 19 rfl) rJ1) (mCn.of mK.2.1 hO.1.2.1 (by omega)) mK
theorem x_finds {ro : Nat → Nat × (Nat → Int32)} {Q : mPo} {d : Nat} {I : Nat → Nat → Int32} {L : Nat → Nat → Int64} {T : ct_S} {B : ct_B} {kd g pe : Nat} {v0 : Int32} (hI : mIC I) (hO : pm_O T B kd g pe) (hC : pm_C T B kd g pe I) (hv : v0 = 0 ∨ v0 = 1) (q0 : ¬ (an_E T B kd g pe v0).1 < bt_U → ∀ K, mFr mSX I K → mRk K → mCn K 23 8 → Q (some (.int 0)) (mSH, K, L)) (q1 : (an_E T B kd g pe v0).1 < bt_U → ∀ K, mFr mSX I K → mRk K → mCn K 23 8 → cl_M T.1.2.1 (an_E T B kd g pe v0) K → Q (some (.int 1)) (mSH, K, L)) : mWP mTb_ mFT ro (d + 5, 106, 0, [some (.ref 0), some (.int v0)], [], 0, 0, (mSH, I, L)) Q := by
  rcases hv with e | e
  · subst e
    exact x_finds_0 hI hO hC q0 q1
  · subst e
    exact x_finds_1 hI hO hC q0 q1
