/-! The class's answers, exactly. Written by a program (wip/mk_c.py). -/
theorem l_tot_2 {ro : Nat → Nat × (Nat → Int32)} {Q : mPo} {d : Nat} {I : Nat → Nat → Int32} {L : Nat → Nat → Int64} {v : Int32} {e n : Nat} {y : Nat → Nat} (hv : v = nI e) (he : e < 2 ^ 31) (h1 : I 2 1 = nI n) (hn : n ≤ 16) (hy : ∀ k, k < n → I 3 k = nI (y k)) (hq : Q (some (.int (nI (ct_ys y 0 (min n e))))) (mSH, I, L)) : ∀ (f k : Nat), k + f = min n e → mWP mTb_ mFT ro (d, 47, 4, [some (.ref 2), some (.int v), some (.int (nI (ct_ys y 0 k))), some (.int (nI k))], [], 0, 0, (mSH, I, L)) Q
  | 0, k, hk => by
    have hk : k = min n e := by omega
    rw [← hk] at hq
    refine s_total_2 (fun _ => hq) (fun _ _ => hq) (fun c c2 => ?_) (fun c c2 => ?_)
    all_goals
      exfalso
      rw [h1, nI_leI (by omega) (by omega)] at c
      rw [hv, nI_leI he (by omega)] at c2
      omega
  | f + 1, k, hk => by
    have c1 : ¬ I 2 1 ≤ nI k := by
      rw [h1]
      exact nI_ge (by omega) (by omega)
    have c2 : ¬ v ≤ nI k := by
      rw [hv]
      exact nI_ge (by omega) he
    refine s_total_2 (fun c => absurd c c1) (fun _ c => absurd c c2) (fun _ _ => vp_in_nI (by omega) (by omega)) (fun _ _ => ?_)
    rw [nI_clamp (by omega), hy k (by omega), nI_add, nI_1]
    have z := l_tot_2 (ro := ro) (d := d) (L := L) hv he h1 hn hy hq f (k + 1) (by omega)
    have e1 : ct_ys y 0 k + y k = ct_ys y 0 (k + 1) := by
      show _ = ct_ys y 0 k + y (0 + k)
      rw [Nat.zero_add]
    rw [e1]
    exact z
theorem x_tot_2 {ro : Nat → Nat × (Nat → Int32)} {Q : mPo} {d : Nat} {I : Nat → Nat → Int32} {L : Nat → Nat → Int64} {v : Int32} {e n : Nat} {y : Nat → Nat} (hv : v = nI e) (he : e < 2 ^ 31) (h1 : I 2 1 = nI n) (hn : n ≤ 16) (hy : ∀ k, k < n → I 3 k = nI (y k)) (hq : Q (some (.int (nI (ct_ys y 0 (min n e))))) (mSH, I, L)) : mWP mTb_ mFT ro (d, 47, 0, [some (.ref 2), some (.int v), none, none], [], 0, 0, (mSH, I, L)) Q :=
  mB 4 (s2 := (d, 47, 4, [some (.ref 2), some (.int v), some (.int (0)), some (.int (0))], [], 0, 0, (mSH, I, L))) rfl (l_tot_2 hv he h1 hn hy hq (min n e) 0 (by omega))
theorem l_tot_4 {ro : Nat → Nat × (Nat → Int32)} {Q : mPo} {d : Nat} {I : Nat → Nat → Int32} {L : Nat → Nat → Int64} {v : Int32} {e n : Nat} {y : Nat → Nat} (hv : v = nI e) (he : e < 2 ^ 31) (h1 : I 4 1 = nI n) (hn : n ≤ 8) (hy : ∀ k, k < n → I 5 k = nI (y k)) (hq : Q (some (.int (nI (ct_ys y 0 (min n e))))) (mSH, I, L)) : ∀ (f k : Nat), k + f = min n e → mWP mTb_ mFT ro (d, 47, 4, [some (.ref 4), some (.int v), some (.int (nI (ct_ys y 0 k))), some (.int (nI k))], [], 0, 0, (mSH, I, L)) Q
  | 0, k, hk => by
    have hk : k = min n e := by omega
    rw [← hk] at hq
    refine s_total_4 (fun _ => hq) (fun _ _ => hq) (fun c c2 => ?_) (fun c c2 => ?_)
    all_goals
      exfalso
      rw [h1, nI_leI (by omega) (by omega)] at c
      rw [hv, nI_leI he (by omega)] at c2
      omega
  | f + 1, k, hk => by
    have c1 : ¬ I 4 1 ≤ nI k := by
      rw [h1]
      exact nI_ge (by omega) (by omega)
    have c2 : ¬ v ≤ nI k := by
      rw [hv]
      exact nI_ge (by omega) he
    refine s_total_4 (fun c => absurd c c1) (fun _ c => absurd c c2) (fun _ _ => vp_in_nI (by omega) (by omega)) (fun _ _ => ?_)
    rw [nI_clamp (by omega), hy k (by omega), nI_add, nI_1]
    have z := l_tot_4 (ro := ro) (d := d) (L := L) hv he h1 hn hy hq f (k + 1) (by omega)
    have e1 : ct_ys y 0 k + y k = ct_ys y 0 (k + 1) := by
      show _ = ct_ys y 0 k + y (0 + k)
      rw [Nat.zero_add]
    rw [e1]
    exact z
theorem x_tot_4 {ro : Nat → Nat × (Nat → Int32)} {Q : mPo} {d : Nat} {I : Nat → Nat → Int32} {L : Nat → Nat → Int64} {v : Int32} {e n : Nat} {y : Nat → Nat} (hv : v = nI e) (he : e < 2 ^ 31) (h1 : I 4 1 = nI n) (hn : n ≤ 8) (hy : ∀ k, k < n → I 5 k = nI (y k)) (hq : Q (some (.int (nI (ct_ys y 0 (min n e))))) (mSH, I, L)) : mWP mTb_ mFT ro (d, 47, 0, [some (.ref 4), some (.int v), none, none], [], 0, 0, (mSH, I, L)) Q :=
  mB 4 (s2 := (d, 47, 4, [some (.ref 4), some (.int v), some (.int (0)), some (.int (0))], [], 0, 0, (mSH, I, L))) rfl (l_tot_4 hv he h1 hn hy hq (min n e) 0 (by omega))
theorem l_tot_23 {ro : Nat → Nat × (Nat → Int32)} {Q : mPo} {d : Nat} {I : Nat → Nat → Int32} {L : Nat → Nat → Int64} {v : Int32} {e n : Nat} {y : Nat → Nat} (hv : v = nI e) (he : e < 2 ^ 31) (h1 : I 23 1 = nI n) (hn : n ≤ 8) (hy : ∀ k, k < n → I 24 k = nI (y k)) (hq : Q (some (.int (nI (ct_ys y 0 (min n e))))) (mSH, I, L)) : ∀ (f k : Nat), k + f = min n e → mWP mTb_ mFT ro (d, 47, 4, [some (.ref 23), some (.int v), some (.int (nI (ct_ys y 0 k))), some (.int (nI k))], [], 0, 0, (mSH, I, L)) Q
  | 0, k, hk => by
    have hk : k = min n e := by omega
    rw [← hk] at hq
    refine s_total_23 (fun _ => hq) (fun _ _ => hq) (fun c c2 => ?_) (fun c c2 => ?_)
    all_goals
      exfalso
      rw [h1, nI_leI (by omega) (by omega)] at c
      rw [hv, nI_leI he (by omega)] at c2
      omega
  | f + 1, k, hk => by
    have c1 : ¬ I 23 1 ≤ nI k := by
      rw [h1]
      exact nI_ge (by omega) (by omega)
    have c2 : ¬ v ≤ nI k := by
      rw [hv]
      exact nI_ge (by omega) he
    refine s_total_23 (fun c => absurd c c1) (fun _ c => absurd c c2) (fun _ _ => vp_in_nI (by omega) (by omega)) (fun _ _ => ?_)
    rw [nI_clamp (by omega), hy k (by omega), nI_add, nI_1]
    have z := l_tot_23 (ro := ro) (d := d) (L := L) hv he h1 hn hy hq f (k + 1) (by omega)
    have e1 : ct_ys y 0 k + y k = ct_ys y 0 (k + 1) := by
      show _ = ct_ys y 0 k + y (0 + k)
      rw [Nat.zero_add]
    rw [e1]
    exact z
theorem x_tot_23 {ro : Nat → Nat × (Nat → Int32)} {Q : mPo} {d : Nat} {I : Nat → Nat → Int32} {L : Nat → Nat → Int64} {v : Int32} {e n : Nat} {y : Nat → Nat} (hv : v = nI e) (he : e < 2 ^ 31) (h1 : I 23 1 = nI n) (hn : n ≤ 8) (hy : ∀ k, k < n → I 24 k = nI (y k)) (hq : Q (some (.int (nI (ct_ys y 0 (min n e))))) (mSH, I, L)) : mWP mTb_ mFT ro (d, 47, 0, [some (.ref 23), some (.int v), none, none], [], 0, 0, (mSH, I, L)) Q :=
  mB 4 (s2 := (d, 47, 4, [some (.ref 23), some (.int v), some (.int (0)), some (.int (0))], [], 0, 0, (mSH, I, L))) rfl (l_tot_23 hv he h1 hn hy hq (min n e) 0 (by omega))
section AQ
variable {T : ct_S} {B : ct_B} {kd g pe n s x : Nat} {e : bt_E} {v v0 v1 : Int32} {ps : List Nat}
def an_mt (n : Nat) (e : bt_E) (v : Int32) : Int32 := if e.1 < bt_U then (if v.toInt = 0 then nI e.1 else if v.toInt = 1 then nI (e.2.headD 0) else if v.toInt = 2 then nI (ct_ys (fun k => e.2.tail.getD k 0) 0 n) else nI (e.2.headD 0 + ct_ys (bt_bl e.2.tail) 0 n)) else -3
abbrev an_mk (v0 v1 : Int32) : Prop := kEi v0 ∧ 0 ≤ v1.toInt ∧ v1.toInt ≤ 3
def an_match (T : ct_S) (B : ct_B) (kd g pe : Nat) (v0 v1 : Int32) : Int32 := if an_mk v0 v1 then an_mt T.1.2.1 (an_E T B kd g pe v0) v1 else -2
abbrev an_bk (T : ct_S) (v0 v1 : Int32) : Prop := kEi v0 ∧ 0 ≤ v1.toInt ∧ v1.toInt < T.1.2.1
def an_block (T : ct_S) (B : ct_B) (kd g pe : Nat) (v0 v1 : Int32) : Int32 := if an_bk T v0 v1 then (if (an_E T B kd g pe v0).1 < bt_U then nI (bt_bl (an_E T B kd g pe v0).2.tail v1.toInt.toNat) else -3) else -2
def an_many (T : ct_S) (B : ct_B) (kd g pe : Nat) : Int32 := nI (an_W T B kd g pe).2.2.1
def an_alike (T : ct_S) (B : ct_B) (kd g pe : Nat) : Int32 := if (an_W T B kd g pe).1.1 < bt_U then nI (an_W T B kd g pe).2.2.2 else -3
def an_s (x : Nat) : Int32 := if x < bt_U then nI x else -1
abbrev an_fk (T : ct_S) (v0 : Int32) : Prop := 0 ≤ v0.toInt ∧ v0.toInt < T.1.1
def an_f (T : ct_S) (B : ct_B) (kd g pe i : Nat) : Nat := if T.1.2.1 = 0 then bt_U else (bt_top (bt_al (ct_cc T B kd g pe) T.1.2.1 0 i)).1.1
def an_from (T : ct_S) (B : ct_B) (kd g pe : Nat) (v0 : Int32) : Int32 := if an_fk T v0 then an_s (an_f T B kd g pe v0.toInt.toNat) else -2
def an_unbound (T : ct_S) (kd g pe : Nat) : Int32 := an_s (an_W T ct_B0 kd g pe).1.1
theorem an_mt0 (h : e.1 < bt_U) (hv : v = 0) : nI e.1 = an_mt n e v := by
  subst hv
  unfold an_mt
  rw [if_pos h]
  rfl
theorem an_mt1 (h : e.1 < bt_U) (hv : v = 1) : nI (e.2.headD 0) = an_mt n e v := by
  subst hv
  unfold an_mt
  rw [if_pos h]
  rfl
theorem an_mt2 (h : e.1 < bt_U) (hv : v = 2) : nI (ct_ys (fun k => e.2.tail.getD k 0) 0 n) = an_mt n e v := by
  subst hv
  unfold an_mt
  rw [if_pos h]
  rfl
theorem an_mt3 (h : e.1 < bt_U) (hv : v.toInt < 0 ∨ 2 < v.toInt) : nI (e.2.headD 0 + ct_ys (bt_bl e.2.tail) 0 n) = an_mt n e v := by
  unfold an_mt
  rw [if_pos h, if_neg (by omega), if_neg (by omega), if_neg (by omega)]
theorem an_mtn (h : ¬ e.1 < bt_U) : -3 = an_mt n e v := by
  unfold an_mt
  rw [if_neg h]
theorem ct_ys_2 : ∀ n, ct_ys (bt_bl ps) 0 n = 2 * ct_ys (fun k => ps.getD k 0) 0 n + n
  | 0 => rfl
  | n + 1 => by
    show ct_ys (bt_bl ps) 0 n + (2 * ps.getD (0 + n) 0 + 1) = 2 * (ct_ys (fun k => ps.getD k 0) 0 n + ps.getD (0 + n) 0) + (n + 1)
    rw [ct_ys_2 n]
    omega
theorem an_half : ∀ a, a < 17 → nI (2 * a) / 2 = nI a := by decide +kernel
theorem an_sy {y : Int32} (hx : x ≤ bt_U) (h : y = nI x) (c : ¬ y = 1000000000) : y = an_s x := by
  unfold an_s
  rw [h, ← bt_Ue, nI_eq (by have := bt_Ul; omega) bt_Ul] at c
  rw [if_pos (by omega)]
  exact h
theorem an_sn {y : Int32} (hx : x ≤ bt_U) (h : y = nI x) (c : y = 1000000000) : -1 = an_s x := by
  unfold an_s
  rw [h, ← bt_Ue, nI_eq (by have := bt_Ul; omega) bt_Ul] at c
  rw [if_neg (by omega)]
theorem an_min {y : Int32} (hx : x ≤ 104976) (h : y = nI x) : (if y < 1000000000 then y else 1000000000) = nI x := by
  have z : nI x < nI 1000000000 := nI_lt (by omega) (by omega)
  have z : nI x < 1000000000 := z
  rw [h, if_pos z]
end AQ
theorem x_missed {ro : Nat → Nat × (Nat → Int32)} {Q : mPo} {d : Nat} {I : Nat → Nat → Int32} {L : Nat → Nat → Int64} {n s : Nat} {e : bt_E} (hM : cl_M n e I) (hv : bt_vl s n e.2) (hs : s ≤ 16) (hn : n ≤ 8) (hq : Q (some (.int (nI (ct_ys (fun k => e.2.tail.getD k 0) 0 n)))) (mSH, I, L))   : mWP mTb_ mFT ro (d + 2, 15, 0, [some (.ref 22)], [], 0, 0, (mSH, I, L)) Q := by
  obtain ⟨f, ps, v1, v2, v3⟩ := hv
  obtain ⟨f', ps', w1, w2, w3, h24⟩ := hM.2.2
  rw [v1] at w1
  obtain ⟨ea, ep⟩ := List.cons.inj w1
  subst ea
  subst ep
  have y2 := ct_ys_2 (ps := ps) n
  refine mB 2 (s2 := (d + 2, 15, 4, [some (.ref 22)], [.ref 23], 0, 0, (mSH, I, L))) rfl ?_
  refine mCall (s2 := (d + 1, 48, 0, [some (.ref 23)], [], 0, 0, (mSH, I, L))) rfl ?_
  refine mB 3 (s2 := (d + 1, 48, 5, [some (.ref 23)], [.int (I 23 1), .ref 23], 0, 0, (mSH, I, L))) rfl ?_
  refine mCall (s2 := (d, 47, 0, [some (.ref 23), some (.int (I 23 1)), none, none], [], 0, 0, (mSH, I, L))) rfl ?_
  refine x_tot_23 (e := n) (y := bt_bl ps) hM.2.1 (by omega) hM.2.1 hn h24 ?_; rw [Nat.min_self]
  show mWP mTb_ mFT ro (d + 1, 48, 8, [some (.ref 23)], [.int (nI (ct_ys (bt_bl ps) 0 n))], 0, 0, (mSH, I, L)) _
  refine mRt (r := (some (.int (nI (ct_ys (bt_bl ps) 0 n))))) (h := (mSH, I, L)) rfl (mRet_int rfl) ?_
  show mWP mTb_ mFT ro (d + 2, 15, 7, [some (.ref 22)], [.int (nI (ct_ys (bt_bl ps) 0 n))], 0, 0, (mSH, I, L)) _
  refine mB 2 (s2 := (d + 2, 15, 11, [some (.ref 22)], [.ref 23, .int (nI (ct_ys (bt_bl ps) 0 n))], 0, 0, (mSH, I, L))) rfl ?_
  refine mCall (s2 := (d + 1, 39, 0, [some (.ref 23)], [], 0, 0, (mSH, I, L))) rfl ?_
  refine mB 2 (s2 := (d + 1, 39, 4, [some (.ref 23)], [.int (I 23 1)], 0, 0, (mSH, I, L))) rfl ?_
  refine mRt (r := (some (.int (I 23 1)))) (h := (mSH, I, L)) rfl (mRet_int rfl) ?_
  show mWP mTb_ mFT ro (d + 2, 15, 14, [some (.ref 22)], [.int (I 23 1), .int (nI (ct_ys (bt_bl ps) 0 n))], 0, 0, (mSH, I, L)) _
  refine mB 2 (s2 := (d + 2, 15, 16, [some (.ref 22)], [.int 2, .int ((nI (ct_ys (bt_bl ps) 0 n)) - (I 23 1))], 0, 0, (mSH, I, L))) rfl ?_
  refine mRq (s2 := (d + 2, 15, 17, [some (.ref 22)], [.int (((nI (ct_ys (bt_bl ps) 0 n)) - (I 23 1)) / 2)], 0, 0, (mSH, I, L))) rfl (by decide) ?_
  refine mRt (r := (some (.int (((nI (ct_ys (bt_bl ps) 0 n)) - (I 23 1)) / 2)))) (h := (mSH, I, L)) rfl (mRet_int rfl) ?_
  exact ct_fin hq (by rw [hM.2.1, pk_sub (by omega), y2, Nat.add_sub_cancel, an_half _ (by omega), v1]; rfl)
theorem x_behind {ro : Nat → Nat × (Nat → Int32)} {Q : mPo} {d : Nat} {I : Nat → Nat → Int32} {L : Nat → Nat → Int64} {n s : Nat} {e : bt_E} (hM : cl_M n e I) (hv : bt_vl s n e.2) (hs : s ≤ 16) (hn : n ≤ 8) (hq : Q (some (.int (nI (e.2.headD 0 + ct_ys (bt_bl e.2.tail) 0 n)))) (mSH, I, L))   : mWP mTb_ mFT ro (d + 2, 16, 0, [some (.ref 22)], [], 0, 0, (mSH, I, L)) Q := by
  obtain ⟨f, ps, v1, v2, v3⟩ := hv
  obtain ⟨f', ps', w1, w2, w3, h24⟩ := hM.2.2
  rw [v1] at w1
  obtain ⟨ea, ep⟩ := List.cons.inj w1
  subst ea
  subst ep
  have y2 := ct_ys_2 (ps := ps) n
  refine mB 4 (s2 := (d + 2, 16, 8, [some (.ref 22)], [.ref 23, .int (I 22 2)], 0, 0, (mSH, I, L))) rfl ?_
  refine mCall (s2 := (d + 1, 48, 0, [some (.ref 23)], [], 0, 0, (mSH, I, L))) rfl ?_
  refine mB 3 (s2 := (d + 1, 48, 5, [some (.ref 23)], [.int (I 23 1), .ref 23], 0, 0, (mSH, I, L))) rfl ?_
  refine mCall (s2 := (d, 47, 0, [some (.ref 23), some (.int (I 23 1)), none, none], [], 0, 0, (mSH, I, L))) rfl ?_
  refine x_tot_23 (e := n) (y := bt_bl ps) hM.2.1 (by omega) hM.2.1 hn h24 ?_; rw [Nat.min_self]
  show mWP mTb_ mFT ro (d + 1, 48, 8, [some (.ref 23)], [.int (nI (ct_ys (bt_bl ps) 0 n))], 0, 0, (mSH, I, L)) _
  refine mRt (r := (some (.int (nI (ct_ys (bt_bl ps) 0 n))))) (h := (mSH, I, L)) rfl (mRet_int rfl) ?_
  show mWP mTb_ mFT ro (d + 2, 16, 11, [some (.ref 22)], [.int (nI (ct_ys (bt_bl ps) 0 n)), .int (I 22 2)], 0, 0, (mSH, I, L)) _
  refine mB 1 (s2 := (d + 2, 16, 12, [some (.ref 22)], [.int ((I 22 2) + (nI (ct_ys (bt_bl ps) 0 n)))], 0, 0, (mSH, I, L))) rfl ?_
  refine mRt (r := (some (.int ((I 22 2) + (nI (ct_ys (bt_bl ps) 0 n)))))) (h := (mSH, I, L)) rfl (mRet_int rfl) ?_
  exact ct_fin hq (by rw [w3, nI_add, v1]; rfl)
theorem cl_M.hd {n : Nat} {e : bt_E} {I : Nat → Nat → Int32} (h : cl_M n e I) : I 22 2 = nI (e.2.headD 0) := by
  obtain ⟨f, ps, w1, w2, w3, h24⟩ := h.2.2
  rw [w1]
  exact w3
theorem cl_M.bl {n k : Nat} {e : bt_E} {I : Nat → Nat → Int32} (h : cl_M n e I) (hk : k < n) : I 24 k = nI (bt_bl e.2.tail k) := by
  obtain ⟨f, ps, w1, w2, w3, h24⟩ := h.2.2
  rw [w1]
  exact h24 k hk
theorem v_match {ro : Nat → Nat × (Nat → Int32)} {Q : mPo} {d : Nat} {I : Nat → Nat → Int32} {L : Nat → Nat → Int64} {T : ct_S} {B : ct_B} {kd g pe : Nat} {v0 v1 : Int32} (hI : mIC I) (hO : pm_O T B kd g pe) (hC : pm_C T B kd g pe I) (hq : ∀ r I1, mFr mSQ I I1 → mIC I1 → r = an_match T B kd g pe v0 v1 → Q (some (.int r)) (mSH, I1, L))   : mWP mTb_ mFT ro (d + 7, 85, 0, [some (.ref 0), some (.int v0), some (.int v1)], [], 0, 0, (mSH, I, L)) Q := by
  refine mB 1 (s2 := (d + 7, 85, 1, [some (.ref 0), some (.int v0), some (.int v1)], [.int v0], 0, 0, (mSH, I, L))) rfl ?_
  refine mCall (s2 := (d + 6, 108, 0, [some (.int v0)], [], 0, 0, (mSH, I, L))) rfl ?_
  refine mB 1 (s2 := (d + 6, 108, 1, [some (.int v0)], [.int v0], 0, 0, (mSH, I, L))) rfl ?_
  refine mBr (s2 := (d + 6, 108, 9, [some (.int v0)], [], 0, 0, (mSH, I, L))) (s3 := (d + 6, 108, 4, [some (.int v0)], [], 0, 0, (mSH, I, L))) rfl (fun c0 => ?_) (fun c0 => ?_)
  · refine mB 2 (s2 := (d + 6, 108, 14, [some (.int v0)], [.int 1], 0, 0, (mSH, I, L))) rfl ?_
    refine mRt (r := (some (.int 1))) (h := (mSH, I, L)) rfl rfl ?_
    show mWP mTb_ mFT ro (d + 7, 85, 4, [some (.ref 0), some (.int v0), some (.int v1)], [.int 1], 0, 0, (mSH, I, L)) _
    refine mBF (s3 := (d + 7, 85, 7, [some (.ref 0), some (.int v0), some (.int v1)], [], 0, 0, (mSH, I, L))) rfl (by decide) ?_
    refine mB 1 (s2 := (d + 7, 85, 8, [some (.ref 0), some (.int v0), some (.int v1)], [.int v1], 0, 0, (mSH, I, L))) rfl ?_
    refine mBr (s2 := (d + 7, 85, 16, [some (.ref 0), some (.int v0), some (.int v1)], [], 0, 0, (mSH, I, L))) (s3 := (d + 7, 85, 11, [some (.ref 0), some (.int v0), some (.int v1)], [], 0, 0, (mSH, I, L))) rfl (fun c1 => ?_) (fun c1 => ?_)
    · refine mB 2 (s2 := (d + 7, 85, 19, [some (.ref 0), some (.int v0), some (.int v1)], [.int (-2), .ref 0], 0, 0, (mSH, I, L))) rfl ?_
      refine mCall (s2 := (d + 6, 103, 0, [some (.ref 0), some (.int (-2))], [], 0, 0, (mSH, I, L))) rfl ?_
      refine mB 2 (s2 := (d + 6, 103, 3, [some (.ref 0), some (.int (-2))], [.int (-2), .int (-2)], 0, 0, (mSH, I, L))) rfl ?_
      refine mBT (s2 := (d + 6, 103, 6, [some (.ref 0), some (.int (-2))], [], 0, 0, (mSH, I, L))) rfl (by decide) ?_
      refine mB 8 (s2 := (d + 6, 103, 49, [some (.ref 0), some (.int (-2))], [.int (-2)], 0, 0, (mSH, (mUp I 0 9 ((I 0 9) + 1)), L))) rfl ?_
      refine mRt (r := (some (.int (-2)))) (h := (mSH, (mUp I 0 9 ((I 0 9) + 1)), L)) rfl (mRet_int rfl) ?_
      show mWP mTb_ mFT ro (d + 7, 85, 22, [some (.ref 0), some (.int v0), some (.int v1)], [.int (-2)], 0, 0, (mSH, (mUp I 0 9 ((I 0 9) + 1)), L)) _
      refine mRt (r := (some (.int (-2)))) (h := (mSH, (mUp I 0 9 ((I 0 9) + 1)), L)) rfl (mRet_int rfl) ?_
      exact hq _ _ (mFr.up (by rfl) mFr.rf) (mIC.u0 hI) (if_neg (c := an_mk v0 v1) (by have e1 := pm_ti hC.1.1 (by have := hO.1.1; omega); have e2 := pm_ti hC.1.2.1 (by have := hO.1.2.1; omega); have b0 : (v0).toInt = 0 := (by have z := of_decide_eq_true c0; rw [z]; rfl); have a0 := of_decide_eq_true c1; simp only [Int32.lt_iff_toInt_lt, Int32.le_iff_toInt_le, ← Int32.toInt_inj, mLi0, mLi1, mLi2, mLi3, mLi4, mLi5, mLi6, mLi7, mLi8, mLi9, mLi10, mLi16, mLi32, mLi48, mLi57, mLi59, mLi65, mLi90, mLi97, mLi99, mLi120, mLi122, mLi127, mLi1584, mLi999999, mLim] at a0 <;> omega)).symm
    · refine mB 2 (s2 := (d + 7, 85, 13, [some (.ref 0), some (.int v0), some (.int v1)], [.int 3, .int v1], 0, 0, (mSH, I, L))) rfl ?_
      refine mBr (s2 := (d + 7, 85, 23, [some (.ref 0), some (.int v0), some (.int v1)], [], 0, 0, (mSH, I, L))) (s3 := (d + 7, 85, 16, [some (.ref 0), some (.int v0), some (.int v1)], [], 0, 0, (mSH, I, L))) rfl (fun c2 => ?_) (fun c2 => ?_)
      · refine mB 2 (s2 := (d + 7, 85, 25, [some (.ref 0), some (.int v0), some (.int v1)], [.int v0, .ref 0], 0, 0, (mSH, I, L))) rfl ?_
        refine mCall (s2 := (d + 6, 106, 0, [some (.ref 0), some (.int v0)], [], 0, 0, (mSH, I, L))) rfl ?_
        refine x_finds hI hO hC (Or.inl (of_decide_eq_true c0)) ?_ ?_
        · intro hn K fK rK cK
          show mWP mTb_ mFT ro (d + 7, 85, 28, [some (.ref 0), some (.int v0), some (.int v1)], [.int 0], 0, 0, (mSH, K, L)) _
          refine mBT (s2 := (d + 7, 85, 31, [some (.ref 0), some (.int v0), some (.int v1)], [], 0, 0, (mSH, K, L))) rfl (by decide) ?_
          refine mB 2 (s2 := (d + 7, 85, 34, [some (.ref 0), some (.int v0), some (.int v1)], [.int (-3), .ref 0], 0, 0, (mSH, K, L))) rfl ?_
          refine mCall (s2 := (d + 6, 103, 0, [some (.ref 0), some (.int (-3))], [], 0, 0, (mSH, K, L))) rfl ?_
          refine mB 2 (s2 := (d + 6, 103, 3, [some (.ref 0), some (.int (-3))], [.int (-2), .int (-3)], 0, 0, (mSH, K, L))) rfl ?_
          refine mBF (s3 := (d + 6, 103, 19, [some (.ref 0), some (.int (-3))], [], 0, 0, (mSH, K, L))) rfl (by decide) ?_
          refine mB 2 (s2 := (d + 6, 103, 22, [some (.ref 0), some (.int (-3))], [.int (-3), .int (-3)], 0, 0, (mSH, K, L))) rfl ?_
          refine mBT (s2 := (d + 6, 103, 25, [some (.ref 0), some (.int (-3))], [], 0, 0, (mSH, K, L))) rfl (by decide) ?_
          refine mB 8 (s2 := (d + 6, 103, 49, [some (.ref 0), some (.int (-3))], [.int (-3)], 0, 0, (mSH, (mUp K 0 10 ((K 0 10) + 1)), L))) rfl ?_
          refine mRt (r := (some (.int (-3)))) (h := (mSH, (mUp K 0 10 ((K 0 10) + 1)), L)) rfl (mRet_int rfl) ?_
          show mWP mTb_ mFT ro (d + 7, 85, 37, [some (.ref 0), some (.int v0), some (.int v1)], [.int (-3)], 0, 0, (mSH, (mUp K 0 10 ((K 0 10) + 1)), L)) _
          refine mRt (r := (some (.int (-3)))) (h := (mSH, (mUp K 0 10 ((K 0 10) + 1)), L)) rfl (mRet_int rfl) ?_
          exact hq _ _ (mFr.up (by rfl) (mFr.sub (by decide) fK)) (mIC.u0 (hI.sx fK rK cK)) ((an_mtn hn).trans (if_pos (c := an_mk v0 v1) (by have b0 : (v0).toInt = 0 := (by have z := of_decide_eq_true c0; rw [z]; rfl); have a0 := of_decide_eq_false c1; have a1 := of_decide_eq_true c2; simp only [Int32.lt_iff_toInt_lt, Int32.le_iff_toInt_le, ← Int32.toInt_inj, mLi0, mLi1, mLi2, mLi3, mLi4, mLi5, mLi6, mLi7, mLi8, mLi9, mLi10, mLi16, mLi32, mLi48, mLi57, mLi59, mLi65, mLi90, mLi97, mLi99, mLi120, mLi122, mLi127, mLi1584, mLi999999, mLim] at a0 a1 <;> omega)).symm)
        · intro hy K fK rK cK mK
          show mWP mTb_ mFT ro (d + 7, 85, 28, [some (.ref 0), some (.int v0), some (.int v1)], [.int 1], 0, 0, (mSH, K, L)) _
          refine mBF (s3 := (d + 7, 85, 38, [some (.ref 0), some (.int v0), some (.int v1)], [], 0, 0, (mSH, K, L))) rfl (by decide) ?_
          refine mB 1 (s2 := (d + 7, 85, 39, [some (.ref 0), some (.int v0), some (.int v1)], [.int v1], 0, 0, (mSH, K, L))) rfl ?_
          refine mSwA (l := [(decide (v1.toInt < 0 ∨ 2 < v1.toInt), (d + 7, 85, 88, [some (.ref 0), some (.int v0), some (.int v1)], [], 0, 0, (mSH, K, L))), (decide (v1.toInt = 0), (d + 7, 85, 64, [some (.ref 0), some (.int v0), some (.int v1)], [], 0, 0, (mSH, K, L))), (decide (v1.toInt = 1), (d + 7, 85, 72, [some (.ref 0), some (.int v0), some (.int v1)], [], 0, 0, (mSH, K, L))), (decide (v1.toInt = 2), (d + 7, 85, 80, [some (.ref 0), some (.int v0), some (.int v1)], [], 0, 0, (mSH, K, L)))]) rfl ⟨fun c3 => ?_, fun c3 => ?_, fun c3 => ?_, fun c3 => ?_, trivial⟩
          · refine mB 2 (s2 := (d + 7, 85, 92, [some (.ref 0), some (.int v0), some (.int v1)], [.ref 22], 0, 0, (mSH, K, L))) rfl ?_
            refine mCall (s2 := (d + 6, 16, 0, [some (.ref 22)], [], 0, 0, (mSH, K, L))) rfl ?_
            refine x_behind mK (an_v hO hy).1 hO.1.1 hO.1.2.1 ?_
            show mWP mTb_ mFT ro (d + 7, 85, 95, [some (.ref 0), some (.int v0), some (.int v1)], [.int (nI ((an_E T B kd g pe v0).2.headD 0 + ct_ys (bt_bl (an_E T B kd g pe v0).2.tail) 0 T.1.2.1))], 0, 0, (mSH, K, L)) _
            refine mRt (r := (some (.int (nI ((an_E T B kd g pe v0).2.headD 0 + ct_ys (bt_bl (an_E T B kd g pe v0).2.tail) 0 T.1.2.1))))) (h := (mSH, K, L)) rfl (mRet_int rfl) ?_
            exact hq _ _ (mFr.sub (by decide) fK) (hI.sx fK rK cK) ((an_mt3 hy (of_decide_eq_true c3)).trans (if_pos (c := an_mk v0 v1) (by have b0 : (v0).toInt = 0 := (by have z := of_decide_eq_true c0; rw [z]; rfl); have a0 := of_decide_eq_false c1; have a1 := of_decide_eq_true c2; simp only [Int32.lt_iff_toInt_lt, Int32.le_iff_toInt_le, ← Int32.toInt_inj, mLi0, mLi1, mLi2, mLi3, mLi4, mLi5, mLi6, mLi7, mLi8, mLi9, mLi10, mLi16, mLi32, mLi48, mLi57, mLi59, mLi65, mLi90, mLi97, mLi99, mLi120, mLi122, mLi127, mLi1584, mLi999999, mLim] at a0 a1 <;> omega)).symm)
          · refine mB 3 (s2 := (d + 7, 85, 71, [some (.ref 0), some (.int v0), some (.int v1)], [.int (K 22 3)], 0, 0, (mSH, K, L))) rfl ?_
            refine mRt (r := (some (.int (K 22 3)))) (h := (mSH, K, L)) rfl (mRet_int rfl) ?_
            exact hq _ _ (mFr.sub (by decide) fK) (hI.sx fK rK cK) ((mK.1.trans (an_mt0 hy (mTI (y := 0) (of_decide_eq_true c3) rfl))).trans (if_pos (c := an_mk v0 v1) (by have b0 : (v0).toInt = 0 := (by have z := of_decide_eq_true c0; rw [z]; rfl); have a0 := of_decide_eq_false c1; have a1 := of_decide_eq_true c2; simp only [Int32.lt_iff_toInt_lt, Int32.le_iff_toInt_le, ← Int32.toInt_inj, mLi0, mLi1, mLi2, mLi3, mLi4, mLi5, mLi6, mLi7, mLi8, mLi9, mLi10, mLi16, mLi32, mLi48, mLi57, mLi59, mLi65, mLi90, mLi97, mLi99, mLi120, mLi122, mLi127, mLi1584, mLi999999, mLim] at a0 a1 <;> omega)).symm)
          · refine mB 3 (s2 := (d + 7, 85, 79, [some (.ref 0), some (.int v0), some (.int v1)], [.int (K 22 2)], 0, 0, (mSH, K, L))) rfl ?_
            refine mRt (r := (some (.int (K 22 2)))) (h := (mSH, K, L)) rfl (mRet_int rfl) ?_
            exact hq _ _ (mFr.sub (by decide) fK) (hI.sx fK rK cK) ((mK.hd.trans (an_mt1 hy (mTI (y := 1) (of_decide_eq_true c3) rfl))).trans (if_pos (c := an_mk v0 v1) (by have b0 : (v0).toInt = 0 := (by have z := of_decide_eq_true c0; rw [z]; rfl); have a0 := of_decide_eq_false c1; have a1 := of_decide_eq_true c2; simp only [Int32.lt_iff_toInt_lt, Int32.le_iff_toInt_le, ← Int32.toInt_inj, mLi0, mLi1, mLi2, mLi3, mLi4, mLi5, mLi6, mLi7, mLi8, mLi9, mLi10, mLi16, mLi32, mLi48, mLi57, mLi59, mLi65, mLi90, mLi97, mLi99, mLi120, mLi122, mLi127, mLi1584, mLi999999, mLim] at a0 a1 <;> omega)).symm)
          · refine mB 2 (s2 := (d + 7, 85, 84, [some (.ref 0), some (.int v0), some (.int v1)], [.ref 22], 0, 0, (mSH, K, L))) rfl ?_
            refine mCall (s2 := (d + 6, 15, 0, [some (.ref 22)], [], 0, 0, (mSH, K, L))) rfl ?_
            refine x_missed mK (an_v hO hy).1 hO.1.1 hO.1.2.1 ?_
            show mWP mTb_ mFT ro (d + 7, 85, 87, [some (.ref 0), some (.int v0), some (.int v1)], [.int (nI (ct_ys (fun k => (an_E T B kd g pe v0).2.tail.getD k 0) 0 T.1.2.1))], 0, 0, (mSH, K, L)) _
            refine mRt (r := (some (.int (nI (ct_ys (fun k => (an_E T B kd g pe v0).2.tail.getD k 0) 0 T.1.2.1))))) (h := (mSH, K, L)) rfl (mRet_int rfl) ?_
            exact hq _ _ (mFr.sub (by decide) fK) (hI.sx fK rK cK) ((an_mt2 hy (mTI (y := 2) (of_decide_eq_true c3) rfl)).trans (if_pos (c := an_mk v0 v1) (by have b0 : (v0).toInt = 0 := (by have z := of_decide_eq_true c0; rw [z]; rfl); have a0 := of_decide_eq_false c1; have a1 := of_decide_eq_true c2; simp only [Int32.lt_iff_toInt_lt, Int32.le_iff_toInt_le, ← Int32.toInt_inj, mLi0, mLi1, mLi2, mLi3, mLi4, mLi5, mLi6, mLi7, mLi8, mLi9, mLi10, mLi16, mLi32, mLi48, mLi57, mLi59, mLi65, mLi90, mLi97, mLi99, mLi120, mLi122, mLi127, mLi1584, mLi999999, mLim] at a0 a1 <;> omega)).symm)
      · refine mB 2 (s2 := (d + 7, 85, 19, [some (.ref 0), some (.int v0), some (.int v1)], [.int (-2), .ref 0], 0, 0, (mSH, I, L))) rfl ?_
        refine mCall (s2 := (d + 6, 103, 0, [some (.ref 0), some (.int (-2))], [], 0, 0, (mSH, I, L))) rfl ?_
        refine mB 2 (s2 := (d + 6, 103, 3, [some (.ref 0), some (.int (-2))], [.int (-2), .int (-2)], 0, 0, (mSH, I, L))) rfl ?_
        refine mBT (s2 := (d + 6, 103, 6, [some (.ref 0), some (.int (-2))], [], 0, 0, (mSH, I, L))) rfl (by decide) ?_
        refine mB 8 (s2 := (d + 6, 103, 49, [some (.ref 0), some (.int (-2))], [.int (-2)], 0, 0, (mSH, (mUp I 0 9 ((I 0 9) + 1)), L))) rfl ?_
        refine mRt (r := (some (.int (-2)))) (h := (mSH, (mUp I 0 9 ((I 0 9) + 1)), L)) rfl (mRet_int rfl) ?_
        show mWP mTb_ mFT ro (d + 7, 85, 22, [some (.ref 0), some (.int v0), some (.int v1)], [.int (-2)], 0, 0, (mSH, (mUp I 0 9 ((I 0 9) + 1)), L)) _
        refine mRt (r := (some (.int (-2)))) (h := (mSH, (mUp I 0 9 ((I 0 9) + 1)), L)) rfl (mRet_int rfl) ?_
        exact hq _ _ (mFr.up (by rfl) mFr.rf) (mIC.u0 hI) (if_neg (c := an_mk v0 v1) (by have e1 := pm_ti hC.1.1 (by have := hO.1.1; omega); have e2 := pm_ti hC.1.2.1 (by have := hO.1.2.1; omega); have b0 : (v0).toInt = 0 := (by have z := of_decide_eq_true c0; rw [z]; rfl); have a0 := of_decide_eq_false c1; have a1 := of_decide_eq_false c2; simp only [Int32.lt_iff_toInt_lt, Int32.le_iff_toInt_le, ← Int32.toInt_inj, mLi0, mLi1, mLi2, mLi3, mLi4, mLi5, mLi6, mLi7, mLi8, mLi9, mLi10, mLi16, mLi32, mLi48, mLi57, mLi59, mLi65, mLi90, mLi97, mLi99, mLi120, mLi122, mLi127, mLi1584, mLi999999, mLim] at a0 a1 <;> omega)).symm
  · refine mB 2 (s2 := (d + 6, 108, 6, [some (.int v0)], [.int 1, .int v0], 0, 0, (mSH, I, L))) rfl ?_
    refine mBr (s2 := (d + 6, 108, 9, [some (.int v0)], [], 0, 0, (mSH, I, L))) (s3 := (d + 6, 108, 13, [some (.int v0)], [], 0, 0, (mSH, I, L))) rfl (fun c1 => ?_) (fun c1 => ?_)
    · refine mB 2 (s2 := (d + 6, 108, 14, [some (.int v0)], [.int 1], 0, 0, (mSH, I, L))) rfl ?_
      refine mRt (r := (some (.int 1))) (h := (mSH, I, L)) rfl rfl ?_
      show mWP mTb_ mFT ro (d + 7, 85, 4, [some (.ref 0), some (.int v0), some (.int v1)], [.int 1], 0, 0, (mSH, I, L)) _
      refine mBF (s3 := (d + 7, 85, 7, [some (.ref 0), some (.int v0), some (.int v1)], [], 0, 0, (mSH, I, L))) rfl (by decide) ?_
      refine mB 1 (s2 := (d + 7, 85, 8, [some (.ref 0), some (.int v0), some (.int v1)], [.int v1], 0, 0, (mSH, I, L))) rfl ?_
      refine mBr (s2 := (d + 7, 85, 16, [some (.ref 0), some (.int v0), some (.int v1)], [], 0, 0, (mSH, I, L))) (s3 := (d + 7, 85, 11, [some (.ref 0), some (.int v0), some (.int v1)], [], 0, 0, (mSH, I, L))) rfl (fun c2 => ?_) (fun c2 => ?_)
      · refine mB 2 (s2 := (d + 7, 85, 19, [some (.ref 0), some (.int v0), some (.int v1)], [.int (-2), .ref 0], 0, 0, (mSH, I, L))) rfl ?_
        refine mCall (s2 := (d + 6, 103, 0, [some (.ref 0), some (.int (-2))], [], 0, 0, (mSH, I, L))) rfl ?_
        refine mB 2 (s2 := (d + 6, 103, 3, [some (.ref 0), some (.int (-2))], [.int (-2), .int (-2)], 0, 0, (mSH, I, L))) rfl ?_
        refine mBT (s2 := (d + 6, 103, 6, [some (.ref 0), some (.int (-2))], [], 0, 0, (mSH, I, L))) rfl (by decide) ?_
        refine mB 8 (s2 := (d + 6, 103, 49, [some (.ref 0), some (.int (-2))], [.int (-2)], 0, 0, (mSH, (mUp I 0 9 ((I 0 9) + 1)), L))) rfl ?_
        refine mRt (r := (some (.int (-2)))) (h := (mSH, (mUp I 0 9 ((I 0 9) + 1)), L)) rfl (mRet_int rfl) ?_
        show mWP mTb_ mFT ro (d + 7, 85, 22, [some (.ref 0), some (.int v0), some (.int v1)], [.int (-2)], 0, 0, (mSH, (mUp I 0 9 ((I 0 9) + 1)), L)) _
        refine mRt (r := (some (.int (-2)))) (h := (mSH, (mUp I 0 9 ((I 0 9) + 1)), L)) rfl (mRet_int rfl) ?_
        exact hq _ _ (mFr.up (by rfl) mFr.rf) (mIC.u0 hI) (if_neg (c := an_mk v0 v1) (by have e1 := pm_ti hC.1.1 (by have := hO.1.1; omega); have e2 := pm_ti hC.1.2.1 (by have := hO.1.2.1; omega); have b0 : (v0).toInt = 1 := (by have z := of_decide_eq_true c1; rw [z]; rfl); have a0 := of_decide_eq_false c0; have a1 := of_decide_eq_true c2; simp only [Int32.lt_iff_toInt_lt, Int32.le_iff_toInt_le, ← Int32.toInt_inj, mLi0, mLi1, mLi2, mLi3, mLi4, mLi5, mLi6, mLi7, mLi8, mLi9, mLi10, mLi16, mLi32, mLi48, mLi57, mLi59, mLi65, mLi90, mLi97, mLi99, mLi120, mLi122, mLi127, mLi1584, mLi999999, mLim] at a0 a1 <;> omega)).symm
      · refine mB 2 (s2 := (d + 7, 85, 13, [some (.ref 0), some (.int v0), some (.int v1)], [.int 3, .int v1], 0, 0, (mSH, I, L))) rfl ?_
        refine mBr (s2 := (d + 7, 85, 23, [some (.ref 0), some (.int v0), some (.int v1)], [], 0, 0, (mSH, I, L))) (s3 := (d + 7, 85, 16, [some (.ref 0), some (.int v0), some (.int v1)], [], 0, 0, (mSH, I, L))) rfl (fun c3 => ?_) (fun c3 => ?_)
        · refine mB 2 (s2 := (d + 7, 85, 25, [some (.ref 0), some (.int v0), some (.int v1)], [.int v0, .ref 0], 0, 0, (mSH, I, L))) rfl ?_
          refine mCall (s2 := (d + 6, 106, 0, [some (.ref 0), some (.int v0)], [], 0, 0, (mSH, I, L))) rfl ?_
          refine x_finds hI hO hC (Or.inr (of_decide_eq_true c1)) ?_ ?_
          · intro hn K fK rK cK
            show mWP mTb_ mFT ro (d + 7, 85, 28, [some (.ref 0), some (.int v0), some (.int v1)], [.int 0], 0, 0, (mSH, K, L)) _
            refine mBT (s2 := (d + 7, 85, 31, [some (.ref 0), some (.int v0), some (.int v1)], [], 0, 0, (mSH, K, L))) rfl (by decide) ?_
            refine mB 2 (s2 := (d + 7, 85, 34, [some (.ref 0), some (.int v0), some (.int v1)], [.int (-3), .ref 0], 0, 0, (mSH, K, L))) rfl ?_
            refine mCall (s2 := (d + 6, 103, 0, [some (.ref 0), some (.int (-3))], [], 0, 0, (mSH, K, L))) rfl ?_
            refine mB 2 (s2 := (d + 6, 103, 3, [some (.ref 0), some (.int (-3))], [.int (-2), .int (-3)], 0, 0, (mSH, K, L))) rfl ?_
            refine mBF (s3 := (d + 6, 103, 19, [some (.ref 0), some (.int (-3))], [], 0, 0, (mSH, K, L))) rfl (by decide) ?_
            refine mB 2 (s2 := (d + 6, 103, 22, [some (.ref 0), some (.int (-3))], [.int (-3), .int (-3)], 0, 0, (mSH, K, L))) rfl ?_
            refine mBT (s2 := (d + 6, 103, 25, [some (.ref 0), some (.int (-3))], [], 0, 0, (mSH, K, L))) rfl (by decide) ?_
            refine mB 8 (s2 := (d + 6, 103, 49, [some (.ref 0), some (.int (-3))], [.int (-3)], 0, 0, (mSH, (mUp K 0 10 ((K 0 10) + 1)), L))) rfl ?_
            refine mRt (r := (some (.int (-3)))) (h := (mSH, (mUp K 0 10 ((K 0 10) + 1)), L)) rfl (mRet_int rfl) ?_
            show mWP mTb_ mFT ro (d + 7, 85, 37, [some (.ref 0), some (.int v0), some (.int v1)], [.int (-3)], 0, 0, (mSH, (mUp K 0 10 ((K 0 10) + 1)), L)) _
            refine mRt (r := (some (.int (-3)))) (h := (mSH, (mUp K 0 10 ((K 0 10) + 1)), L)) rfl (mRet_int rfl) ?_
            exact hq _ _ (mFr.up (by rfl) (mFr.sub (by decide) fK)) (mIC.u0 (hI.sx fK rK cK)) ((an_mtn hn).trans (if_pos (c := an_mk v0 v1) (by have b0 : (v0).toInt = 1 := (by have z := of_decide_eq_true c1; rw [z]; rfl); have a0 := of_decide_eq_false c0; have a1 := of_decide_eq_false c2; have a2 := of_decide_eq_true c3; simp only [Int32.lt_iff_toInt_lt, Int32.le_iff_toInt_le, ← Int32.toInt_inj, mLi0, mLi1, mLi2, mLi3, mLi4, mLi5, mLi6, mLi7, mLi8, mLi9, mLi10, mLi16, mLi32, mLi48, mLi57, mLi59, mLi65, mLi90, mLi97, mLi99, mLi120, mLi122, mLi127, mLi1584, mLi999999, mLim] at a0 a1 a2 <;> omega)).symm)
          · intro hy K fK rK cK mK
            show mWP mTb_ mFT ro (d + 7, 85, 28, [some (.ref 0), some (.int v0), some (.int v1)], [.int 1], 0, 0, (mSH, K, L)) _
            refine mBF (s3 := (d + 7, 85, 38, [some (.ref 0), some (.int v0), some (.int v1)], [], 0, 0, (mSH, K, L))) rfl (by decide) ?_
            refine mB 1 (s2 := (d + 7, 85, 39, [some (.ref 0), some (.int v0), some (.int v1)], [.int v1], 0, 0, (mSH, K, L))) rfl ?_
            refine mSwA (l := [(decide (v1.toInt < 0 ∨ 2 < v1.toInt), (d + 7, 85, 88, [some (.ref 0), some (.int v0), some (.int v1)], [], 0, 0, (mSH, K, L))), (decide (v1.toInt = 0), (d + 7, 85, 64, [some (.ref 0), some (.int v0), some (.int v1)], [], 0, 0, (mSH, K, L))), (decide (v1.toInt = 1), (d + 7, 85, 72, [some (.ref 0), some (.int v0), some (.int v1)], [], 0, 0, (mSH, K, L))), (decide (v1.toInt = 2), (d + 7, 85, 80, [some (.ref 0), some (.int v0), some (.int v1)], [], 0, 0, (mSH, K, L)))]) rfl ⟨fun c4 => ?_, fun c4 => ?_, fun c4 => ?_, fun c4 => ?_, trivial⟩
            · refine mB 2 (s2 := (d + 7, 85, 92, [some (.ref 0), some (.int v0), some (.int v1)], [.ref 22], 0, 0, (mSH, K, L))) rfl ?_
              refine mCall (s2 := (d + 6, 16, 0, [some (.ref 22)], [], 0, 0, (mSH, K, L))) rfl ?_
              refine x_behind mK (an_v hO hy).1 hO.1.1 hO.1.2.1 ?_
              show mWP mTb_ mFT ro (d + 7, 85, 95, [some (.ref 0), some (.int v0), some (.int v1)], [.int (nI ((an_E T B kd g pe v0).2.headD 0 + ct_ys (bt_bl (an_E T B kd g pe v0).2.tail) 0 T.1.2.1))], 0, 0, (mSH, K, L)) _
              refine mRt (r := (some (.int (nI ((an_E T B kd g pe v0).2.headD 0 + ct_ys (bt_bl (an_E T B kd g pe v0).2.tail) 0 T.1.2.1))))) (h := (mSH, K, L)) rfl (mRet_int rfl) ?_
              exact hq _ _ (mFr.sub (by decide) fK) (hI.sx fK rK cK) ((an_mt3 hy (of_decide_eq_true c4)).trans (if_pos (c := an_mk v0 v1) (by have b0 : (v0).toInt = 1 := (by have z := of_decide_eq_true c1; rw [z]; rfl); have a0 := of_decide_eq_false c0; have a1 := of_decide_eq_false c2; have a2 := of_decide_eq_true c3; simp only [Int32.lt_iff_toInt_lt, Int32.le_iff_toInt_le, ← Int32.toInt_inj, mLi0, mLi1, mLi2, mLi3, mLi4, mLi5, mLi6, mLi7, mLi8, mLi9, mLi10, mLi16, mLi32, mLi48, mLi57, mLi59, mLi65, mLi90, mLi97, mLi99, mLi120, mLi122, mLi127, mLi1584, mLi999999, mLim] at a0 a1 a2 <;> omega)).symm)
            · refine mB 3 (s2 := (d + 7, 85, 71, [some (.ref 0), some (.int v0), some (.int v1)], [.int (K 22 3)], 0, 0, (mSH, K, L))) rfl ?_
              refine mRt (r := (some (.int (K 22 3)))) (h := (mSH, K, L)) rfl (mRet_int rfl) ?_
              exact hq _ _ (mFr.sub (by decide) fK) (hI.sx fK rK cK) ((mK.1.trans (an_mt0 hy (mTI (y := 0) (of_decide_eq_true c4) rfl))).trans (if_pos (c := an_mk v0 v1) (by have b0 : (v0).toInt = 1 := (by have z := of_decide_eq_true c1; rw [z]; rfl); have a0 := of_decide_eq_false c0; have a1 := of_decide_eq_false c2; have a2 := of_decide_eq_true c3; simp only [Int32.lt_iff_toInt_lt, Int32.le_iff_toInt_le, ← Int32.toInt_inj, mLi0, mLi1, mLi2, mLi3, mLi4, mLi5, mLi6, mLi7, mLi8, mLi9, mLi10, mLi16, mLi32, mLi48, mLi57, mLi59, mLi65, mLi90, mLi97, mLi99, mLi120, mLi122, mLi127, mLi1584, mLi999999, mLim] at a0 a1 a2 <;> omega)).symm)
            · refine mB 3 (s2 := (d + 7, 85, 79, [some (.ref 0), some (.int v0), some (.int v1)], [.int (K 22 2)], 0, 0, (mSH, K, L))) rfl ?_
              refine mRt (r := (some (.int (K 22 2)))) (h := (mSH, K, L)) rfl (mRet_int rfl) ?_
              exact hq _ _ (mFr.sub (by decide) fK) (hI.sx fK rK cK) ((mK.hd.trans (an_mt1 hy (mTI (y := 1) (of_decide_eq_true c4) rfl))).trans (if_pos (c := an_mk v0 v1) (by have b0 : (v0).toInt = 1 := (by have z := of_decide_eq_true c1; rw [z]; rfl); have a0 := of_decide_eq_false c0; have a1 := of_decide_eq_false c2; have a2 := of_decide_eq_true c3; simp only [Int32.lt_iff_toInt_lt, Int32.le_iff_toInt_le, ← Int32.toInt_inj, mLi0, mLi1, mLi2, mLi3, mLi4, mLi5, mLi6, mLi7, mLi8, mLi9, mLi10, mLi16, mLi32, mLi48, mLi57, mLi59, mLi65, mLi90, mLi97, mLi99, mLi120, mLi122, mLi127, mLi1584, mLi999999, mLim] at a0 a1 a2 <;> omega)).symm)
            · refine mB 2 (s2 := (d + 7, 85, 84, [some (.ref 0), some (.int v0), some (.int v1)], [.ref 22], 0, 0, (mSH, K, L))) rfl ?_
              refine mCall (s2 := (d + 6, 15, 0, [some (.ref 22)], [], 0, 0, (mSH, K, L))) rfl ?_
              refine x_missed mK (an_v hO hy).1 hO.1.1 hO.1.2.1 ?_
              show mWP mTb_ mFT ro (d + 7, 85, 87, [some (.ref 0), some (.int v0), some (.int v1)], [.int (nI (ct_ys (fun k => (an_E T B kd g pe v0).2.tail.getD k 0) 0 T.1.2.1))], 0, 0, (mSH, K, L)) _
              refine mRt (r := (some (.int (nI (ct_ys (fun k => (an_E T B kd g pe v0).2.tail.getD k 0) 0 T.1.2.1))))) (h := (mSH, K, L)) rfl (mRet_int rfl) ?_
              exact hq _ _ (mFr.sub (by decide) fK) (hI.sx fK rK cK) ((an_mt2 hy (mTI (y := 2) (of_decide_eq_true c4) rfl)).trans (if_pos (c := an_mk v0 v1) (by have b0 : (v0).toInt = 1 := (by have z := of_decide_eq_true c1; rw [z]; rfl); have a0 := of_decide_eq_false c0; have a1 := of_decide_eq_false c2; have a2 := of_decide_eq_true c3; simp only [Int32.lt_iff_toInt_lt, Int32.le_iff_toInt_le, ← Int32.toInt_inj, mLi0, mLi1, mLi2, mLi3, mLi4, mLi5, mLi6, mLi7, mLi8, mLi9, mLi10, mLi16, mLi32, mLi48, mLi57, mLi59, mLi65, mLi90, mLi97, mLi99, mLi120, mLi122, mLi127, mLi1584, mLi999999, mLim] at a0 a1 a2 <;> omega)).symm)
        · refine mB 2 (s2 := (d + 7, 85, 19, [some (.ref 0), some (.int v0), some (.int v1)], [.int (-2), .ref 0], 0, 0, (mSH, I, L))) rfl ?_
          refine mCall (s2 := (d + 6, 103, 0, [some (.ref 0), some (.int (-2))], [], 0, 0, (mSH, I, L))) rfl ?_
          refine mB 2 (s2 := (d + 6, 103, 3, [some (.ref 0), some (.int (-2))], [.int (-2), .int (-2)], 0, 0, (mSH, I, L))) rfl ?_
          refine mBT (s2 := (d + 6, 103, 6, [some (.ref 0), some (.int (-2))], [], 0, 0, (mSH, I, L))) rfl (by decide) ?_
          refine mB 8 (s2 := (d + 6, 103, 49, [some (.ref 0), some (.int (-2))], [.int (-2)], 0, 0, (mSH, (mUp I 0 9 ((I 0 9) + 1)), L))) rfl ?_
          refine mRt (r := (some (.int (-2)))) (h := (mSH, (mUp I 0 9 ((I 0 9) + 1)), L)) rfl (mRet_int rfl) ?_
          show mWP mTb_ mFT ro (d + 7, 85, 22, [some (.ref 0), some (.int v0), some (.int v1)], [.int (-2)], 0, 0, (mSH, (mUp I 0 9 ((I 0 9) + 1)), L)) _
          refine mRt (r := (some (.int (-2)))) (h := (mSH, (mUp I 0 9 ((I 0 9) + 1)), L)) rfl (mRet_int rfl) ?_
          exact hq _ _ (mFr.up (by rfl) mFr.rf) (mIC.u0 hI) (if_neg (c := an_mk v0 v1) (by have e1 := pm_ti hC.1.1 (by have := hO.1.1; omega); have e2 := pm_ti hC.1.2.1 (by have := hO.1.2.1; omega); have b0 : (v0).toInt = 1 := (by have z := of_decide_eq_true c1; rw [z]; rfl); have a0 := of_decide_eq_false c0; have a1 := of_decide_eq_false c2; have a2 := of_decide_eq_false c3; simp only [Int32.lt_iff_toInt_lt, Int32.le_iff_toInt_le, ← Int32.toInt_inj, mLi0, mLi1, mLi2, mLi3, mLi4, mLi5, mLi6, mLi7, mLi8, mLi9, mLi10, mLi16, mLi32, mLi48, mLi57, mLi59, mLi65, mLi90, mLi97, mLi99, mLi120, mLi122, mLi127, mLi1584, mLi999999, mLim] at a0 a1 a2 <;> omega)).symm
    · refine mB 1 (s2 := (d + 6, 108, 14, [some (.int v0)], [.int 0], 0, 0, (mSH, I, L))) rfl ?_
      refine mRt (r := (some (.int 0))) (h := (mSH, I, L)) rfl rfl ?_
      show mWP mTb_ mFT ro (d + 7, 85, 4, [some (.ref 0), some (.int v0), some (.int v1)], [.int 0], 0, 0, (mSH, I, L)) _
      refine mBT (s2 := (d + 7, 85, 16, [some (.ref 0), some (.int v0), some (.int v1)], [], 0, 0, (mSH, I, L))) rfl (by decide) ?_
      refine mB 2 (s2 := (d + 7, 85, 19, [some (.ref 0), some (.int v0), some (.int v1)], [.int (-2), .ref 0], 0, 0, (mSH, I, L))) rfl ?_
      refine mCall (s2 := (d + 6, 103, 0, [some (.ref 0), some (.int (-2))], [], 0, 0, (mSH, I, L))) rfl ?_
      refine mB 2 (s2 := (d + 6, 103, 3, [some (.ref 0), some (.int (-2))], [.int (-2), .int (-2)], 0, 0, (mSH, I, L))) rfl ?_
      refine mBT (s2 := (d + 6, 103, 6, [some (.ref 0), some (.int (-2))], [], 0, 0, (mSH, I, L))) rfl (by decide) ?_
      refine mB 8 (s2 := (d + 6, 103, 49, [some (.ref 0), some (.int (-2))], [.int (-2)], 0, 0, (mSH, (mUp I 0 9 ((I 0 9) + 1)), L))) rfl ?_
      refine mRt (r := (some (.int (-2)))) (h := (mSH, (mUp I 0 9 ((I 0 9) + 1)), L)) rfl (mRet_int rfl) ?_
      show mWP mTb_ mFT ro (d + 7, 85, 22, [some (.ref 0), some (.int v0), some (.int v1)], [.int (-2)], 0, 0, (mSH, (mUp I 0 9 ((I 0 9) + 1)), L)) _
      refine mRt (r := (some (.int (-2)))) (h := (mSH, (mUp I 0 9 ((I 0 9) + 1)), L)) rfl (mRet_int rfl) ?_
      exact hq _ _ (mFr.up (by rfl) mFr.rf) (mIC.u0 hI) (if_neg (c := an_mk v0 v1) (by have e1 := pm_ti hC.1.1 (by have := hO.1.1; omega); have e2 := pm_ti hC.1.2.1 (by have := hO.1.2.1; omega); have a0 := of_decide_eq_false c0; have a1 := of_decide_eq_false c1; simp only [Int32.lt_iff_toInt_lt, Int32.le_iff_toInt_le, ← Int32.toInt_inj, mLi0, mLi1, mLi2, mLi3, mLi4, mLi5, mLi6, mLi7, mLi8, mLi9, mLi10, mLi16, mLi32, mLi48, mLi57, mLi59, mLi65, mLi90, mLi97, mLi99, mLi120, mLi122, mLi127, mLi1584, mLi999999, mLim] at a0 a1 <;> omega)).symm
theorem an_bly {T : ct_S} {B : ct_B} {kd g pe : Nat} {v0 v1 : Int32} {I K : Nat → Nat → Int32} (hO : pm_O T B kd g pe) (h4 : I 4 1 = nI T.1.2.1) (hM : cl_M T.1.2.1 (an_E T B kd g pe v0) K) (hy : (an_E T B kd g pe v0).1 < bt_U) (c1 : ¬ v1 < 0) (c2 : ¬ I 4 1 ≤ v1) : mAt K 23 24 v1 = (if (an_E T B kd g pe v0).1 < bt_U then nI (bt_bl (an_E T B kd g pe v0).2.tail v1.toInt.toNat) else -3) := by
  have n8 := hO.1.2.1
  obtain ⟨j, hj, e⟩ := pm_in h4 (by omega) c1 c2
  subst e
  rw [if_pos hy, mAt_lt hM.2.1 hj (by omega), hM.bl hj, pm_tn (by omega)]
theorem v_block {ro : Nat → Nat × (Nat → Int32)} {Q : mPo} {d : Nat} {I : Nat → Nat → Int32} {L : Nat → Nat → Int64} {T : ct_S} {B : ct_B} {kd g pe : Nat} {v0 v1 : Int32} (hI : mIC I) (hO : pm_O T B kd g pe) (hC : pm_C T B kd g pe I) (hq : ∀ r I1, mFr mSQ I I1 → mIC I1 → r = an_block T B kd g pe v0 v1 → Q (some (.int r)) (mSH, I1, L))   : mWP mTb_ mFT ro (d + 7, 86, 0, [some (.ref 0), some (.int v0), some (.int v1)], [], 0, 0, (mSH, I, L)) Q := by
  refine mB 1 (s2 := (d + 7, 86, 1, [some (.ref 0), some (.int v0), some (.int v1)], [.int v0], 0, 0, (mSH, I, L))) rfl ?_
  refine mCall (s2 := (d + 6, 108, 0, [some (.int v0)], [], 0, 0, (mSH, I, L))) rfl ?_
  refine mB 1 (s2 := (d + 6, 108, 1, [some (.int v0)], [.int v0], 0, 0, (mSH, I, L))) rfl ?_
  refine mBr (s2 := (d + 6, 108, 9, [some (.int v0)], [], 0, 0, (mSH, I, L))) (s3 := (d + 6, 108, 4, [some (.int v0)], [], 0, 0, (mSH, I, L))) rfl (fun c0 => ?_) (fun c0 => ?_)
  · refine mB 2 (s2 := (d + 6, 108, 14, [some (.int v0)], [.int 1], 0, 0, (mSH, I, L))) rfl ?_
    refine mRt (r := (some (.int 1))) (h := (mSH, I, L)) rfl rfl ?_
    show mWP mTb_ mFT ro (d + 7, 86, 4, [some (.ref 0), some (.int v0), some (.int v1)], [.int 1], 0, 0, (mSH, I, L)) _
    refine mBF (s3 := (d + 7, 86, 7, [some (.ref 0), some (.int v0), some (.int v1)], [], 0, 0, (mSH, I, L))) rfl (by decide) ?_
    refine mB 4 (s2 := (d + 7, 86, 15, [some (.ref 0), some (.int v0), some (.int v1)], [.int v1, .ref 4], 0, 0, (mSH, I, L))) rfl ?_
    refine mCall (s2 := (d + 6, 41, 0, [some (.ref 4), some (.int v1)], [], 0, 0, (mSH, I, L))) rfl ?_
    refine mB 1 (s2 := (d + 6, 41, 1, [some (.ref 4), some (.int v1)], [.int v1], 0, 0, (mSH, I, L))) rfl ?_
    refine mBr (s2 := (d + 6, 41, 16, [some (.ref 4), some (.int v1)], [], 0, 0, (mSH, I, L))) (s3 := (d + 6, 41, 4, [some (.ref 4), some (.int v1)], [], 0, 0, (mSH, I, L))) rfl (fun c1 => ?_) (fun c1 => ?_)
    · refine mB 1 (s2 := (d + 6, 41, 17, [some (.ref 4), some (.int v1)], [.int 0], 0, 0, (mSH, I, L))) rfl ?_
      refine mRt (r := (some (.int 0))) (h := (mSH, I, L)) rfl rfl ?_
      show mWP mTb_ mFT ro (d + 7, 86, 18, [some (.ref 0), some (.int v0), some (.int v1)], [.int 0], 0, 0, (mSH, I, L)) _
      refine mBT (s2 := (d + 7, 86, 21, [some (.ref 0), some (.int v0), some (.int v1)], [], 0, 0, (mSH, I, L))) rfl (by decide) ?_
      refine mB 2 (s2 := (d + 7, 86, 24, [some (.ref 0), some (.int v0), some (.int v1)], [.int (-2), .ref 0], 0, 0, (mSH, I, L))) rfl ?_
      refine mCall (s2 := (d + 6, 103, 0, [some (.ref 0), some (.int (-2))], [], 0, 0, (mSH, I, L))) rfl ?_
      refine mB 2 (s2 := (d + 6, 103, 3, [some (.ref 0), some (.int (-2))], [.int (-2), .int (-2)], 0, 0, (mSH, I, L))) rfl ?_
      refine mBT (s2 := (d + 6, 103, 6, [some (.ref 0), some (.int (-2))], [], 0, 0, (mSH, I, L))) rfl (by decide) ?_
      refine mB 8 (s2 := (d + 6, 103, 49, [some (.ref 0), some (.int (-2))], [.int (-2)], 0, 0, (mSH, (mUp I 0 9 ((I 0 9) + 1)), L))) rfl ?_
      refine mRt (r := (some (.int (-2)))) (h := (mSH, (mUp I 0 9 ((I 0 9) + 1)), L)) rfl (mRet_int rfl) ?_
      show mWP mTb_ mFT ro (d + 7, 86, 27, [some (.ref 0), some (.int v0), some (.int v1)], [.int (-2)], 0, 0, (mSH, (mUp I 0 9 ((I 0 9) + 1)), L)) _
      refine mRt (r := (some (.int (-2)))) (h := (mSH, (mUp I 0 9 ((I 0 9) + 1)), L)) rfl (mRet_int rfl) ?_
      exact hq _ _ (mFr.up (by rfl) mFr.rf) (mIC.u0 hI) (if_neg (c := an_bk T v0 v1) (by have e1 := pm_ti hC.1.1 (by have := hO.1.1; omega); have e2 := pm_ti hC.1.2.1 (by have := hO.1.2.1; omega); have b0 : (v0).toInt = 0 := (by have z := of_decide_eq_true c0; rw [z]; rfl); have a0 := of_decide_eq_true c1; simp only [Int32.lt_iff_toInt_lt, Int32.le_iff_toInt_le, ← Int32.toInt_inj, mLi0, mLi1, mLi2, mLi3, mLi4, mLi5, mLi6, mLi7, mLi8, mLi9, mLi10, mLi16, mLi32, mLi48, mLi57, mLi59, mLi65, mLi90, mLi97, mLi99, mLi120, mLi122, mLi127, mLi1584, mLi999999, mLim] at a0 <;> omega)).symm
    · refine mB 3 (s2 := (d + 6, 41, 9, [some (.ref 4), some (.int v1)], [.int (I 4 1), .int v1], 0, 0, (mSH, I, L))) rfl ?_
      refine mBr (s2 := (d + 6, 41, 16, [some (.ref 4), some (.int v1)], [], 0, 0, (mSH, I, L))) (s3 := (d + 6, 41, 12, [some (.ref 4), some (.int v1)], [], 0, 0, (mSH, I, L))) rfl (fun c2 => ?_) (fun c2 => ?_)
      · refine mB 1 (s2 := (d + 6, 41, 17, [some (.ref 4), some (.int v1)], [.int 0], 0, 0, (mSH, I, L))) rfl ?_
        refine mRt (r := (some (.int 0))) (h := (mSH, I, L)) rfl rfl ?_
        show mWP mTb_ mFT ro (d + 7, 86, 18, [some (.ref 0), some (.int v0), some (.int v1)], [.int 0], 0, 0, (mSH, I, L)) _
        refine mBT (s2 := (d + 7, 86, 21, [some (.ref 0), some (.int v0), some (.int v1)], [], 0, 0, (mSH, I, L))) rfl (by decide) ?_
        refine mB 2 (s2 := (d + 7, 86, 24, [some (.ref 0), some (.int v0), some (.int v1)], [.int (-2), .ref 0], 0, 0, (mSH, I, L))) rfl ?_
        refine mCall (s2 := (d + 6, 103, 0, [some (.ref 0), some (.int (-2))], [], 0, 0, (mSH, I, L))) rfl ?_
        refine mB 2 (s2 := (d + 6, 103, 3, [some (.ref 0), some (.int (-2))], [.int (-2), .int (-2)], 0, 0, (mSH, I, L))) rfl ?_
        refine mBT (s2 := (d + 6, 103, 6, [some (.ref 0), some (.int (-2))], [], 0, 0, (mSH, I, L))) rfl (by decide) ?_
        refine mB 8 (s2 := (d + 6, 103, 49, [some (.ref 0), some (.int (-2))], [.int (-2)], 0, 0, (mSH, (mUp I 0 9 ((I 0 9) + 1)), L))) rfl ?_
        refine mRt (r := (some (.int (-2)))) (h := (mSH, (mUp I 0 9 ((I 0 9) + 1)), L)) rfl (mRet_int rfl) ?_
        show mWP mTb_ mFT ro (d + 7, 86, 27, [some (.ref 0), some (.int v0), some (.int v1)], [.int (-2)], 0, 0, (mSH, (mUp I 0 9 ((I 0 9) + 1)), L)) _
        refine mRt (r := (some (.int (-2)))) (h := (mSH, (mUp I 0 9 ((I 0 9) + 1)), L)) rfl (mRet_int rfl) ?_
        exact hq _ _ (mFr.up (by rfl) mFr.rf) (mIC.u0 hI) (if_neg (c := an_bk T v0 v1) (by have e1 := pm_ti hC.1.1 (by have := hO.1.1; omega); have e2 := pm_ti hC.1.2.1 (by have := hO.1.2.1; omega); have b0 : (v0).toInt = 0 := (by have z := of_decide_eq_true c0; rw [z]; rfl); have a0 := of_decide_eq_false c1; have a1 := of_decide_eq_true c2; simp only [Int32.lt_iff_toInt_lt, Int32.le_iff_toInt_le, ← Int32.toInt_inj, mLi0, mLi1, mLi2, mLi3, mLi4, mLi5, mLi6, mLi7, mLi8, mLi9, mLi10, mLi16, mLi32, mLi48, mLi57, mLi59, mLi65, mLi90, mLi97, mLi99, mLi120, mLi122, mLi127, mLi1584, mLi999999, mLim] at a0 a1 <;> omega)).symm
      · refine mB 2 (s2 := (d + 6, 41, 17, [some (.ref 4), some (.int v1)], [.int 1], 0, 0, (mSH, I, L))) rfl ?_
        refine mRt (r := (some (.int 1))) (h := (mSH, I, L)) rfl rfl ?_
        show mWP mTb_ mFT ro (d + 7, 86, 18, [some (.ref 0), some (.int v0), some (.int v1)], [.int 1], 0, 0, (mSH, I, L)) _
        refine mBF (s3 := (d + 7, 86, 28, [some (.ref 0), some (.int v0), some (.int v1)], [], 0, 0, (mSH, I, L))) rfl (by decide) ?_
        refine mB 2 (s2 := (d + 7, 86, 30, [some (.ref 0), some (.int v0), some (.int v1)], [.int v0, .ref 0], 0, 0, (mSH, I, L))) rfl ?_
        refine mCall (s2 := (d + 6, 106, 0, [some (.ref 0), some (.int v0)], [], 0, 0, (mSH, I, L))) rfl ?_
        refine x_finds hI hO hC (Or.inl (of_decide_eq_true c0)) ?_ ?_
        · intro hn K fK rK cK
          show mWP mTb_ mFT ro (d + 7, 86, 33, [some (.ref 0), some (.int v0), some (.int v1)], [.int 0], 0, 0, (mSH, K, L)) _
          refine mBT (s2 := (d + 7, 86, 36, [some (.ref 0), some (.int v0), some (.int v1)], [], 0, 0, (mSH, K, L))) rfl (by decide) ?_
          refine mB 2 (s2 := (d + 7, 86, 39, [some (.ref 0), some (.int v0), some (.int v1)], [.int (-3), .ref 0], 0, 0, (mSH, K, L))) rfl ?_
          refine mCall (s2 := (d + 6, 103, 0, [some (.ref 0), some (.int (-3))], [], 0, 0, (mSH, K, L))) rfl ?_
          refine mB 2 (s2 := (d + 6, 103, 3, [some (.ref 0), some (.int (-3))], [.int (-2), .int (-3)], 0, 0, (mSH, K, L))) rfl ?_
          refine mBF (s3 := (d + 6, 103, 19, [some (.ref 0), some (.int (-3))], [], 0, 0, (mSH, K, L))) rfl (by decide) ?_
          refine mB 2 (s2 := (d + 6, 103, 22, [some (.ref 0), some (.int (-3))], [.int (-3), .int (-3)], 0, 0, (mSH, K, L))) rfl ?_
          refine mBT (s2 := (d + 6, 103, 25, [some (.ref 0), some (.int (-3))], [], 0, 0, (mSH, K, L))) rfl (by decide) ?_
          refine mB 8 (s2 := (d + 6, 103, 49, [some (.ref 0), some (.int (-3))], [.int (-3)], 0, 0, (mSH, (mUp K 0 10 ((K 0 10) + 1)), L))) rfl ?_
          refine mRt (r := (some (.int (-3)))) (h := (mSH, (mUp K 0 10 ((K 0 10) + 1)), L)) rfl (mRet_int rfl) ?_
          show mWP mTb_ mFT ro (d + 7, 86, 42, [some (.ref 0), some (.int v0), some (.int v1)], [.int (-3)], 0, 0, (mSH, (mUp K 0 10 ((K 0 10) + 1)), L)) _
          refine mRt (r := (some (.int (-3)))) (h := (mSH, (mUp K 0 10 ((K 0 10) + 1)), L)) rfl (mRet_int rfl) ?_
          exact hq _ _ (mFr.up (by rfl) (mFr.sub (by decide) fK)) (mIC.u0 (hI.sx fK rK cK)) ((if_neg hn).symm.trans (if_pos (c := an_bk T v0 v1) (by have e1 := pm_ti hC.1.1 (by have := hO.1.1; omega); have e2 := pm_ti hC.1.2.1 (by have := hO.1.2.1; omega); have b0 : (v0).toInt = 0 := (by have z := of_decide_eq_true c0; rw [z]; rfl); have a0 := of_decide_eq_false c1; have a1 := of_decide_eq_false c2; simp only [Int32.lt_iff_toInt_lt, Int32.le_iff_toInt_le, ← Int32.toInt_inj, mLi0, mLi1, mLi2, mLi3, mLi4, mLi5, mLi6, mLi7, mLi8, mLi9, mLi10, mLi16, mLi32, mLi48, mLi57, mLi59, mLi65, mLi90, mLi97, mLi99, mLi120, mLi122, mLi127, mLi1584, mLi999999, mLim] at a0 a1 <;> omega)).symm)
        · intro hy K fK rK cK mK
          show mWP mTb_ mFT ro (d + 7, 86, 33, [some (.ref 0), some (.int v0), some (.int v1)], [.int 1], 0, 0, (mSH, K, L)) _
          refine mBF (s3 := (d + 7, 86, 43, [some (.ref 0), some (.int v0), some (.int v1)], [], 0, 0, (mSH, K, L))) rfl (by decide) ?_
          refine mB 4 (s2 := (d + 7, 86, 51, [some (.ref 0), some (.int v0), some (.int v1)], [.int v1, .ref 23], 0, 0, (mSH, K, L))) rfl ?_
          refine mCall (s2 := (d + 6, 42, 0, [some (.ref 23), some (.int v1)], [], 0, 0, (mSH, K, L))) rfl ?_
          refine w_at_23 cK ?_
          show mWP mTb_ mFT ro (d + 7, 86, 54, [some (.ref 0), some (.int v0), some (.int v1)], [.int (mAt K 23 24 v1)], 0, 0, (mSH, K, L)) _
          refine mRt (r := (some (.int (mAt K 23 24 v1)))) (h := (mSH, K, L)) rfl (mRet_int rfl) ?_
          exact hq _ _ (mFr.sub (by decide) fK) (hI.sx fK rK cK) ((an_bly hO hC.1.2.1 mK hy (of_decide_eq_false c1) (of_decide_eq_false c2)).trans (if_pos (c := an_bk T v0 v1) (by have e1 := pm_ti hC.1.1 (by have := hO.1.1; omega); have e2 := pm_ti hC.1.2.1 (by have := hO.1.2.1; omega); have b0 : (v0).toInt = 0 := (by have z := of_decide_eq_true c0; rw [z]; rfl); have a0 := of_decide_eq_false c1; have a1 := of_decide_eq_false c2; simp only [Int32.lt_iff_toInt_lt, Int32.le_iff_toInt_le, ← Int32.toInt_inj, mLi0, mLi1, mLi2, mLi3, mLi4, mLi5, mLi6, mLi7, mLi8, mLi9, mLi10, mLi16, mLi32, mLi48, mLi57, mLi59, mLi65, mLi90, mLi97, mLi99, mLi120, mLi122, mLi127, mLi1584, mLi999999, mLim] at a0 a1 <;> omega)).symm)
  · refine mB 2 (s2 := (d + 6, 108, 6, [some (.int v0)], [.int 1, .int v0], 0, 0, (mSH, I, L))) rfl ?_
    refine mBr (s2 := (d + 6, 108, 9, [some (.int v0)], [], 0, 0, (mSH, I, L))) (s3 := (d + 6, 108, 13, [some (.int v0)], [], 0, 0, (mSH, I, L))) rfl (fun c1 => ?_) (fun c1 => ?_)
    · refine mB 2 (s2 := (d + 6, 108, 14, [some (.int v0)], [.int 1], 0, 0, (mSH, I, L))) rfl ?_
      refine mRt (r := (some (.int 1))) (h := (mSH, I, L)) rfl rfl ?_
      show mWP mTb_ mFT ro (d + 7, 86, 4, [some (.ref 0), some (.int v0), some (.int v1)], [.int 1], 0, 0, (mSH, I, L)) _
      refine mBF (s3 := (d + 7, 86, 7, [some (.ref 0), some (.int v0), some (.int v1)], [], 0, 0, (mSH, I, L))) rfl (by decide) ?_
      refine mB 4 (s2 := (d + 7, 86, 15, [some (.ref 0), some (.int v0), some (.int v1)], [.int v1, .ref 4], 0, 0, (mSH, I, L))) rfl ?_
      refine mCall (s2 := (d + 6, 41, 0, [some (.ref 4), some (.int v1)], [], 0, 0, (mSH, I, L))) rfl ?_
      refine mB 1 (s2 := (d + 6, 41, 1, [some (.ref 4), some (.int v1)], [.int v1], 0, 0, (mSH, I, L))) rfl ?_
      refine mBr (s2 := (d + 6, 41, 16, [some (.ref 4), some (.int v1)], [], 0, 0, (mSH, I, L))) (s3 := (d + 6, 41, 4, [some (.ref 4), some (.int v1)], [], 0, 0, (mSH, I, L))) rfl (fun c2 => ?_) (fun c2 => ?_)
      · refine mB 1 (s2 := (d + 6, 41, 17, [some (.ref 4), some (.int v1)], [.int 0], 0, 0, (mSH, I, L))) rfl ?_
        refine mRt (r := (some (.int 0))) (h := (mSH, I, L)) rfl rfl ?_
        show mWP mTb_ mFT ro (d + 7, 86, 18, [some (.ref 0), some (.int v0), some (.int v1)], [.int 0], 0, 0, (mSH, I, L)) _
        refine mBT (s2 := (d + 7, 86, 21, [some (.ref 0), some (.int v0), some (.int v1)], [], 0, 0, (mSH, I, L))) rfl (by decide) ?_
        refine mB 2 (s2 := (d + 7, 86, 24, [some (.ref 0), some (.int v0), some (.int v1)], [.int (-2), .ref 0], 0, 0, (mSH, I, L))) rfl ?_
        refine mCall (s2 := (d + 6, 103, 0, [some (.ref 0), some (.int (-2))], [], 0, 0, (mSH, I, L))) rfl ?_
        refine mB 2 (s2 := (d + 6, 103, 3, [some (.ref 0), some (.int (-2))], [.int (-2), .int (-2)], 0, 0, (mSH, I, L))) rfl ?_
        refine mBT (s2 := (d + 6, 103, 6, [some (.ref 0), some (.int (-2))], [], 0, 0, (mSH, I, L))) rfl (by decide) ?_
        refine mB 8 (s2 := (d + 6, 103, 49, [some (.ref 0), some (.int (-2))], [.int (-2)], 0, 0, (mSH, (mUp I 0 9 ((I 0 9) + 1)), L))) rfl ?_
        refine mRt (r := (some (.int (-2)))) (h := (mSH, (mUp I 0 9 ((I 0 9) + 1)), L)) rfl (mRet_int rfl) ?_
        show mWP mTb_ mFT ro (d + 7, 86, 27, [some (.ref 0), some (.int v0), some (.int v1)], [.int (-2)], 0, 0, (mSH, (mUp I 0 9 ((I 0 9) + 1)), L)) _
        refine mRt (r := (some (.int (-2)))) (h := (mSH, (mUp I 0 9 ((I 0 9) + 1)), L)) rfl (mRet_int rfl) ?_
        exact hq _ _ (mFr.up (by rfl) mFr.rf) (mIC.u0 hI) (if_neg (c := an_bk T v0 v1) (by have e1 := pm_ti hC.1.1 (by have := hO.1.1; omega); have e2 := pm_ti hC.1.2.1 (by have := hO.1.2.1; omega); have b0 : (v0).toInt = 1 := (by have z := of_decide_eq_true c1; rw [z]; rfl); have a0 := of_decide_eq_false c0; have a1 := of_decide_eq_true c2; simp only [Int32.lt_iff_toInt_lt, Int32.le_iff_toInt_le, ← Int32.toInt_inj, mLi0, mLi1, mLi2, mLi3, mLi4, mLi5, mLi6, mLi7, mLi8, mLi9, mLi10, mLi16, mLi32, mLi48, mLi57, mLi59, mLi65, mLi90, mLi97, mLi99, mLi120, mLi122, mLi127, mLi1584, mLi999999, mLim] at a0 a1 <;> omega)).symm
      · refine mB 3 (s2 := (d + 6, 41, 9, [some (.ref 4), some (.int v1)], [.int (I 4 1), .int v1], 0, 0, (mSH, I, L))) rfl ?_
        refine mBr (s2 := (d + 6, 41, 16, [some (.ref 4), some (.int v1)], [], 0, 0, (mSH, I, L))) (s3 := (d + 6, 41, 12, [some (.ref 4), some (.int v1)], [], 0, 0, (mSH, I, L))) rfl (fun c3 => ?_) (fun c3 => ?_)
        · refine mB 1 (s2 := (d + 6, 41, 17, [some (.ref 4), some (.int v1)], [.int 0], 0, 0, (mSH, I, L))) rfl ?_
          refine mRt (r := (some (.int 0))) (h := (mSH, I, L)) rfl rfl ?_
          show mWP mTb_ mFT ro (d + 7, 86, 18, [some (.ref 0), some (.int v0), some (.int v1)], [.int 0], 0, 0, (mSH, I, L)) _
          refine mBT (s2 := (d + 7, 86, 21, [some (.ref 0), some (.int v0), some (.int v1)], [], 0, 0, (mSH, I, L))) rfl (by decide) ?_
          refine mB 2 (s2 := (d + 7, 86, 24, [some (.ref 0), some (.int v0), some (.int v1)], [.int (-2), .ref 0], 0, 0, (mSH, I, L))) rfl ?_
          refine mCall (s2 := (d + 6, 103, 0, [some (.ref 0), some (.int (-2))], [], 0, 0, (mSH, I, L))) rfl ?_
          refine mB 2 (s2 := (d + 6, 103, 3, [some (.ref 0), some (.int (-2))], [.int (-2), .int (-2)], 0, 0, (mSH, I, L))) rfl ?_
          refine mBT (s2 := (d + 6, 103, 6, [some (.ref 0), some (.int (-2))], [], 0, 0, (mSH, I, L))) rfl (by decide) ?_
          refine mB 8 (s2 := (d + 6, 103, 49, [some (.ref 0), some (.int (-2))], [.int (-2)], 0, 0, (mSH, (mUp I 0 9 ((I 0 9) + 1)), L))) rfl ?_
          refine mRt (r := (some (.int (-2)))) (h := (mSH, (mUp I 0 9 ((I 0 9) + 1)), L)) rfl (mRet_int rfl) ?_
          show mWP mTb_ mFT ro (d + 7, 86, 27, [some (.ref 0), some (.int v0), some (.int v1)], [.int (-2)], 0, 0, (mSH, (mUp I 0 9 ((I 0 9) + 1)), L)) _
          refine mRt (r := (some (.int (-2)))) (h := (mSH, (mUp I 0 9 ((I 0 9) + 1)), L)) rfl (mRet_int rfl) ?_
          exact hq _ _ (mFr.up (by rfl) mFr.rf) (mIC.u0 hI) (if_neg (c := an_bk T v0 v1) (by have e1 := pm_ti hC.1.1 (by have := hO.1.1; omega); have e2 := pm_ti hC.1.2.1 (by have := hO.1.2.1; omega); have b0 : (v0).toInt = 1 := (by have z := of_decide_eq_true c1; rw [z]; rfl); have a0 := of_decide_eq_false c0; have a1 := of_decide_eq_false c2; have a2 := of_decide_eq_true c3; simp only [Int32.lt_iff_toInt_lt, Int32.le_iff_toInt_le, ← Int32.toInt_inj, mLi0, mLi1, mLi2, mLi3, mLi4, mLi5, mLi6, mLi7, mLi8, mLi9, mLi10, mLi16, mLi32, mLi48, mLi57, mLi59, mLi65, mLi90, mLi97, mLi99, mLi120, mLi122, mLi127, mLi1584, mLi999999, mLim] at a0 a1 a2 <;> omega)).symm
        · refine mB 2 (s2 := (d + 6, 41, 17, [some (.ref 4), some (.int v1)], [.int 1], 0, 0, (mSH, I, L))) rfl ?_
          refine mRt (r := (some (.int 1))) (h := (mSH, I, L)) rfl rfl ?_
          show mWP mTb_ mFT ro (d + 7, 86, 18, [some (.ref 0), some (.int v0), some (.int v1)], [.int 1], 0, 0, (mSH, I, L)) _
          refine mBF (s3 := (d + 7, 86, 28, [some (.ref 0), some (.int v0), some (.int v1)], [], 0, 0, (mSH, I, L))) rfl (by decide) ?_
          refine mB 2 (s2 := (d + 7, 86, 30, [some (.ref 0), some (.int v0), some (.int v1)], [.int v0, .ref 0], 0, 0, (mSH, I, L))) rfl ?_
          refine mCall (s2 := (d + 6, 106, 0, [some (.ref 0), some (.int v0)], [], 0, 0, (mSH, I, L))) rfl ?_
          refine x_finds hI hO hC (Or.inr (of_decide_eq_true c1)) ?_ ?_
          · intro hn K fK rK cK
            show mWP mTb_ mFT ro (d + 7, 86, 33, [some (.ref 0), some (.int v0), some (.int v1)], [.int 0], 0, 0, (mSH, K, L)) _
            refine mBT (s2 := (d + 7, 86, 36, [some (.ref 0), some (.int v0), some (.int v1)], [], 0, 0, (mSH, K, L))) rfl (by decide) ?_
            refine mB 2 (s2 := (d + 7, 86, 39, [some (.ref 0), some (.int v0), some (.int v1)], [.int (-3), .ref 0], 0, 0, (mSH, K, L))) rfl ?_
            refine mCall (s2 := (d + 6, 103, 0, [some (.ref 0), some (.int (-3))], [], 0, 0, (mSH, K, L))) rfl ?_
            refine mB 2 (s2 := (d + 6, 103, 3, [some (.ref 0), some (.int (-3))], [.int (-2), .int (-3)], 0, 0, (mSH, K, L))) rfl ?_
            refine mBF (s3 := (d + 6, 103, 19, [some (.ref 0), some (.int (-3))], [], 0, 0, (mSH, K, L))) rfl (by decide) ?_
            refine mB 2 (s2 := (d + 6, 103, 22, [some (.ref 0), some (.int (-3))], [.int (-3), .int (-3)], 0, 0, (mSH, K, L))) rfl ?_
            refine mBT (s2 := (d + 6, 103, 25, [some (.ref 0), some (.int (-3))], [], 0, 0, (mSH, K, L))) rfl (by decide) ?_
            refine mB 8 (s2 := (d + 6, 103, 49, [some (.ref 0), some (.int (-3))], [.int (-3)], 0, 0, (mSH, (mUp K 0 10 ((K 0 10) + 1)), L))) rfl ?_
            refine mRt (r := (some (.int (-3)))) (h := (mSH, (mUp K 0 10 ((K 0 10) + 1)), L)) rfl (mRet_int rfl) ?_
            show mWP mTb_ mFT ro (d + 7, 86, 42, [some (.ref 0), some (.int v0), some (.int v1)], [.int (-3)], 0, 0, (mSH, (mUp K 0 10 ((K 0 10) + 1)), L)) _
            refine mRt (r := (some (.int (-3)))) (h := (mSH, (mUp K 0 10 ((K 0 10) + 1)), L)) rfl (mRet_int rfl) ?_
            exact hq _ _ (mFr.up (by rfl) (mFr.sub (by decide) fK)) (mIC.u0 (hI.sx fK rK cK)) ((if_neg hn).symm.trans (if_pos (c := an_bk T v0 v1) (by have e1 := pm_ti hC.1.1 (by have := hO.1.1; omega); have e2 := pm_ti hC.1.2.1 (by have := hO.1.2.1; omega); have b0 : (v0).toInt = 1 := (by have z := of_decide_eq_true c1; rw [z]; rfl); have a0 := of_decide_eq_false c0; have a1 := of_decide_eq_false c2; have a2 := of_decide_eq_false c3; simp only [Int32.lt_iff_toInt_lt, Int32.le_iff_toInt_le, ← Int32.toInt_inj, mLi0, mLi1, mLi2, mLi3, mLi4, mLi5, mLi6, mLi7, mLi8, mLi9, mLi10, mLi16, mLi32, mLi48, mLi57, mLi59, mLi65, mLi90, mLi97, mLi99, mLi120, mLi122, mLi127, mLi1584, mLi999999, mLim] at a0 a1 a2 <;> omega)).symm)
          · intro hy K fK rK cK mK
            show mWP mTb_ mFT ro (d + 7, 86, 33, [some (.ref 0), some (.int v0), some (.int v1)], [.int 1], 0, 0, (mSH, K, L)) _
            refine mBF (s3 := (d + 7, 86, 43, [some (.ref 0), some (.int v0), some (.int v1)], [], 0, 0, (mSH, K, L))) rfl (by decide) ?_
            refine mB 4 (s2 := (d + 7, 86, 51, [some (.ref 0), some (.int v0), some (.int v1)], [.int v1, .ref 23], 0, 0, (mSH, K, L))) rfl ?_
            refine mCall (s2 := (d + 6, 42, 0, [some (.ref 23), some (.int v1)], [], 0, 0, (mSH, K, L))) rfl ?_
            refine w_at_23 cK ?_
            show mWP mTb_ mFT ro (d + 7, 86, 54, [some (.ref 0), some (.int v0), some (.int v1)], [.int (mAt K 23 24 v1)], 0, 0, (mSH, K, L)) _
            refine mRt (r := (some (.int (mAt K 23 24 v1)))) (h := (mSH, K, L)) rfl (mRet_int rfl) ?_
            exact hq _ _ (mFr.sub (by decide) fK) (hI.sx fK rK cK) ((an_bly hO hC.1.2.1 mK hy (of_decide_eq_false c2) (of_decide_eq_false c3)).trans (if_pos (c := an_bk T v0 v1) (by have e1 := pm_ti hC.1.1 (by have := hO.1.1; omega); have e2 := pm_ti hC.1.2.1 (by have := hO.1.2.1; omega); have b0 : (v0).toInt = 1 := (by have z := of_decide_eq_true c1; rw [z]; rfl); have a0 := of_decide_eq_false c0; have a1 := of_decide_eq_false c2; have a2 := of_decide_eq_false c3; simp only [Int32.lt_iff_toInt_lt, Int32.le_iff_toInt_le, ← Int32.toInt_inj, mLi0, mLi1, mLi2, mLi3, mLi4, mLi5, mLi6, mLi7, mLi8, mLi9, mLi10, mLi16, mLi32, mLi48, mLi57, mLi59, mLi65, mLi90, mLi97, mLi99, mLi120, mLi122, mLi127, mLi1584, mLi999999, mLim] at a0 a1 a2 <;> omega)).symm)
    · refine mB 1 (s2 := (d + 6, 108, 14, [some (.int v0)], [.int 0], 0, 0, (mSH, I, L))) rfl ?_
      refine mRt (r := (some (.int 0))) (h := (mSH, I, L)) rfl rfl ?_
      show mWP mTb_ mFT ro (d + 7, 86, 4, [some (.ref 0), some (.int v0), some (.int v1)], [.int 0], 0, 0, (mSH, I, L)) _
      refine mBT (s2 := (d + 7, 86, 21, [some (.ref 0), some (.int v0), some (.int v1)], [], 0, 0, (mSH, I, L))) rfl (by decide) ?_
      refine mB 2 (s2 := (d + 7, 86, 24, [some (.ref 0), some (.int v0), some (.int v1)], [.int (-2), .ref 0], 0, 0, (mSH, I, L))) rfl ?_
      refine mCall (s2 := (d + 6, 103, 0, [some (.ref 0), some (.int (-2))], [], 0, 0, (mSH, I, L))) rfl ?_
      refine mB 2 (s2 := (d + 6, 103, 3, [some (.ref 0), some (.int (-2))], [.int (-2), .int (-2)], 0, 0, (mSH, I, L))) rfl ?_
      refine mBT (s2 := (d + 6, 103, 6, [some (.ref 0), some (.int (-2))], [], 0, 0, (mSH, I, L))) rfl (by decide) ?_
      refine mB 8 (s2 := (d + 6, 103, 49, [some (.ref 0), some (.int (-2))], [.int (-2)], 0, 0, (mSH, (mUp I 0 9 ((I 0 9) + 1)), L))) rfl ?_
      refine mRt (r := (some (.int (-2)))) (h := (mSH, (mUp I 0 9 ((I 0 9) + 1)), L)) rfl (mRet_int rfl) ?_
      show mWP mTb_ mFT ro (d + 7, 86, 27, [some (.ref 0), some (.int v0), some (.int v1)], [.int (-2)], 0, 0, (mSH, (mUp I 0 9 ((I 0 9) + 1)), L)) _
      refine mRt (r := (some (.int (-2)))) (h := (mSH, (mUp I 0 9 ((I 0 9) + 1)), L)) rfl (mRet_int rfl) ?_
      exact hq _ _ (mFr.up (by rfl) mFr.rf) (mIC.u0 hI) (if_neg (c := an_bk T v0 v1) (by have e1 := pm_ti hC.1.1 (by have := hO.1.1; omega); have e2 := pm_ti hC.1.2.1 (by have := hO.1.2.1; omega); have a0 := of_decide_eq_false c0; have a1 := of_decide_eq_false c1; simp only [Int32.lt_iff_toInt_lt, Int32.le_iff_toInt_le, ← Int32.toInt_inj, mLi0, mLi1, mLi2, mLi3, mLi4, mLi5, mLi6, mLi7, mLi8, mLi9, mLi10, mLi16, mLi32, mLi48, mLi57, mLi59, mLi65, mLi90, mLi97, mLi99, mLi120, mLi122, mLi127, mLi1584, mLi999999, mLim] at a0 a1 <;> omega)).symm
theorem v_many {ro : Nat → Nat × (Nat → Int32)} {Q : mPo} {d : Nat} {I : Nat → Nat → Int32} {L : Nat → Nat → Int64} {T : ct_S} {B : ct_B} {kd g pe : Nat} (hI : mIC I) (hO : pm_O T B kd g pe) (hC : pm_C T B kd g pe I) (hq : ∀ r I1, mFr mSQ I I1 → mIC I1 → r = an_many T B kd g pe → Q (some (.int r)) (mSH, I1, L))   : mWP mTb_ mFT ro (d + 7, 87, 0, [some (.ref 0)], [], 0, 0, (mSH, I, L)) Q := by
  refine mB 1 (s2 := (d + 7, 87, 1, [some (.ref 0)], [.ref 0], 0, 0, (mSH, I, L))) rfl ?_
  refine mCall (s2 := (d + 6, 105, 0, [some (.ref 0)], [], 0, 0, (mSH, I, L))) rfl ?_
  refine mB 7 (s2 := (d + 6, 105, 13, [some (.ref 0)], [.int 0, .ref 8, .ref 6, .ref 10], 0, 0, (mSH, I, L))) rfl ?_
  refine mCall (s2 := (d + 5, 10, 0, [some (.ref 8), some (.int 0)], [], 0, 0, (mSH, I, L))) rfl ?_
  refine mB 2 (s2 := (d + 5, 10, 2, [some (.ref 8), some (.int 0)], [.int 0, .ref 8], 0, 0, (mSH, I, L))) rfl ?_
  refine mCall (s2 := (d + 4, 8, 0, [some (.ref 8), some (.int 0)], [], 0, 0, (mSH, I, L))) rfl ?_
  refine mB 1 (s2 := (d + 4, 8, 1, [some (.ref 8), some (.int 0)], [.int 0], 0, 0, (mSH, I, L))) rfl ?_
  refine mBF (s3 := (d + 4, 8, 4, [some (.ref 8), some (.int 0)], [], 0, 0, (mSH, I, L))) rfl (by decide) ?_
  refine mB 4 (s2 := (d + 4, 8, 10, [some (.ref 8), some (.int 0)], [.int 3, .int 0], 0, 0, (mSH, I, L))) rfl ?_
  refine mBF (s3 := (d + 4, 8, 13, [some (.ref 8), some (.int 0)], [], 0, 0, (mSH, I, L))) rfl (by decide) ?_
  refine mB 2 (s2 := (d + 4, 8, 18, [some (.ref 8), some (.int 0)], [.int 1], 0, 0, (mSH, I, L))) rfl ?_
  refine mRt (r := (some (.int 1))) (h := (mSH, I, L)) rfl rfl ?_
  show mWP mTb_ mFT ro (d + 5, 10, 5, [some (.ref 8), some (.int 0)], [.int 1], 0, 0, (mSH, I, L)) _
  refine mBF (s3 := (d + 5, 10, 8, [some (.ref 8), some (.int 0)], [], 0, 0, (mSH, I, L))) rfl (by decide) ?_
  refine mB 3 (s2 := (d + 5, 10, 13, [some (.ref 8), some (.int 0)], [.int 0, .ref 9], 0, 0, (mSH, I, L))) rfl ?_
  refine mRq (s2 := (d + 5, 10, 14, [some (.ref 8), some (.int 0)], [.int (I 9 0)], 0, 0, (mSH, I, L))) rfl (by decide) ?_
  refine mB 1 (s2 := (d + 5, 10, 18, [some (.ref 8), some (.int 0)], [.int (I 9 0)], 0, 0, (mSH, I, L))) rfl ?_
  refine mRt (r := (some (.int (I 9 0)))) (h := (mSH, I, L)) rfl (mRet_int rfl) ?_
  show mWP mTb_ mFT ro (d + 6, 105, 16, [some (.ref 0)], [.int (I 9 0), .ref 6, .ref 10], 0, 0, (mSH, I, L)) _
  refine mCall (s2 := (d + 5, 52, 0, [some (.ref 10), some (.ref 6), some (.int (I 9 0)), none, none, none], [], 0, 0, (mSH, I, L))) rfl ?_
  refine x_fillv_6 (k2 := kd) hC.2.2.2.2 hO.2.2.2 hO hC hI.2.2.2.2.2.2 (fun J fJ rJ wJ => ?_)
  show mWP mTb_ mFT ro (d + 6, 105, 19, [some (.ref 0)], [], 0, 0, (mSH, J, L)) _
  refine mRt (r := none) (h := (mSH, J, L)) rfl rfl ?_
  show mWP mTb_ mFT ro (d + 7, 87, 4, [some (.ref 0)], [], 0, 0, (mSH, J, L)) _
  refine mB 3 (s2 := (d + 7, 87, 10, [some (.ref 0)], [.ref 10, .int 1000000000], 0, 0, (mSH, J, L))) rfl ?_
  refine mCall (s2 := (d + 6, 63, 0, [some (.ref 10)], [], 0, 0, (mSH, J, L))) rfl ?_
  refine mB 3 (s2 := (d + 6, 63, 7, [some (.ref 10)], [.int 153, .ref 20], 0, 0, (mSH, J, L))) rfl ?_
  refine mRq (s2 := (d + 6, 63, 8, [some (.ref 10)], [.int (J 20 153)], 0, 0, (mSH, J, L))) rfl (by decide) ?_
  refine mRt (r := (some (.int (J 20 153)))) (h := (mSH, J, L)) rfl (mRet_int rfl) ?_
  show mWP mTb_ mFT ro (d + 7, 87, 13, [some (.ref 0)], [.int (J 20 153), .int 1000000000], 0, 0, (mSH, J, L)) _
  refine mB 1 (s2 := (d + 7, 87, 16, [some (.ref 0)], [.int (if (J 20 153) < 1000000000 then (J 20 153) else 1000000000)], 0, 0, (mSH, J, L))) rfl ?_
  refine mRt (r := (some (.int (if (J 20 153) < 1000000000 then (J 20 153) else 1000000000)))) (h := (mSH, J, L)) rfl (mRet_int rfl) ?_
  exact hq _ _ (mFr.sub (by decide) fJ) (hI.ss fJ rJ) (an_min (an_w hO) wJ.n.2.1)
section AZ
variable {x : Nat} {y : Int32}
theorem an_n1 (h : x < bt_U) : ¬ (-1 : Int32) = nI x := fun z => by
  have w := nI_toInt (n := x) (by have := bt_Ul; omega)
  rw [← z, show (-1 : Int32).toInt = -1 from rfl] at w
  omega
theorem an_m1 (hx : x ≤ bt_U) (h : y = nI x) : ¬ y = -1 := fun z => by
  have w := nI_toInt (n := x) (by have := bt_Ul; omega)
  rw [← h, z, show (-1 : Int32).toInt = -1 from rfl] at w
  omega
theorem an_lt (hx : x ≤ bt_U) (h : y = nI x) (c : ¬ y = 1000000000) : x < bt_U := by
  rw [h, ← bt_Ue, nI_eq (by have := bt_Ul; omega) bt_Ul] at c
  omega
end AZ
theorem v_alike {ro : Nat → Nat × (Nat → Int32)} {Q : mPo} {d : Nat} {I : Nat → Nat → Int32} {L : Nat → Nat → Int64} {T : ct_S} {B : ct_B} {kd g pe : Nat} (hI : mIC I) (hO : pm_O T B kd g pe) (hC : pm_C T B kd g pe I) (hq : ∀ r I1, mFr mSQ I I1 → mIC I1 → r = an_alike T B kd g pe → Q (some (.int r)) (mSH, I1, L))   : mWP mTb_ mFT ro (d + 7, 88, 0, [some (.ref 0)], [], 0, 0, (mSH, I, L)) Q := by
  refine mB 1 (s2 := (d + 7, 88, 1, [some (.ref 0)], [.ref 0], 0, 0, (mSH, I, L))) rfl ?_
  refine mCall (s2 := (d + 6, 105, 0, [some (.ref 0)], [], 0, 0, (mSH, I, L))) rfl ?_
  refine mB 7 (s2 := (d + 6, 105, 13, [some (.ref 0)], [.int 0, .ref 8, .ref 6, .ref 10], 0, 0, (mSH, I, L))) rfl ?_
  refine mCall (s2 := (d + 5, 10, 0, [some (.ref 8), some (.int 0)], [], 0, 0, (mSH, I, L))) rfl ?_
  refine mB 2 (s2 := (d + 5, 10, 2, [some (.ref 8), some (.int 0)], [.int 0, .ref 8], 0, 0, (mSH, I, L))) rfl ?_
  refine mCall (s2 := (d + 4, 8, 0, [some (.ref 8), some (.int 0)], [], 0, 0, (mSH, I, L))) rfl ?_
  refine mB 1 (s2 := (d + 4, 8, 1, [some (.ref 8), some (.int 0)], [.int 0], 0, 0, (mSH, I, L))) rfl ?_
  refine mBF (s3 := (d + 4, 8, 4, [some (.ref 8), some (.int 0)], [], 0, 0, (mSH, I, L))) rfl (by decide) ?_
  refine mB 4 (s2 := (d + 4, 8, 10, [some (.ref 8), some (.int 0)], [.int 3, .int 0], 0, 0, (mSH, I, L))) rfl ?_
  refine mBF (s3 := (d + 4, 8, 13, [some (.ref 8), some (.int 0)], [], 0, 0, (mSH, I, L))) rfl (by decide) ?_
  refine mB 2 (s2 := (d + 4, 8, 18, [some (.ref 8), some (.int 0)], [.int 1], 0, 0, (mSH, I, L))) rfl ?_
  refine mRt (r := (some (.int 1))) (h := (mSH, I, L)) rfl rfl ?_
  show mWP mTb_ mFT ro (d + 5, 10, 5, [some (.ref 8), some (.int 0)], [.int 1], 0, 0, (mSH, I, L)) _
  refine mBF (s3 := (d + 5, 10, 8, [some (.ref 8), some (.int 0)], [], 0, 0, (mSH, I, L))) rfl (by decide) ?_
  refine mB 3 (s2 := (d + 5, 10, 13, [some (.ref 8), some (.int 0)], [.int 0, .ref 9], 0, 0, (mSH, I, L))) rfl ?_
  refine mRq (s2 := (d + 5, 10, 14, [some (.ref 8), some (.int 0)], [.int (I 9 0)], 0, 0, (mSH, I, L))) rfl (by decide) ?_
  refine mB 1 (s2 := (d + 5, 10, 18, [some (.ref 8), some (.int 0)], [.int (I 9 0)], 0, 0, (mSH, I, L))) rfl ?_
  refine mRt (r := (some (.int (I 9 0)))) (h := (mSH, I, L)) rfl (mRet_int rfl) ?_
  show mWP mTb_ mFT ro (d + 6, 105, 16, [some (.ref 0)], [.int (I 9 0), .ref 6, .ref 10], 0, 0, (mSH, I, L)) _
  refine mCall (s2 := (d + 5, 52, 0, [some (.ref 10), some (.ref 6), some (.int (I 9 0)), none, none, none], [], 0, 0, (mSH, I, L))) rfl ?_
  refine x_fillv_6 (k2 := kd) hC.2.2.2.2 hO.2.2.2 hO hC hI.2.2.2.2.2.2 (fun J fJ rJ wJ => ?_)
  show mWP mTb_ mFT ro (d + 6, 105, 19, [some (.ref 0)], [], 0, 0, (mSH, J, L)) _
  refine mRt (r := none) (h := (mSH, J, L)) rfl rfl ?_
  show mWP mTb_ mFT ro (d + 7, 88, 4, [some (.ref 0)], [], 0, 0, (mSH, J, L)) _
  refine mB 2 (s2 := (d + 7, 88, 8, [some (.ref 0)], [.ref 10], 0, 0, (mSH, J, L))) rfl ?_
  refine mCall (s2 := (d + 6, 61, 0, [some (.ref 10)], [], 0, 0, (mSH, J, L))) rfl ?_
  refine mB 2 (s2 := (d + 6, 61, 4, [some (.ref 10)], [.int 153, .ref 10], 0, 0, (mSH, J, L))) rfl ?_
  refine mCall (s2 := (d + 5, 60, 0, [some (.ref 10), some (.int 153)], [], 0, 0, (mSH, J, L))) rfl ?_
  refine mB 3 (s2 := (d + 5, 60, 5, [some (.ref 10), some (.int 153)], [.int 0, .ref 11], 0, 0, (mSH, J, L))) rfl ?_
  refine mRq (s2 := (d + 5, 60, 6, [some (.ref 10), some (.int 153)], [.ref 12], 0, 0, (mSH, J, L))) rfl (by decide) ?_
  refine mB 1 (s2 := (d + 5, 60, 7, [some (.ref 10), some (.int 153)], [.int 153, .ref 12], 0, 0, (mSH, J, L))) rfl ?_
  refine mRq (s2 := (d + 5, 60, 8, [some (.ref 10), some (.int 153)], [.int (J 12 153)], 0, 0, (mSH, J, L))) rfl (by decide) ?_
  refine mB 1 (s2 := (d + 5, 60, 10, [some (.ref 10), some (.int 153)], [.int 1000000000, .int (J 12 153)], 0, 0, (mSH, J, L))) rfl ?_
  refine mBr (s2 := (d + 5, 60, 13, [some (.ref 10), some (.int 153)], [], 0, 0, (mSH, J, L))) (s3 := (d + 5, 60, 17, [some (.ref 10), some (.int 153)], [], 0, 0, (mSH, J, L))) rfl (fun c0 => ?_) (fun c0 => ?_)
  · refine mB 2 (s2 := (d + 5, 60, 25, [some (.ref 10), some (.int 153)], [.int (-1)], 0, 0, (mSH, J, L))) rfl ?_
    refine mRt (r := (some (.int (-1)))) (h := (mSH, J, L)) rfl (mRet_int rfl) ?_
    show mWP mTb_ mFT ro (d + 6, 61, 7, [some (.ref 10)], [.int (-1)], 0, 0, (mSH, J, L)) _
    refine mRt (r := (some (.int (-1)))) (h := (mSH, J, L)) rfl (mRet_int rfl) ?_
    show mWP mTb_ mFT ro (d + 7, 88, 11, [some (.ref 0)], [.int (-1)], 0, 0, (mSH, J, L)) _
    refine mB 1 (s2 := (d + 7, 88, 12, [some (.ref 0)], [.int (-1), .int (-1)], 0, 0, (mSH, J, L))) rfl ?_
    refine mBT (s2 := (d + 7, 88, 15, [some (.ref 0)], [], 0, 0, (mSH, J, L))) rfl (by decide) ?_
    refine mB 2 (s2 := (d + 7, 88, 18, [some (.ref 0)], [.int (-3), .ref 0], 0, 0, (mSH, J, L))) rfl ?_
    refine mCall (s2 := (d + 6, 103, 0, [some (.ref 0), some (.int (-3))], [], 0, 0, (mSH, J, L))) rfl ?_
    refine mB 2 (s2 := (d + 6, 103, 3, [some (.ref 0), some (.int (-3))], [.int (-2), .int (-3)], 0, 0, (mSH, J, L))) rfl ?_
    refine mBF (s3 := (d + 6, 103, 19, [some (.ref 0), some (.int (-3))], [], 0, 0, (mSH, J, L))) rfl (by decide) ?_
    refine mB 2 (s2 := (d + 6, 103, 22, [some (.ref 0), some (.int (-3))], [.int (-3), .int (-3)], 0, 0, (mSH, J, L))) rfl ?_
    refine mBT (s2 := (d + 6, 103, 25, [some (.ref 0), some (.int (-3))], [], 0, 0, (mSH, J, L))) rfl (by decide) ?_
    refine mB 8 (s2 := (d + 6, 103, 49, [some (.ref 0), some (.int (-3))], [.int (-3)], 0, 0, (mSH, (mUp J 0 10 ((J 0 10) + 1)), L))) rfl ?_
    refine mRt (r := (some (.int (-3)))) (h := (mSH, (mUp J 0 10 ((J 0 10) + 1)), L)) rfl (mRet_int rfl) ?_
    show mWP mTb_ mFT ro (d + 7, 88, 21, [some (.ref 0)], [.int (-3)], 0, 0, (mSH, (mUp J 0 10 ((J 0 10) + 1)), L)) _
    refine mRt (r := (some (.int (-3)))) (h := (mSH, (mUp J 0 10 ((J 0 10) + 1)), L)) rfl (mRet_int rfl) ?_
    exact hq _ _ (mFr.up (by rfl) (mFr.sub (by decide) fJ)) (mIC.u0 (hI.ss fJ rJ)) ((if_neg (by have z := an_sn (an_ok hO).le1 wJ.n.1.1 (of_decide_eq_true c0); unfold an_s at z; intro y; rw [if_pos y] at z; exact absurd z (an_n1 y))).symm)
  · refine mB 3 (s2 := (d + 5, 60, 22, [some (.ref 10), some (.int 153)], [.int 0, .ref 11], 0, 0, (mSH, J, L))) rfl ?_
    refine mRq (s2 := (d + 5, 60, 23, [some (.ref 10), some (.int 153)], [.ref 12], 0, 0, (mSH, J, L))) rfl (by decide) ?_
    refine mB 1 (s2 := (d + 5, 60, 24, [some (.ref 10), some (.int 153)], [.int 153, .ref 12], 0, 0, (mSH, J, L))) rfl ?_
    refine mRq (s2 := (d + 5, 60, 25, [some (.ref 10), some (.int 153)], [.int (J 12 153)], 0, 0, (mSH, J, L))) rfl (by decide) ?_
    refine mRt (r := (some (.int (J 12 153)))) (h := (mSH, J, L)) rfl (mRet_int rfl) ?_
    show mWP mTb_ mFT ro (d + 6, 61, 7, [some (.ref 10)], [.int (J 12 153)], 0, 0, (mSH, J, L)) _
    refine mRt (r := (some (.int (J 12 153)))) (h := (mSH, J, L)) rfl (mRet_int rfl) ?_
    show mWP mTb_ mFT ro (d + 7, 88, 11, [some (.ref 0)], [.int (J 12 153)], 0, 0, (mSH, J, L)) _
    refine mB 1 (s2 := (d + 7, 88, 12, [some (.ref 0)], [.int (-1), .int (J 12 153)], 0, 0, (mSH, J, L))) rfl ?_
    refine mBr (s2 := (d + 7, 88, 15, [some (.ref 0)], [], 0, 0, (mSH, J, L))) (s3 := (d + 7, 88, 22, [some (.ref 0)], [], 0, 0, (mSH, J, L))) rfl (fun c1 => ?_) (fun c1 => ?_)
    · refine mB 2 (s2 := (d + 7, 88, 18, [some (.ref 0)], [.int (-3), .ref 0], 0, 0, (mSH, J, L))) rfl ?_
      refine mCall (s2 := (d + 6, 103, 0, [some (.ref 0), some (.int (-3))], [], 0, 0, (mSH, J, L))) rfl ?_
      refine mB 2 (s2 := (d + 6, 103, 3, [some (.ref 0), some (.int (-3))], [.int (-2), .int (-3)], 0, 0, (mSH, J, L))) rfl ?_
      refine mBF (s3 := (d + 6, 103, 19, [some (.ref 0), some (.int (-3))], [], 0, 0, (mSH, J, L))) rfl (by decide) ?_
      refine mB 2 (s2 := (d + 6, 103, 22, [some (.ref 0), some (.int (-3))], [.int (-3), .int (-3)], 0, 0, (mSH, J, L))) rfl ?_
      refine mBT (s2 := (d + 6, 103, 25, [some (.ref 0), some (.int (-3))], [], 0, 0, (mSH, J, L))) rfl (by decide) ?_
      refine mB 8 (s2 := (d + 6, 103, 49, [some (.ref 0), some (.int (-3))], [.int (-3)], 0, 0, (mSH, (mUp J 0 10 ((J 0 10) + 1)), L))) rfl ?_
      refine mRt (r := (some (.int (-3)))) (h := (mSH, (mUp J 0 10 ((J 0 10) + 1)), L)) rfl (mRet_int rfl) ?_
      show mWP mTb_ mFT ro (d + 7, 88, 21, [some (.ref 0)], [.int (-3)], 0, 0, (mSH, (mUp J 0 10 ((J 0 10) + 1)), L)) _
      refine mRt (r := (some (.int (-3)))) (h := (mSH, (mUp J 0 10 ((J 0 10) + 1)), L)) rfl (mRet_int rfl) ?_
      exact hq _ _ (mFr.up (by rfl) (mFr.sub (by decide) fJ)) (mIC.u0 (hI.ss fJ rJ)) (absurd (of_decide_eq_true c1) (an_m1 (an_ok hO).le1 wJ.n.1.1))
    · refine mB 3 (s2 := (d + 7, 88, 28, [some (.ref 0)], [.ref 10, .int 1000000000], 0, 0, (mSH, J, L))) rfl ?_
      refine mCall (s2 := (d + 6, 64, 0, [some (.ref 10)], [], 0, 0, (mSH, J, L))) rfl ?_
      refine mB 3 (s2 := (d + 6, 64, 7, [some (.ref 10)], [.int 153, .ref 21], 0, 0, (mSH, J, L))) rfl ?_
      refine mRq (s2 := (d + 6, 64, 8, [some (.ref 10)], [.int (J 21 153)], 0, 0, (mSH, J, L))) rfl (by decide) ?_
      refine mRt (r := (some (.int (J 21 153)))) (h := (mSH, J, L)) rfl (mRet_int rfl) ?_
      show mWP mTb_ mFT ro (d + 7, 88, 31, [some (.ref 0)], [.int (J 21 153), .int 1000000000], 0, 0, (mSH, J, L)) _
      refine mB 1 (s2 := (d + 7, 88, 34, [some (.ref 0)], [.int (if (J 21 153) < 1000000000 then (J 21 153) else 1000000000)], 0, 0, (mSH, J, L))) rfl ?_
      refine mRt (r := (some (.int (if (J 21 153) < 1000000000 then (J 21 153) else 1000000000)))) (h := (mSH, J, L)) rfl (mRet_int rfl) ?_
      exact hq _ _ (mFr.sub (by decide) fJ) (hI.ss fJ rJ) ((an_min (an_lw hO) wJ.n.2.2).trans (if_pos (an_lt (an_ok hO).le1 wJ.n.1.1 (of_decide_eq_false c0))).symm)
theorem pm_O0 {T : ct_S} {B : ct_B} {kd g pe : Nat} (h : pm_O T B kd g pe) : pm_O T ct_B0 kd g pe := ⟨h.1, ct_B0o, h.2.2⟩
theorem v_unbound {ro : Nat → Nat × (Nat → Int32)} {Q : mPo} {d : Nat} {I : Nat → Nat → Int32} {L : Nat → Nat → Int64} {T : ct_S} {B : ct_B} {kd g pe : Nat} (hI : mIC I) (hO : pm_O T B kd g pe) (hC : pm_C T B kd g pe I) (hq : ∀ r I1, mFr mSQ I I1 → mIC I1 → r = an_unbound T kd g pe → Q (some (.int r)) (mSH, I1, L))   : mWP mTb_ mFT ro (d + 7, 92, 0, [some (.ref 0)], [], 0, 0, (mSH, I, L)) Q := by
  refine mB 7 (s2 := (d + 7, 92, 13, [some (.ref 0)], [.int 0, .ref 8, .ref 7, .ref 10], 0, 0, (mSH, I, L))) rfl ?_
  refine mCall (s2 := (d + 6, 10, 0, [some (.ref 8), some (.int 0)], [], 0, 0, (mSH, I, L))) rfl ?_
  refine mB 2 (s2 := (d + 6, 10, 2, [some (.ref 8), some (.int 0)], [.int 0, .ref 8], 0, 0, (mSH, I, L))) rfl ?_
  refine mCall (s2 := (d + 5, 8, 0, [some (.ref 8), some (.int 0)], [], 0, 0, (mSH, I, L))) rfl ?_
  refine mB 1 (s2 := (d + 5, 8, 1, [some (.ref 8), some (.int 0)], [.int 0], 0, 0, (mSH, I, L))) rfl ?_
  refine mBF (s3 := (d + 5, 8, 4, [some (.ref 8), some (.int 0)], [], 0, 0, (mSH, I, L))) rfl (by decide) ?_
  refine mB 4 (s2 := (d + 5, 8, 10, [some (.ref 8), some (.int 0)], [.int 3, .int 0], 0, 0, (mSH, I, L))) rfl ?_
  refine mBF (s3 := (d + 5, 8, 13, [some (.ref 8), some (.int 0)], [], 0, 0, (mSH, I, L))) rfl (by decide) ?_
  refine mB 2 (s2 := (d + 5, 8, 18, [some (.ref 8), some (.int 0)], [.int 1], 0, 0, (mSH, I, L))) rfl ?_
  refine mRt (r := (some (.int 1))) (h := (mSH, I, L)) rfl rfl ?_
  show mWP mTb_ mFT ro (d + 6, 10, 5, [some (.ref 8), some (.int 0)], [.int 1], 0, 0, (mSH, I, L)) _
  refine mBF (s3 := (d + 6, 10, 8, [some (.ref 8), some (.int 0)], [], 0, 0, (mSH, I, L))) rfl (by decide) ?_
  refine mB 3 (s2 := (d + 6, 10, 13, [some (.ref 8), some (.int 0)], [.int 0, .ref 9], 0, 0, (mSH, I, L))) rfl ?_
  refine mRq (s2 := (d + 6, 10, 14, [some (.ref 8), some (.int 0)], [.int (I 9 0)], 0, 0, (mSH, I, L))) rfl (by decide) ?_
  refine mB 1 (s2 := (d + 6, 10, 18, [some (.ref 8), some (.int 0)], [.int (I 9 0)], 0, 0, (mSH, I, L))) rfl ?_
  refine mRt (r := (some (.int (I 9 0)))) (h := (mSH, I, L)) rfl (mRet_int rfl) ?_
  show mWP mTb_ mFT ro (d + 7, 92, 16, [some (.ref 0)], [.int (I 9 0), .ref 7, .ref 10], 0, 0, (mSH, I, L)) _
  refine mCall (s2 := (d + 6, 52, 0, [some (.ref 10), some (.ref 7), some (.int (I 9 0)), none, none, none], [], 0, 0, (mSH, I, L))) rfl ?_
  refine x_fillv_7 (k2 := kd) hC.2.2.2.2 hO.2.2.2 hO hC hI.2.2.2.2.2.2 (fun J fJ rJ wJ => ?_)
  show mWP mTb_ mFT ro (d + 7, 92, 19, [some (.ref 0)], [], 0, 0, (mSH, J, L)) _
  refine mB 2 (s2 := (d + 7, 92, 23, [some (.ref 0)], [.ref 10], 0, 0, (mSH, J, L))) rfl ?_
  refine mCall (s2 := (d + 6, 61, 0, [some (.ref 10)], [], 0, 0, (mSH, J, L))) rfl ?_
  refine mB 2 (s2 := (d + 6, 61, 4, [some (.ref 10)], [.int 153, .ref 10], 0, 0, (mSH, J, L))) rfl ?_
  refine mCall (s2 := (d + 5, 60, 0, [some (.ref 10), some (.int 153)], [], 0, 0, (mSH, J, L))) rfl ?_
  refine mB 3 (s2 := (d + 5, 60, 5, [some (.ref 10), some (.int 153)], [.int 0, .ref 11], 0, 0, (mSH, J, L))) rfl ?_
  refine mRq (s2 := (d + 5, 60, 6, [some (.ref 10), some (.int 153)], [.ref 12], 0, 0, (mSH, J, L))) rfl (by decide) ?_
  refine mB 1 (s2 := (d + 5, 60, 7, [some (.ref 10), some (.int 153)], [.int 153, .ref 12], 0, 0, (mSH, J, L))) rfl ?_
  refine mRq (s2 := (d + 5, 60, 8, [some (.ref 10), some (.int 153)], [.int (J 12 153)], 0, 0, (mSH, J, L))) rfl (by decide) ?_
  refine mB 1 (s2 := (d + 5, 60, 10, [some (.ref 10), some (.int 153)], [.int 1000000000, .int (J 12 153)], 0, 0, (mSH, J, L))) rfl ?_
  refine mBr (s2 := (d + 5, 60, 13, [some (.ref 10), some (.int 153)], [], 0, 0, (mSH, J, L))) (s3 := (d + 5, 60, 17, [some (.ref 10), some (.int 153)], [], 0, 0, (mSH, J, L))) rfl (fun c0 => ?_) (fun c0 => ?_)
  · refine mB 2 (s2 := (d + 5, 60, 25, [some (.ref 10), some (.int 153)], [.int (-1)], 0, 0, (mSH, J, L))) rfl ?_
    refine mRt (r := (some (.int (-1)))) (h := (mSH, J, L)) rfl (mRet_int rfl) ?_
    show mWP mTb_ mFT ro (d + 6, 61, 7, [some (.ref 10)], [.int (-1)], 0, 0, (mSH, J, L)) _
    refine mRt (r := (some (.int (-1)))) (h := (mSH, J, L)) rfl (mRet_int rfl) ?_
    show mWP mTb_ mFT ro (d + 7, 92, 26, [some (.ref 0)], [.int (-1)], 0, 0, (mSH, J, L)) _
    refine mRt (r := (some (.int (-1)))) (h := (mSH, J, L)) rfl (mRet_int rfl) ?_
    exact hq _ _ (mFr.sub (by decide) fJ) (hI.ss fJ rJ) (an_sn (an_ok (pm_O0 hO)).le1 wJ.n.1.1 (of_decide_eq_true c0))
  · refine mB 3 (s2 := (d + 5, 60, 22, [some (.ref 10), some (.int 153)], [.int 0, .ref 11], 0, 0, (mSH, J, L))) rfl ?_
    refine mRq (s2 := (d + 5, 60, 23, [some (.ref 10), some (.int 153)], [.ref 12], 0, 0, (mSH, J, L))) rfl (by decide) ?_
    refine mB 1 (s2 := (d + 5, 60, 24, [some (.ref 10), some (.int 153)], [.int 153, .ref 12], 0, 0, (mSH, J, L))) rfl ?_
    refine mRq (s2 := (d + 5, 60, 25, [some (.ref 10), some (.int 153)], [.int (J 12 153)], 0, 0, (mSH, J, L))) rfl (by decide) ?_
    refine mRt (r := (some (.int (J 12 153)))) (h := (mSH, J, L)) rfl (mRet_int rfl) ?_
    show mWP mTb_ mFT ro (d + 6, 61, 7, [some (.ref 10)], [.int (J 12 153)], 0, 0, (mSH, J, L)) _
    refine mRt (r := (some (.int (J 12 153)))) (h := (mSH, J, L)) rfl (mRet_int rfl) ?_
    show mWP mTb_ mFT ro (d + 7, 92, 26, [some (.ref 0)], [.int (J 12 153)], 0, 0, (mSH, J, L)) _
    refine mRt (r := (some (.int (J 12 153)))) (h := (mSH, J, L)) rfl (mRet_int rfl) ?_
    exact hq _ _ (mFr.sub (by decide) fJ) (hI.ss fJ rJ) (an_sy (an_ok (pm_O0 hO)).le1 wJ.n.1.1 (of_decide_eq_false c0))
theorem an_cell {T : ct_S} {B : ct_B} {kd g pe i : Nat} {I : Nat → Nat → Int32} (hO : pm_O T B kd g pe) (hW : bs_W T B kd g pe I) (hi : i ≤ T.1.1) : I 12 i = nI (an_f T B kd g pe i) ∧ an_f T B kd g pe i ≤ bt_U := by
  have s16 := hO.1.1
  unfold an_f
  by_cases e : T.1.2.1 = 0
  · rw [if_pos e]
    exact ⟨(hW.1 e i (by omega)).1.1, Nat.le_refl _⟩
  · rw [if_neg e]
    have z := ((hW.2 (by omega)).1 0 i (by omega) hi).1.1.1
    rw [Nat.zero_mul, Nat.zero_add, Nat.sub_zero] at z
    refine ⟨z, (bt_topok (v := 0) (fun x hx => ?_)).le1⟩
    have := (bt_al_b (ct_ccb hO.1 hO.2.2.1) _ _ _ x hx).1
    have := bt_nV hO.1.2.1
    omega
theorem an_fc {T : ct_S} {B : ct_B} {kd g pe : Nat} {v0 : Int32} {I J : Nat → Nat → Int32} (hO : pm_O T B kd g pe) (h2 : I 2 1 = nI T.1.1) (hW : bs_W T B kd g pe J) (c1 : ¬ v0 < 0) (c2 : ¬ I 2 1 ≤ v0) : J 12 (0 + v0).toNatClampNeg = nI (an_f T B kd g pe v0.toInt.toNat) ∧ an_f T B kd g pe v0.toInt.toNat ≤ bt_U ∧ vp_in (0 + v0) 154 ∧ ¬ (16 : Int32) < v0 := by
  have s16 := hO.1.1
  obtain ⟨i, hi, e⟩ := pm_in h2 s16 c1 c2
  subst e
  have z := an_cell hO hW (Nat.le_of_lt hi)
  rw [Int32.zero_add, nI_clamp (by omega), pm_tn (by omega)]
  exact ⟨z.1, z.2, vp_in_nI (by omega) (by omega), nI_nlt (a := 16) (by omega) (by omega)⟩
theorem v_from {ro : Nat → Nat × (Nat → Int32)} {Q : mPo} {d : Nat} {I : Nat → Nat → Int32} {L : Nat → Nat → Int64} {T : ct_S} {B : ct_B} {kd g pe : Nat} {v0 : Int32} (hI : mIC I) (hO : pm_O T B kd g pe) (hC : pm_C T B kd g pe I) (hq : ∀ r I1, mFr mSQ I I1 → mIC I1 → r = an_from T B kd g pe v0 → Q (some (.int r)) (mSH, I1, L))   : mWP mTb_ mFT ro (d + 7, 90, 0, [some (.ref 0), some (.int v0)], [], 0, 0, (mSH, I, L)) Q := by
  refine mB 4 (s2 := (d + 7, 90, 8, [some (.ref 0), some (.int v0)], [.int v0, .ref 2], 0, 0, (mSH, I, L))) rfl ?_
  refine mCall (s2 := (d + 6, 41, 0, [some (.ref 2), some (.int v0)], [], 0, 0, (mSH, I, L))) rfl ?_
  refine mB 1 (s2 := (d + 6, 41, 1, [some (.ref 2), some (.int v0)], [.int v0], 0, 0, (mSH, I, L))) rfl ?_
  refine mBr (s2 := (d + 6, 41, 16, [some (.ref 2), some (.int v0)], [], 0, 0, (mSH, I, L))) (s3 := (d + 6, 41, 4, [some (.ref 2), some (.int v0)], [], 0, 0, (mSH, I, L))) rfl (fun c0 => ?_) (fun c0 => ?_)
  · refine mB 1 (s2 := (d + 6, 41, 17, [some (.ref 2), some (.int v0)], [.int 0], 0, 0, (mSH, I, L))) rfl ?_
    refine mRt (r := (some (.int 0))) (h := (mSH, I, L)) rfl rfl ?_
    show mWP mTb_ mFT ro (d + 7, 90, 11, [some (.ref 0), some (.int v0)], [.int 0], 0, 0, (mSH, I, L)) _
    refine mBT (s2 := (d + 7, 90, 14, [some (.ref 0), some (.int v0)], [], 0, 0, (mSH, I, L))) rfl (by decide) ?_
    refine mB 2 (s2 := (d + 7, 90, 17, [some (.ref 0), some (.int v0)], [.int (-2), .ref 0], 0, 0, (mSH, I, L))) rfl ?_
    refine mCall (s2 := (d + 6, 103, 0, [some (.ref 0), some (.int (-2))], [], 0, 0, (mSH, I, L))) rfl ?_
    refine mB 2 (s2 := (d + 6, 103, 3, [some (.ref 0), some (.int (-2))], [.int (-2), .int (-2)], 0, 0, (mSH, I, L))) rfl ?_
    refine mBT (s2 := (d + 6, 103, 6, [some (.ref 0), some (.int (-2))], [], 0, 0, (mSH, I, L))) rfl (by decide) ?_
    refine mB 8 (s2 := (d + 6, 103, 49, [some (.ref 0), some (.int (-2))], [.int (-2)], 0, 0, (mSH, (mUp I 0 9 ((I 0 9) + 1)), L))) rfl ?_
    refine mRt (r := (some (.int (-2)))) (h := (mSH, (mUp I 0 9 ((I 0 9) + 1)), L)) rfl (mRet_int rfl) ?_
    show mWP mTb_ mFT ro (d + 7, 90, 20, [some (.ref 0), some (.int v0)], [.int (-2)], 0, 0, (mSH, (mUp I 0 9 ((I 0 9) + 1)), L)) _
    refine mRt (r := (some (.int (-2)))) (h := (mSH, (mUp I 0 9 ((I 0 9) + 1)), L)) rfl (mRet_int rfl) ?_
    exact hq _ _ (mFr.up (by rfl) mFr.rf) (mIC.u0 hI) (if_neg (c := an_fk T v0) (by have e1 := pm_ti hC.1.1 (by have := hO.1.1; omega); have e2 := pm_ti hC.1.2.1 (by have := hO.1.2.1; omega); have a0 := of_decide_eq_true c0; simp only [Int32.lt_iff_toInt_lt, Int32.le_iff_toInt_le, ← Int32.toInt_inj, mLi0, mLi1, mLi2, mLi3, mLi4, mLi5, mLi6, mLi7, mLi8, mLi9, mLi10, mLi16, mLi32, mLi48, mLi57, mLi59, mLi65, mLi90, mLi97, mLi99, mLi120, mLi122, mLi127, mLi1584, mLi999999, mLim] at a0 <;> omega)).symm
  · refine mB 3 (s2 := (d + 6, 41, 9, [some (.ref 2), some (.int v0)], [.int (I 2 1), .int v0], 0, 0, (mSH, I, L))) rfl ?_
    refine mBr (s2 := (d + 6, 41, 16, [some (.ref 2), some (.int v0)], [], 0, 0, (mSH, I, L))) (s3 := (d + 6, 41, 12, [some (.ref 2), some (.int v0)], [], 0, 0, (mSH, I, L))) rfl (fun c1 => ?_) (fun c1 => ?_)
    · refine mB 1 (s2 := (d + 6, 41, 17, [some (.ref 2), some (.int v0)], [.int 0], 0, 0, (mSH, I, L))) rfl ?_
      refine mRt (r := (some (.int 0))) (h := (mSH, I, L)) rfl rfl ?_
      show mWP mTb_ mFT ro (d + 7, 90, 11, [some (.ref 0), some (.int v0)], [.int 0], 0, 0, (mSH, I, L)) _
      refine mBT (s2 := (d + 7, 90, 14, [some (.ref 0), some (.int v0)], [], 0, 0, (mSH, I, L))) rfl (by decide) ?_
      refine mB 2 (s2 := (d + 7, 90, 17, [some (.ref 0), some (.int v0)], [.int (-2), .ref 0], 0, 0, (mSH, I, L))) rfl ?_
      refine mCall (s2 := (d + 6, 103, 0, [some (.ref 0), some (.int (-2))], [], 0, 0, (mSH, I, L))) rfl ?_
      refine mB 2 (s2 := (d + 6, 103, 3, [some (.ref 0), some (.int (-2))], [.int (-2), .int (-2)], 0, 0, (mSH, I, L))) rfl ?_
      refine mBT (s2 := (d + 6, 103, 6, [some (.ref 0), some (.int (-2))], [], 0, 0, (mSH, I, L))) rfl (by decide) ?_
      refine mB 8 (s2 := (d + 6, 103, 49, [some (.ref 0), some (.int (-2))], [.int (-2)], 0, 0, (mSH, (mUp I 0 9 ((I 0 9) + 1)), L))) rfl ?_
      refine mRt (r := (some (.int (-2)))) (h := (mSH, (mUp I 0 9 ((I 0 9) + 1)), L)) rfl (mRet_int rfl) ?_
      show mWP mTb_ mFT ro (d + 7, 90, 20, [some (.ref 0), some (.int v0)], [.int (-2)], 0, 0, (mSH, (mUp I 0 9 ((I 0 9) + 1)), L)) _
      refine mRt (r := (some (.int (-2)))) (h := (mSH, (mUp I 0 9 ((I 0 9) + 1)), L)) rfl (mRet_int rfl) ?_
      exact hq _ _ (mFr.up (by rfl) mFr.rf) (mIC.u0 hI) (if_neg (c := an_fk T v0) (by have e1 := pm_ti hC.1.1 (by have := hO.1.1; omega); have e2 := pm_ti hC.1.2.1 (by have := hO.1.2.1; omega); have a0 := of_decide_eq_false c0; have a1 := of_decide_eq_true c1; simp only [Int32.lt_iff_toInt_lt, Int32.le_iff_toInt_le, ← Int32.toInt_inj, mLi0, mLi1, mLi2, mLi3, mLi4, mLi5, mLi6, mLi7, mLi8, mLi9, mLi10, mLi16, mLi32, mLi48, mLi57, mLi59, mLi65, mLi90, mLi97, mLi99, mLi120, mLi122, mLi127, mLi1584, mLi999999, mLim] at a0 a1 <;> omega)).symm
    · refine mB 2 (s2 := (d + 6, 41, 17, [some (.ref 2), some (.int v0)], [.int 1], 0, 0, (mSH, I, L))) rfl ?_
      refine mRt (r := (some (.int 1))) (h := (mSH, I, L)) rfl rfl ?_
      show mWP mTb_ mFT ro (d + 7, 90, 11, [some (.ref 0), some (.int v0)], [.int 1], 0, 0, (mSH, I, L)) _
      refine mBF (s3 := (d + 7, 90, 21, [some (.ref 0), some (.int v0)], [], 0, 0, (mSH, I, L))) rfl (by decide) ?_
      refine mB 1 (s2 := (d + 7, 90, 22, [some (.ref 0), some (.int v0)], [.ref 0], 0, 0, (mSH, I, L))) rfl ?_
      refine mCall (s2 := (d + 6, 105, 0, [some (.ref 0)], [], 0, 0, (mSH, I, L))) rfl ?_
      refine mB 7 (s2 := (d + 6, 105, 13, [some (.ref 0)], [.int 0, .ref 8, .ref 6, .ref 10], 0, 0, (mSH, I, L))) rfl ?_
      refine mCall (s2 := (d + 5, 10, 0, [some (.ref 8), some (.int 0)], [], 0, 0, (mSH, I, L))) rfl ?_
      refine mB 2 (s2 := (d + 5, 10, 2, [some (.ref 8), some (.int 0)], [.int 0, .ref 8], 0, 0, (mSH, I, L))) rfl ?_
      refine mCall (s2 := (d + 4, 8, 0, [some (.ref 8), some (.int 0)], [], 0, 0, (mSH, I, L))) rfl ?_
      refine mB 1 (s2 := (d + 4, 8, 1, [some (.ref 8), some (.int 0)], [.int 0], 0, 0, (mSH, I, L))) rfl ?_
      refine mBF (s3 := (d + 4, 8, 4, [some (.ref 8), some (.int 0)], [], 0, 0, (mSH, I, L))) rfl (by decide) ?_
      refine mB 4 (s2 := (d + 4, 8, 10, [some (.ref 8), some (.int 0)], [.int 3, .int 0], 0, 0, (mSH, I, L))) rfl ?_
      refine mBF (s3 := (d + 4, 8, 13, [some (.ref 8), some (.int 0)], [], 0, 0, (mSH, I, L))) rfl (by decide) ?_
      refine mB 2 (s2 := (d + 4, 8, 18, [some (.ref 8), some (.int 0)], [.int 1], 0, 0, (mSH, I, L))) rfl ?_
      refine mRt (r := (some (.int 1))) (h := (mSH, I, L)) rfl rfl ?_
      show mWP mTb_ mFT ro (d + 5, 10, 5, [some (.ref 8), some (.int 0)], [.int 1], 0, 0, (mSH, I, L)) _
      refine mBF (s3 := (d + 5, 10, 8, [some (.ref 8), some (.int 0)], [], 0, 0, (mSH, I, L))) rfl (by decide) ?_
      refine mB 3 (s2 := (d + 5, 10, 13, [some (.ref 8), some (.int 0)], [.int 0, .ref 9], 0, 0, (mSH, I, L))) rfl ?_
      refine mRq (s2 := (d + 5, 10, 14, [some (.ref 8), some (.int 0)], [.int (I 9 0)], 0, 0, (mSH, I, L))) rfl (by decide) ?_
      refine mB 1 (s2 := (d + 5, 10, 18, [some (.ref 8), some (.int 0)], [.int (I 9 0)], 0, 0, (mSH, I, L))) rfl ?_
      refine mRt (r := (some (.int (I 9 0)))) (h := (mSH, I, L)) rfl (mRet_int rfl) ?_
      show mWP mTb_ mFT ro (d + 6, 105, 16, [some (.ref 0)], [.int (I 9 0), .ref 6, .ref 10], 0, 0, (mSH, I, L)) _
      refine mCall (s2 := (d + 5, 52, 0, [some (.ref 10), some (.ref 6), some (.int (I 9 0)), none, none, none], [], 0, 0, (mSH, I, L))) rfl ?_
      refine x_fillv_6 (k2 := kd) hC.2.2.2.2 hO.2.2.2 hO hC hI.2.2.2.2.2.2 (fun J fJ rJ wJ => ?_)
      show mWP mTb_ mFT ro (d + 6, 105, 19, [some (.ref 0)], [], 0, 0, (mSH, J, L)) _
      refine mRt (r := none) (h := (mSH, J, L)) rfl rfl ?_
      show mWP mTb_ mFT ro (d + 7, 90, 25, [some (.ref 0), some (.int v0)], [], 0, 0, (mSH, J, L)) _
      refine mB 3 (s2 := (d + 7, 90, 30, [some (.ref 0), some (.int v0)], [.int v0, .ref 10], 0, 0, (mSH, J, L))) rfl ?_
      refine mCall (s2 := (d + 6, 62, 0, [some (.ref 10), some (.int v0)], [], 0, 0, (mSH, J, L))) rfl ?_
      refine mB 3 (s2 := (d + 6, 62, 3, [some (.ref 10), some (.int v0)], [.int v0, .int 0, .ref 10], 0, 0, (mSH, J, L))) rfl ?_
      refine mCall (s2 := (d + 5, 59, 0, [some (.int 0), some (.int v0), none], [], 0, 0, (mSH, J, L))) rfl ?_
      refine mB 1 (s2 := (d + 5, 59, 1, [some (.int 0), some (.int v0), none], [.int 0], 0, 0, (mSH, J, L))) rfl ?_
      refine mBF (s3 := (d + 5, 59, 4, [some (.int 0), some (.int v0), none], [], 0, 0, (mSH, J, L))) rfl (by decide) ?_
      refine mB 2 (s2 := (d + 5, 59, 7, [some (.int 0), some (.int v0), none], [.int 8, .int 0], 0, 0, (mSH, J, L))) rfl ?_
      refine mBF (s3 := (d + 5, 59, 10, [some (.int 0), some (.int v0), none], [], 0, 0, (mSH, J, L))) rfl (by decide) ?_
      refine mB 1 (s2 := (d + 5, 59, 11, [some (.int 0), some (.int v0), none], [.int v0], 0, 0, (mSH, J, L))) rfl ?_
      refine mBF (c := decide (v0 < 0)) (s3 := (d + 5, 59, 14, [some (.int 0), some (.int v0), none], [], 0, 0, (mSH, J, L))) rfl (decide_eq_false (by have a0 := of_decide_eq_false c0; simp only [Int32.lt_iff_toInt_lt, Int32.le_iff_toInt_le, ← Int32.toInt_inj, mLi0, mLi1, mLi2, mLi3, mLi4, mLi5, mLi6, mLi7, mLi8, mLi9, mLi10, mLi16, mLi32, mLi48, mLi57, mLi59, mLi65, mLi90, mLi97, mLi99, mLi120, mLi122, mLi127, mLi1584, mLi999999, mLim] at a0 ⊢; omega)) ?_
      refine mB 2 (s2 := (d + 5, 59, 17, [some (.int 0), some (.int v0), none], [.int 16, .int v0], 0, 0, (mSH, J, L))) rfl ?_
      refine mBr (s2 := (d + 5, 59, 24, [some (.int 0), some (.int v0), none], [], 0, 0, (mSH, J, L))) (s3 := (d + 5, 59, 20, [some (.int 0), some (.int v0), none], [], 0, 0, (mSH, J, L))) rfl (fun c2 => ?_) (fun c2 => ?_)
      · refine mB 3 (s2 := (d + 5, 59, 27, [some (.int 0), some (.int v0), some (.int 0)], [.int 0], 0, 0, (mSH, J, L))) rfl ?_
        refine mBT (s2 := (d + 5, 59, 39, [some (.int 0), some (.int v0), some (.int 0)], [], 0, 0, (mSH, J, L))) rfl (by decide) ?_
        refine mB 1 (s2 := (d + 5, 59, 42, [some (.int 0), some (.int v0), some (.int 0)], [.int 153], 0, 0, (mSH, J, L))) rfl ?_
        refine mRt (r := (some (.int 153))) (h := (mSH, J, L)) rfl (mRet_int rfl) ?_
        show mWP mTb_ mFT ro (d + 6, 62, 6, [some (.ref 10), some (.int v0)], [.int 153, .ref 10], 0, 0, (mSH, J, L)) _
        refine mCall (s2 := (d + 5, 60, 0, [some (.ref 10), some (.int 153)], [], 0, 0, (mSH, J, L))) rfl ?_
        refine mB 3 (s2 := (d + 5, 60, 5, [some (.ref 10), some (.int 153)], [.int 0, .ref 11], 0, 0, (mSH, J, L))) rfl ?_
        refine mRq (s2 := (d + 5, 60, 6, [some (.ref 10), some (.int 153)], [.ref 12], 0, 0, (mSH, J, L))) rfl (by decide) ?_
        refine mB 1 (s2 := (d + 5, 60, 7, [some (.ref 10), some (.int 153)], [.int 153, .ref 12], 0, 0, (mSH, J, L))) rfl ?_
        refine mRq (s2 := (d + 5, 60, 8, [some (.ref 10), some (.int 153)], [.int (J 12 153)], 0, 0, (mSH, J, L))) rfl (by decide) ?_
        refine mB 1 (s2 := (d + 5, 60, 10, [some (.ref 10), some (.int 153)], [.int 1000000000, .int (J 12 153)], 0, 0, (mSH, J, L))) rfl ?_
        refine mBr (s2 := (d + 5, 60, 13, [some (.ref 10), some (.int 153)], [], 0, 0, (mSH, J, L))) (s3 := (d + 5, 60, 17, [some (.ref 10), some (.int 153)], [], 0, 0, (mSH, J, L))) rfl (fun c3 => ?_) (fun c3 => ?_)
        · refine mB 2 (s2 := (d + 5, 60, 25, [some (.ref 10), some (.int 153)], [.int (-1)], 0, 0, (mSH, J, L))) rfl ?_
          refine mRt (r := (some (.int (-1)))) (h := (mSH, J, L)) rfl (mRet_int rfl) ?_
          show mWP mTb_ mFT ro (d + 6, 62, 9, [some (.ref 10), some (.int v0)], [.int (-1)], 0, 0, (mSH, J, L)) _
          refine mRt (r := (some (.int (-1)))) (h := (mSH, J, L)) rfl (mRet_int rfl) ?_
          show mWP mTb_ mFT ro (d + 7, 90, 33, [some (.ref 0), some (.int v0)], [.int (-1)], 0, 0, (mSH, J, L)) _
          refine mRt (r := (some (.int (-1)))) (h := (mSH, J, L)) rfl (mRet_int rfl) ?_
          exact hq _ _ (mFr.sub (by decide) fJ) (hI.ss fJ rJ) (absurd (of_decide_eq_true c2) (an_fc hO hC.1.1 wJ (of_decide_eq_false c0) (of_decide_eq_false c1)).2.2.2)
        · refine mB 3 (s2 := (d + 5, 60, 22, [some (.ref 10), some (.int 153)], [.int 0, .ref 11], 0, 0, (mSH, J, L))) rfl ?_
          refine mRq (s2 := (d + 5, 60, 23, [some (.ref 10), some (.int 153)], [.ref 12], 0, 0, (mSH, J, L))) rfl (by decide) ?_
          refine mB 1 (s2 := (d + 5, 60, 24, [some (.ref 10), some (.int 153)], [.int 153, .ref 12], 0, 0, (mSH, J, L))) rfl ?_
          refine mRq (s2 := (d + 5, 60, 25, [some (.ref 10), some (.int 153)], [.int (J 12 153)], 0, 0, (mSH, J, L))) rfl (by decide) ?_
          refine mRt (r := (some (.int (J 12 153)))) (h := (mSH, J, L)) rfl (mRet_int rfl) ?_
          show mWP mTb_ mFT ro (d + 6, 62, 9, [some (.ref 10), some (.int v0)], [.int (J 12 153)], 0, 0, (mSH, J, L)) _
          refine mRt (r := (some (.int (J 12 153)))) (h := (mSH, J, L)) rfl (mRet_int rfl) ?_
          show mWP mTb_ mFT ro (d + 7, 90, 33, [some (.ref 0), some (.int v0)], [.int (J 12 153)], 0, 0, (mSH, J, L)) _
          refine mRt (r := (some (.int (J 12 153)))) (h := (mSH, J, L)) rfl (mRet_int rfl) ?_
          exact hq _ _ (mFr.sub (by decide) fJ) (hI.ss fJ rJ) (absurd (of_decide_eq_true c2) (an_fc hO hC.1.1 wJ (of_decide_eq_false c0) (of_decide_eq_false c1)).2.2.2)
      · refine mB 4 (s2 := (d + 5, 59, 27, [some (.int 0), some (.int v0), some (.int 1)], [.int 1], 0, 0, (mSH, J, L))) rfl ?_
        refine mBF (s3 := (d + 5, 59, 30, [some (.int 0), some (.int v0), some (.int 1)], [], 0, 0, (mSH, J, L))) rfl (by decide) ?_
        refine mB 6 (s2 := (d + 5, 59, 42, [some (.int 0), some (.int v0), some (.int 1)], [.int (0 + v0)], 0, 0, (mSH, J, L))) rfl ?_
        refine mRt (r := (some (.int (0 + v0)))) (h := (mSH, J, L)) rfl (mRet_int rfl) ?_
        show mWP mTb_ mFT ro (d + 6, 62, 6, [some (.ref 10), some (.int v0)], [.int (0 + v0), .ref 10], 0, 0, (mSH, J, L)) _
        refine mCall (s2 := (d + 5, 60, 0, [some (.ref 10), some (.int (0 + v0))], [], 0, 0, (mSH, J, L))) rfl ?_
        refine mB 3 (s2 := (d + 5, 60, 5, [some (.ref 10), some (.int (0 + v0))], [.int 0, .ref 11], 0, 0, (mSH, J, L))) rfl ?_
        refine mRq (s2 := (d + 5, 60, 6, [some (.ref 10), some (.int (0 + v0))], [.ref 12], 0, 0, (mSH, J, L))) rfl (by decide) ?_
        refine mB 1 (s2 := (d + 5, 60, 7, [some (.ref 10), some (.int (0 + v0))], [.int (0 + v0), .ref 12], 0, 0, (mSH, J, L))) rfl ?_
        refine mRq (s2 := (d + 5, 60, 8, [some (.ref 10), some (.int (0 + v0))], [.int (J 12 ((0 + v0).toNatClampNeg))], 0, 0, (mSH, J, L))) rfl (mVp_of (an_fc hO hC.1.1 wJ (of_decide_eq_false c0) (of_decide_eq_false c1)).2.2.1) ?_
        refine mB 1 (s2 := (d + 5, 60, 10, [some (.ref 10), some (.int (0 + v0))], [.int 1000000000, .int (J 12 ((0 + v0).toNatClampNeg))], 0, 0, (mSH, J, L))) rfl ?_
        refine mBr (s2 := (d + 5, 60, 13, [some (.ref 10), some (.int (0 + v0))], [], 0, 0, (mSH, J, L))) (s3 := (d + 5, 60, 17, [some (.ref 10), some (.int (0 + v0))], [], 0, 0, (mSH, J, L))) rfl (fun c3 => ?_) (fun c3 => ?_)
        · refine mB 2 (s2 := (d + 5, 60, 25, [some (.ref 10), some (.int (0 + v0))], [.int (-1)], 0, 0, (mSH, J, L))) rfl ?_
          refine mRt (r := (some (.int (-1)))) (h := (mSH, J, L)) rfl (mRet_int rfl) ?_
          show mWP mTb_ mFT ro (d + 6, 62, 9, [some (.ref 10), some (.int v0)], [.int (-1)], 0, 0, (mSH, J, L)) _
          refine mRt (r := (some (.int (-1)))) (h := (mSH, J, L)) rfl (mRet_int rfl) ?_
          show mWP mTb_ mFT ro (d + 7, 90, 33, [some (.ref 0), some (.int v0)], [.int (-1)], 0, 0, (mSH, J, L)) _
          refine mRt (r := (some (.int (-1)))) (h := (mSH, J, L)) rfl (mRet_int rfl) ?_
          exact hq _ _ (mFr.sub (by decide) fJ) (hI.ss fJ rJ) ((an_sn (an_fc hO hC.1.1 wJ (of_decide_eq_false c0) (of_decide_eq_false c1)).2.1 (an_fc hO hC.1.1 wJ (of_decide_eq_false c0) (of_decide_eq_false c1)).1 (of_decide_eq_true c3)).trans (if_pos (c := an_fk T v0) (by have e1 := pm_ti hC.1.1 (by have := hO.1.1; omega); have e2 := pm_ti hC.1.2.1 (by have := hO.1.2.1; omega); have a0 := of_decide_eq_false c0; have a1 := of_decide_eq_false c1; simp only [Int32.lt_iff_toInt_lt, Int32.le_iff_toInt_le, ← Int32.toInt_inj, mLi0, mLi1, mLi2, mLi3, mLi4, mLi5, mLi6, mLi7, mLi8, mLi9, mLi10, mLi16, mLi32, mLi48, mLi57, mLi59, mLi65, mLi90, mLi97, mLi99, mLi120, mLi122, mLi127, mLi1584, mLi999999, mLim] at a0 a1 <;> omega)).symm)
        · refine mB 3 (s2 := (d + 5, 60, 22, [some (.ref 10), some (.int (0 + v0))], [.int 0, .ref 11], 0, 0, (mSH, J, L))) rfl ?_
          refine mRq (s2 := (d + 5, 60, 23, [some (.ref 10), some (.int (0 + v0))], [.ref 12], 0, 0, (mSH, J, L))) rfl (by decide) ?_
          refine mB 1 (s2 := (d + 5, 60, 24, [some (.ref 10), some (.int (0 + v0))], [.int (0 + v0), .ref 12], 0, 0, (mSH, J, L))) rfl ?_
          refine mRq (s2 := (d + 5, 60, 25, [some (.ref 10), some (.int (0 + v0))], [.int (J 12 ((0 + v0).toNatClampNeg))], 0, 0, (mSH, J, L))) rfl (mVp_of (an_fc hO hC.1.1 wJ (of_decide_eq_false c0) (of_decide_eq_false c1)).2.2.1) ?_
          refine mRt (r := (some (.int (J 12 ((0 + v0).toNatClampNeg))))) (h := (mSH, J, L)) rfl (mRet_int rfl) ?_
          show mWP mTb_ mFT ro (d + 6, 62, 9, [some (.ref 10), some (.int v0)], [.int (J 12 ((0 + v0).toNatClampNeg))], 0, 0, (mSH, J, L)) _
          refine mRt (r := (some (.int (J 12 ((0 + v0).toNatClampNeg))))) (h := (mSH, J, L)) rfl (mRet_int rfl) ?_
          show mWP mTb_ mFT ro (d + 7, 90, 33, [some (.ref 0), some (.int v0)], [.int (J 12 ((0 + v0).toNatClampNeg))], 0, 0, (mSH, J, L)) _
          refine mRt (r := (some (.int (J 12 ((0 + v0).toNatClampNeg))))) (h := (mSH, J, L)) rfl (mRet_int rfl) ?_
          exact hq _ _ (mFr.sub (by decide) fJ) (hI.ss fJ rJ) ((an_sy (an_fc hO hC.1.1 wJ (of_decide_eq_false c0) (of_decide_eq_false c1)).2.1 (an_fc hO hC.1.1 wJ (of_decide_eq_false c0) (of_decide_eq_false c1)).1 (of_decide_eq_false c3)).trans (if_pos (c := an_fk T v0) (by have e1 := pm_ti hC.1.1 (by have := hO.1.1; omega); have e2 := pm_ti hC.1.2.1 (by have := hO.1.2.1; omega); have a0 := of_decide_eq_false c0; have a1 := of_decide_eq_false c1; simp only [Int32.lt_iff_toInt_lt, Int32.le_iff_toInt_le, ← Int32.toInt_inj, mLi0, mLi1, mLi2, mLi3, mLi4, mLi5, mLi6, mLi7, mLi8, mLi9, mLi10, mLi16, mLi32, mLi48, mLi57, mLi59, mLi65, mLi90, mLi97, mLi99, mLi120, mLi122, mLi127, mLi1584, mLi999999, mLim] at a0 a1 <;> omega)).symm)
