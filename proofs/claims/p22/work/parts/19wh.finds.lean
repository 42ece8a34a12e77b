/-! The reference finds, exactly. Written by a program (wip/mk_c.py). -/
def bt_Rt (c : Nat → Nat → Nat → Option Nat) (n s : Nat) : List bt_E := if n = 0 then [] else bt_rt c n s
def bm_bits (c : Nat → Nat → Nat → Option Nat) (n : Nat) : Nat → Int32
  | 0 => 0
  | k + 1 => bm_bit (bm_bits c n k) k (bt_al c n 0 k)
def bm_Bs (c : Nat → Nat → Nat → Option Nat) (n s : Nat) : Int32 := if n = 0 then 0 else bm_bits c n s
section LE
variable {c : Nat → Nat → Nat → Option Nat} {n s j i r : Nat} {I I0 : Nat → Nat → Int32} {T : ct_S} {B : ct_B} {g pe q : Nat}
theorem bt_al_l : ∀ (r j i : Nat), (bt_al c r j i).length ≤ 3 ^ r
  | 0, j, i => Nat.le_refl 1
  | r + 1, j, i => by
    have one : ∀ p, (bt_one c (bt_al c r) j i p).length ≤ 3 ^ r := fun p => by
      cases e : c j i p with
      | none => rw [bt_one_n e]; exact Nat.zero_le _
      | some v => rw [bt_one_s e, List.length_map]; exact bt_al_l r _ _
    have h0 := one 0
    have h1 := one 1
    have h2 := one 2
    show (bt_one c (bt_al c r) j i 0 ++ (bt_one c (bt_al c r) j i 1 ++ (bt_one c (bt_al c r) j i 2 ++ []))).length ≤ 3 ^ (r + 1)
    rw [List.append_nil, List.length_append, List.length_append, Nat.pow_succ]
    omega
theorem bt_rt_l : ∀ (k : Nat), (bt_rt c n k).length ≤ k * 3 ^ n
  | 0 => Nat.zero_le _
  | k + 1 => by
    have h := bt_rt_l k
    have g := bt_al_l (c := c) n 0 k
    show (bt_rt c n k ++ (bt_al c n 0 k).map (bt_pre k 0)).length ≤ _
    rw [List.length_append, List.length_map, Nat.succ_mul]
    omega
theorem bt_Rt_l (hs : s ≤ 16) (hn : n ≤ 8) : (bt_Rt c n s).length ≤ 104976 := by
  unfold bt_Rt
  by_cases e : n = 0
  · rw [if_pos e]; exact Nat.zero_le _
  · rw [if_neg e]
    refine Nat.le_trans (bt_rt_l s) ?_
    have h : 3 ^ n ≤ 3 ^ 8 := Nat.pow_le_pow_right (by omega) hn
    have := Nat.mul_le_mul hs h
    omega
theorem bt_Rt_b (hV : ∀ j i p v, c j i p = some v → v ≤ bt_V) (hn : n ≤ 8) (x : bt_E) (hx : x ∈ bt_Rt c n s) : x.1 < bt_U := by
  unfold bt_Rt at hx
  by_cases e : n = 0
  · rw [if_pos e] at hx
    cases hx
  · rw [if_neg e] at hx
    have := (bt_rt_b hV s x hx).1
    have := bt_nV hn
    omega
theorem cm_S.gr (h : cm_S T I0) (f : mGr I0 I) : cm_S T I := by
  unfold cm_S
  rw [f.2 1 rfl, f.2 3 rfl, f.2 4 rfl, f.1 35 rfl, f.1 36 rfl]
  exact h
theorem cl_B.gr (h : cl_B 37 B I0) (f : mGr I0 I) : cl_B 37 B I := by
  unfold cl_B
  rw [f.1 37 rfl]
  exact h
theorem cl_J.gr (h : cl_J 38 g pe I0) (f : mGr I0 I) : cl_J 38 g pe I := by
  unfold cl_J
  rw [f.1 38 rfl]
  exact h
end LE
theorem l_fx {ro : Nat → Nat × (Nat → Int32)} {Q : mPo} {d : Nat} {L : Nat → Nat → Int64} {s n : Nat} {kd fr : Int32} {I0 : Nat → Nat → Int32} {c : Nat → Nat → Nat → Option Nat} (h16 : s ≤ 16) (h8 : n ≤ 8) (hn3 : I0 34 3 = nI n) (hV : ∀ j i p v, c j i p = some v → v ≤ bt_V) (hcs : ∀ j i p v, c j i p = some v → i + (2 * p + 1) ≤ s) (hM : ∀ (d : Nat) (I : Nat → Nat → Int32) (Q : mPo) (j i p : Nat), mGr I0 I → j < n → i ≤ s → p ≤ 2 → Q (some (.int (ct_r (c j i p)))) (mSH, I, L) → mWP mTb_ mFT ro (d + 1, 125, 0, [some (.ref 34), some (.int (nI j)), some (.int (nI i)), some (.int (nI (2 * p + 1))), some (.int kd), some (.int fr), none, none, none, none, none, none, none, none, none], [], 0, 0, (mSH, I, L)) Q) (hs1 : I0 34 1 = nI s) (q0 : bt_Rt c n s = [] → ∀ I1, mGr I0 I1 → bm_F n I1 (bt_top (bt_Rt c n s)) → I1 34 22 = bm_Bs c n s → Q (some (.int 0)) (mSH, I1, L)) (q1 : ¬ bt_Rt c n s = [] → ∀ I1, mGr I0 I1 → bm_F n I1 (bt_top (bt_Rt c n s)) → I1 34 22 = bm_Bs c n s → Q (some (.int 1)) (mSH, I1, L)) : ∀ (e k : Nat), k + e = s → ∀ I, mGr I0 I → bm_F n I (if n = 0 then bt_0 else bt_top (bt_rt c n k)) → I 34 22 = (if n = 0 then 0 else bm_bits c n k) → mWP mTb_ mFT ro (d + 3, 131, 6, [some (.ref 34), some (.int kd), some (.int fr), some (.int (nI k))], [], 0, 0, (mSH, I, L)) Q := by
  have fin : ∀ I, mGr I0 I → bm_F n I (bt_top (bt_Rt c n s)) → I 34 22 = bm_Bs c n s → ((I 34 20 ≤ 0 → Q (some (.int 0)) (mSH, I, L)) ∧ (¬ I 34 20 ≤ 0 → Q (some (.int 1)) (mSH, I, L))) := fun I hg hF hb => by
    have w := hF.2.1
    rw [bt_top_w] at w
    have ll := bt_Rt_l (c := c) h16 h8
    have iff : I 34 20 ≤ 0 ↔ bt_Rt c n s = [] := by
      rw [w, ← List.length_eq_zero_iff]
      constructor
      · intro z
        rcases Nat.eq_zero_or_pos (bt_Rt c n s).length with y | y
        · exact y
        · exact absurd z (nI_nle y (by omega))
      · intro z
        rw [z]
        decide
    exact ⟨fun z => q0 (iff.mp z) I hg hF hb, fun z => q1 (mt iff.mpr z) I hg hF hb⟩
  have eT : (if n = 0 then bt_0 else bt_top (bt_rt c n s)) = bt_top (bt_Rt c n s) := by
    unfold bt_Rt
    by_cases z : n = 0
    · rw [if_pos z, if_pos z]; rfl
    · rw [if_neg z, if_neg z]
  have z0 : ∀ k, n = 0 → (if n = 0 then bt_0 else bt_top (bt_rt c n k)) = bt_top (bt_Rt c n s) ∧ (if n = 0 then (0 : Int32) else bm_bits c n k) = bm_Bs c n s := fun k z => by
    unfold bt_Rt bm_Bs
    rw [if_pos z, if_pos z, if_pos z, if_pos z]
    exact ⟨rfl, rfl⟩
  intro e
  induction e with
  | zero =>
    intro k he I hg hF hb
    have ek : k = s := by omega
    subst ek
    rw [eT] at hF
    have ff := fin I hg hF hb
    have z : I 34 1 ≤ nI k := by
      rw [hg.2 1 rfl, hs1]
      exact nI_le (Nat.le_refl _) (by omega)
    apply s_fi1
    all_goals intros
    all_goals first
      | exact ff.1 (by assumption)
      | exact ff.2 (by assumption)
      | exact absurd z (by assumption)
  | succ e ih =>
    intro k he I hg hF hb
    have nI3 : I 34 3 = nI n := (hg.2 3 rfl).trans hn3
    have z : ¬ I 34 1 ≤ nI k := by
      rw [hg.2 1 rfl, hs1]
      exact nI_ge (by omega) (by omega)
    by_cases zn : n = 0
    · have e0 := z0 k zn
      rw [e0.1] at hF
      rw [e0.2] at hb
      have ff := fin I hg hF hb
      have z3 : I 34 3 ≤ 0 := by
        rw [nI3, zn]
        decide
      apply s_fi1
      all_goals intros
      all_goals first
        | exact ff.1 (by assumption)
        | exact ff.2 (by assumption)
        | exact absurd z3 (by assumption)
    · have z3 : ¬ I 34 3 ≤ 0 := by
        rw [nI3]
        exact nI_nle (by omega) (by omega)
      rw [if_neg zn] at hF hb
      have ok : bt_ok 0 (bt_top (bt_rt c n k)) := bt_topok (fun x hx => by
        have := (bt_rt_b hV k x hx).1
        have := bt_nV h8
        omega)
      have go : mWP mTb_ mFT ro (d + 3, 131, 25, [some (.ref 34), some (.int kd), some (.int fr), some (.int (nI k))], [.int fr, .int kd, .int (nI k), .ref 34], 0, 0, (mSH, I, L)) Q := by
        refine mCall (s2 := (d + 2, 129, 0, [some (.ref 34), some (.int (nI k)), some (.int kd), some (.int fr), none, none, none], [], 0, 0, (mSH, I, L))) rfl ?_
        refine x_goes h16 h8 hn3 hV hcs hM (by omega) (by omega) hg hF ok (fun I1 g1 g2 g3 => ?_)
        refine mB 2 (s2 := (d + 3, 131, 6, [some (.ref 34), some (.int kd), some (.int fr), some (.int (nI k + 1))], [], 0, 0, (mSH, I1, L))) rfl ?_
        rw [nI_1]
        refine ih (k + 1) (by omega) I1 g1 ?_ ?_
        · rw [if_neg zn]
          show bm_F n I1 ((bt_rt c n k ++ (bt_al c n 0 k).map (bt_pre k 0)).foldl bt_ins bt_0)
          rw [List.foldl_append]
          exact g2
        · rw [if_neg zn, g3, hb]
          rfl
      apply s_fi1
      all_goals intros
      all_goals first
        | exact absurd (by assumption) z
        | exact absurd (by assumption) z3
        | exact go
theorem x_mis_c0 {ro : Nat → Nat × (Nat → Int32)} {L : Nat → Nat → Int64} {I0 : Nat → Nat → Int32} {T : ct_S} {B : ct_B} {kd g pe : Nat} (hT : ct_So T) (hS : cm_S T I0) (hB0 : cl_B 37 B I0) (hBo : ct_Bo B) (hJ : cl_J 38 g pe I0) (hg : ct_Jo g pe) (hk : kd ≤ 3) : ∀ (d : Nat) (I : Nat → Nat → Int32) (Q : mPo) (j i p : Nat), mGr I0 I → j < T.1.2.1 → i ≤ T.1.1 → p ≤ 2 → Q (some (.int (ct_r ((ct_cc T B kd g pe) j i p)))) (mSH, I, L) → mWP mTb_ mFT ro (d + 1, 125, 0, [some (.ref 34), some (.int (nI j)), some (.int (nI i)), some (.int (nI (2 * p + 1))), some (.int (nI kd)), some (.int 0), none, none, none, none, none, none, none, none, none], [], 0, 0, (mSH, I, L)) Q := fun d I Q j i p hG hj hi hp hq => by
  rw [ct_cce hj hp] at hq
  exact x_mis_0 hT (hS.gr hG) (hB0.gr hG) hBo (hJ.gr hG) hg hk hj hi hp hq
theorem x_mfinds_0 {ro : Nat → Nat × (Nat → Int32)} {Q : mPo} {d : Nat} {I : Nat → Nat → Int32} {L : Nat → Nat → Int64} {T : ct_S} {B : ct_B} {kd g pe : Nat} (hT : ct_So T) (hS : cm_S T I) (hB0 : cl_B 37 B I) (hBo : ct_Bo B) (hJ : cl_J 38 g pe I) (hg : ct_Jo g pe) (hk : kd ≤ 3) (q0 : bt_Rt (ct_cc T B kd g pe) T.1.2.1 T.1.1 = [] → ∀ I1, mGr I I1 → bm_F T.1.2.1 I1 (bt_top (bt_Rt (ct_cc T B kd g pe) T.1.2.1 T.1.1)) → I1 34 22 = bm_Bs (ct_cc T B kd g pe) T.1.2.1 T.1.1 → Q (some (.int 0)) (mSH, I1, L)) (q1 : ¬ bt_Rt (ct_cc T B kd g pe) T.1.2.1 T.1.1 = [] → ∀ I1, mGr I I1 → bm_F T.1.2.1 I1 (bt_top (bt_Rt (ct_cc T B kd g pe) T.1.2.1 T.1.1)) → I1 34 22 = bm_Bs (ct_cc T B kd g pe) T.1.2.1 T.1.1 → Q (some (.int 1)) (mSH, I1, L)) : mWP mTb_ mFT ro (d + 3, 131, 0, [some (.ref 34), some (.int (nI kd)), some (.int 0), none], [], 0, 0, (mSH, I, L)) Q := by
  refine s_fi0 ?_
  have hc := x_mis_c0 (ro := ro) (L := L) (kd := kd) hT hS hB0 hBo hJ hg hk
  refine l_fx hT.1 hT.2.1 hS.2.1 (ct_ccb hT hg) (fun j i p v h => (ct_ccs hT hg h).1) hc hS.1 q0 q1 T.1.1 0 (by omega) _ (mGr.up (by rfl) (mGr.up (by rfl) (mGr.uf (by rfl) (mGr.uf (by rfl) (mGr.uf (by rfl) mGr.rf))))) ?_ ?_
  · have e : (if T.1.2.1 = 0 then bt_0 else bt_top (bt_rt (ct_cc T B kd g pe) T.1.2.1 0)) = bt_0 := by
      by_cases z : T.1.2.1 = 0
      · rw [if_pos z]
      · rw [if_neg z]; rfl
    rw [e]
    exact ⟨⟨⟨fun _ => rfl, fun z => absurd z (Nat.lt_irrefl _)⟩, ⟨fun _ => rfl, fun z => absurd z (Nat.lt_irrefl _)⟩⟩, rfl, rfl⟩
  · by_cases z : T.1.2.1 = 0
    · rw [if_pos z]; rfl
    · rw [if_neg z]; rfl
theorem x_mis_c1 {ro : Nat → Nat × (Nat → Int32)} {L : Nat → Nat → Int64} {I0 : Nat → Nat → Int32} {T : ct_S} {kd g pe : Nat} (hT : ct_So T) (hS : cm_S T I0) (hJ : cl_J 38 g pe I0) (hg : ct_Jo g pe) (hk : kd ≤ 3) : ∀ (d : Nat) (I : Nat → Nat → Int32) (Q : mPo) (j i p : Nat), mGr I0 I → j < T.1.2.1 → i ≤ T.1.1 → p ≤ 2 → Q (some (.int (ct_r ((ct_cc T ct_B0 kd g pe) j i p)))) (mSH, I, L) → mWP mTb_ mFT ro (d + 1, 125, 0, [some (.ref 34), some (.int (nI j)), some (.int (nI i)), some (.int (nI (2 * p + 1))), some (.int (nI kd)), some (.int 1), none, none, none, none, none, none, none, none, none], [], 0, 0, (mSH, I, L)) Q := fun d I Q j i p hG hj hi hp hq => by
  rw [ct_cce hj hp] at hq
  exact x_mis_1 hT (hS.gr hG) (hJ.gr hG) hg hk hj hi hp hq
theorem x_mfinds_1 {ro : Nat → Nat × (Nat → Int32)} {Q : mPo} {d : Nat} {I : Nat → Nat → Int32} {L : Nat → Nat → Int64} {T : ct_S} {kd g pe : Nat} (hT : ct_So T) (hS : cm_S T I) (hJ : cl_J 38 g pe I) (hg : ct_Jo g pe) (hk : kd ≤ 3) (q0 : bt_Rt (ct_cc T ct_B0 kd g pe) T.1.2.1 T.1.1 = [] → ∀ I1, mGr I I1 → bm_F T.1.2.1 I1 (bt_top (bt_Rt (ct_cc T ct_B0 kd g pe) T.1.2.1 T.1.1)) → I1 34 22 = bm_Bs (ct_cc T ct_B0 kd g pe) T.1.2.1 T.1.1 → Q (some (.int 0)) (mSH, I1, L)) (q1 : ¬ bt_Rt (ct_cc T ct_B0 kd g pe) T.1.2.1 T.1.1 = [] → ∀ I1, mGr I I1 → bm_F T.1.2.1 I1 (bt_top (bt_Rt (ct_cc T ct_B0 kd g pe) T.1.2.1 T.1.1)) → I1 34 22 = bm_Bs (ct_cc T ct_B0 kd g pe) T.1.2.1 T.1.1 → Q (some (.int 1)) (mSH, I1, L)) : mWP mTb_ mFT ro (d + 3, 131, 0, [some (.ref 34), some (.int (nI kd)), some (.int 1), none], [], 0, 0, (mSH, I, L)) Q := by
  refine s_fi0 ?_
  have hc := x_mis_c1 (ro := ro) (L := L) (kd := kd) hT hS hJ hg hk
  refine l_fx hT.1 hT.2.1 hS.2.1 (ct_ccb hT hg) (fun j i p v h => (ct_ccs hT hg h).1) hc hS.1 q0 q1 T.1.1 0 (by omega) _ (mGr.up (by rfl) (mGr.up (by rfl) (mGr.uf (by rfl) (mGr.uf (by rfl) (mGr.uf (by rfl) mGr.rf))))) ?_ ?_
  · have e : (if T.1.2.1 = 0 then bt_0 else bt_top (bt_rt (ct_cc T ct_B0 kd g pe) T.1.2.1 0)) = bt_0 := by
      by_cases z : T.1.2.1 = 0
      · rw [if_pos z]
      · rw [if_neg z]; rfl
    rw [e]
    exact ⟨⟨⟨fun _ => rfl, fun z => absurd z (Nat.lt_irrefl _)⟩, ⟨fun _ => rfl, fun z => absurd z (Nat.lt_irrefl _)⟩⟩, rfl, rfl⟩
  · by_cases z : T.1.2.1 = 0
    · rw [if_pos z]; rfl
    · rw [if_neg z]; rfl
