/-! The reference goes through all matches, exactly. Written by a program (wip/mk_c.py). -/
theorem s_gx2 {ro : Nat → Nat × (Nat → Int32)} {Q : mPo} {d : Nat} {I : Nat → Nat → Int32} {L : Nat → Nat → Int64} {f kd fr bk rr : Int32} {j : Nat} {o6 : Option Value}  (h1 : (rr < 0) → mWP mTb_ mFT ro (d + 2, 129, 24, [some (.ref 34), some (.int f), some (.int kd), some (.int fr), some (.int (nI j)), some (.int bk), some (.int rr)], [], 0, 0, (mSH, I, L)) Q) (h2 : ¬ (rr < 0) → (((nI j) + 1) = (I 34 3)) → vp_in (nI j) 9) (h3 : ¬ (rr < 0) → (((nI j) + 1) = (I 34 3)) → mWP mTb_ mFT ro (d + 2, 129, 116, [some (.ref 34), some (.int f), some (.int kd), some (.int fr), some (.int (nI j)), some (.int bk), some (.int rr)], [.int ((I 47 ((nI j).toNatClampNeg)) + rr), .ref 34], 0, 0, (mSH, I, L)) Q) (h4 : ¬ (rr < 0) → ¬ (((nI j) + 1) = (I 34 3)) → vp_in (nI j) 9) (h5 : ¬ (rr < 0) → ¬ (((nI j) + 1) = (I 34 3)) → vp_in ((nI j) + 1) 9) (h6 : ¬ (rr < 0) → ¬ (((nI j) + 1) = (I 34 3)) → vp_in (nI j) 9) (h7 : ¬ (rr < 0) → ¬ (((nI j) + 1) = (I 34 3)) → vp_in ((nI j) + 1) 9) (h8 : ¬ (rr < 0) → ¬ (((nI j) + 1) = (I 34 3)) → vp_in ((nI j) + 1) 9) (h9 : ¬ (rr < 0) → ¬ (((nI j) + 1) = (I 34 3)) → mWP mTb_ mFT ro (d + 2, 129, 24, [some (.ref 34), some (.int f), some (.int kd), some (.int fr), some (.int ((nI j) + 1)), some (.int bk), some (.int rr)], [], 0, 0, (mSH, (mUp (mUp (mUp I 47 (((nI j) + 1).toNatClampNeg) ((I 47 ((nI j).toNatClampNeg)) + rr)) 44 (((nI j) + 1).toNatClampNeg) ((I 44 ((nI j).toNatClampNeg)) + bk)) 45 (((nI j) + 1).toNatClampNeg) (-1)), L)) Q) : mWP mTb_ mFT ro (d + 2, 129, 87, [some (.ref 34), some (.int f), some (.int kd), some (.int fr), some (.int (nI j)), some (.int bk), o6], [.int rr], 0, 0, (mSH, I, L)) Q := by
  refine mB 2 (s2 := (d + 2, 129, 91, [some (.ref 34), some (.int f), some (.int kd), some (.int fr), some (.int (nI j)), some (.int bk), some (.int rr)], [.int rr], 0, 0, (mSH, I, L))) rfl ?_
  refine mBr (s2 := (d + 2, 129, 122, [some (.ref 34), some (.int f), some (.int kd), some (.int fr), some (.int (nI j)), some (.int bk), some (.int rr)], [], 0, 0, (mSH, I, L))) (s3 := (d + 2, 129, 94, [some (.ref 34), some (.int f), some (.int kd), some (.int fr), some (.int (nI j)), some (.int bk), some (.int rr)], [], 0, 0, (mSH, I, L))) rfl (fun c0 => ?_) (fun c0 => ?_)
  · refine mB 1 (s2 := (d + 2, 129, 124, [some (.ref 34), some (.int f), some (.int kd), some (.int fr), some (.int (nI j)), some (.int bk), some (.int rr)], [.int rr], 0, 0, (mSH, I, L))) rfl ?_
    refine mBT (c := decide (rr < 0)) (s2 := (d + 2, 129, 178, [some (.ref 34), some (.int f), some (.int kd), some (.int fr), some (.int (nI j)), some (.int bk), some (.int rr)], [], 0, 0, (mSH, I, L))) rfl (decide_eq_true (by have a0 := of_decide_eq_true c0; simp only [Int32.lt_iff_toInt_lt, Int32.le_iff_toInt_le, ← Int32.toInt_inj, mLi0, mLi1, mLi2, mLi3, mLi4, mLi5, mLi6, mLi7, mLi8, mLi9, mLi10, mLi16, mLi32, mLi48, mLi57, mLi59, mLi65, mLi90, mLi97, mLi99, mLi120, mLi122, mLi127, mLi1584, mLi999999, mLim] at a0 ⊢; omega)) ?_
    refine mB 1 (s2 := (d + 2, 129, 24, [some (.ref 34), some (.int f), some (.int kd), some (.int fr), some (.int (nI j)), some (.int bk), some (.int rr)], [], 0, 0, (mSH, I, L))) rfl ?_
    exact h1 (of_decide_eq_true c0)
  · refine mB 5 (s2 := (d + 2, 129, 102, [some (.ref 34), some (.int f), some (.int kd), some (.int fr), some (.int (nI j)), some (.int bk), some (.int rr)], [.int (I 34 3), .int ((nI j) + 1)], 0, 0, (mSH, I, L))) rfl ?_
    refine mBr (s2 := (d + 2, 129, 105, [some (.ref 34), some (.int f), some (.int kd), some (.int fr), some (.int (nI j)), some (.int bk), some (.int rr)], [], 0, 0, (mSH, I, L))) (s3 := (d + 2, 129, 122, [some (.ref 34), some (.int f), some (.int kd), some (.int fr), some (.int (nI j)), some (.int bk), some (.int rr)], [], 0, 0, (mSH, I, L))) rfl (fun c1 => ?_) (fun c1 => ?_)
    · refine mB 4 (s2 := (d + 2, 129, 112, [some (.ref 34), some (.int f), some (.int kd), some (.int fr), some (.int (nI j)), some (.int bk), some (.int rr)], [.int (nI j), .ref 47, .ref 34], 0, 0, (mSH, I, L))) rfl ?_
      refine mRq (s2 := (d + 2, 129, 113, [some (.ref 34), some (.int f), some (.int kd), some (.int fr), some (.int (nI j)), some (.int bk), some (.int rr)], [.int (I 47 ((nI j).toNatClampNeg)), .ref 34], 0, 0, (mSH, I, L))) rfl (mVp_of (h2 (of_decide_eq_false c0) (of_decide_eq_true c1))) ?_
      refine mB 2 (s2 := (d + 2, 129, 116, [some (.ref 34), some (.int f), some (.int kd), some (.int fr), some (.int (nI j)), some (.int bk), some (.int rr)], [.int ((I 47 ((nI j).toNatClampNeg)) + rr), .ref 34], 0, 0, (mSH, I, L))) rfl ?_
      exact h3 (of_decide_eq_false c0) (of_decide_eq_true c1)
    · refine mB 1 (s2 := (d + 2, 129, 124, [some (.ref 34), some (.int f), some (.int kd), some (.int fr), some (.int (nI j)), some (.int bk), some (.int rr)], [.int rr], 0, 0, (mSH, I, L))) rfl ?_
      refine mBF (c := decide (rr < 0)) (s3 := (d + 2, 129, 127, [some (.ref 34), some (.int f), some (.int kd), some (.int fr), some (.int (nI j)), some (.int bk), some (.int rr)], [], 0, 0, (mSH, I, L))) rfl (decide_eq_false (by have a0 := of_decide_eq_false c0; simp only [Int32.lt_iff_toInt_lt, Int32.le_iff_toInt_le, ← Int32.toInt_inj, mLi0, mLi1, mLi2, mLi3, mLi4, mLi5, mLi6, mLi7, mLi8, mLi9, mLi10, mLi16, mLi32, mLi48, mLi57, mLi59, mLi65, mLi90, mLi97, mLi99, mLi120, mLi122, mLi127, mLi1584, mLi999999, mLim] at a0 ⊢; omega)) ?_
      refine mB 8 (s2 := (d + 2, 129, 141, [some (.ref 34), some (.int f), some (.int kd), some (.int fr), some (.int (nI j)), some (.int bk), some (.int rr)], [.int (nI j), .ref 47, .int ((nI j) + 1), .ref 47], 0, 0, (mSH, I, L))) rfl ?_
      refine mRq (s2 := (d + 2, 129, 142, [some (.ref 34), some (.int f), some (.int kd), some (.int fr), some (.int (nI j)), some (.int bk), some (.int rr)], [.int (I 47 ((nI j).toNatClampNeg)), .int ((nI j) + 1), .ref 47], 0, 0, (mSH, I, L))) rfl (mVp_of (h4 (of_decide_eq_false c0) (of_decide_eq_false c1))) ?_
      refine mB 2 (s2 := (d + 2, 129, 145, [some (.ref 34), some (.int f), some (.int kd), some (.int fr), some (.int (nI j)), some (.int bk), some (.int rr)], [.int ((I 47 ((nI j).toNatClampNeg)) + rr), .int ((nI j) + 1), .ref 47], 0, 0, (mSH, I, L))) rfl ?_
      refine mRq (s2 := (d + 2, 129, 146, [some (.ref 34), some (.int f), some (.int kd), some (.int fr), some (.int (nI j)), some (.int bk), some (.int rr)], [], 0, 0, (mSH, (mUp I 47 (((nI j) + 1).toNatClampNeg) ((I 47 ((nI j).toNatClampNeg)) + rr)), L))) rfl (mVp_of (h5 (of_decide_eq_false c0) (of_decide_eq_false c1))) ?_
      refine mB 8 (s2 := (d + 2, 129, 160, [some (.ref 34), some (.int f), some (.int kd), some (.int fr), some (.int (nI j)), some (.int bk), some (.int rr)], [.int (nI j), .ref 44, .int ((nI j) + 1), .ref 44], 0, 0, (mSH, (mUp I 47 (((nI j) + 1).toNatClampNeg) ((I 47 ((nI j).toNatClampNeg)) + rr)), L))) rfl ?_
      refine mRq (s2 := (d + 2, 129, 161, [some (.ref 34), some (.int f), some (.int kd), some (.int fr), some (.int (nI j)), some (.int bk), some (.int rr)], [.int (I 44 ((nI j).toNatClampNeg)), .int ((nI j) + 1), .ref 44], 0, 0, (mSH, (mUp I 47 (((nI j) + 1).toNatClampNeg) ((I 47 ((nI j).toNatClampNeg)) + rr)), L))) rfl (mVp_of (h6 (of_decide_eq_false c0) (of_decide_eq_false c1))) ?_
      refine mB 2 (s2 := (d + 2, 129, 164, [some (.ref 34), some (.int f), some (.int kd), some (.int fr), some (.int (nI j)), some (.int bk), some (.int rr)], [.int ((I 44 ((nI j).toNatClampNeg)) + bk), .int ((nI j) + 1), .ref 44], 0, 0, (mSH, (mUp I 47 (((nI j) + 1).toNatClampNeg) ((I 47 ((nI j).toNatClampNeg)) + rr)), L))) rfl ?_
      refine mRq (s2 := (d + 2, 129, 165, [some (.ref 34), some (.int f), some (.int kd), some (.int fr), some (.int (nI j)), some (.int bk), some (.int rr)], [], 0, 0, (mSH, (mUp (mUp I 47 (((nI j) + 1).toNatClampNeg) ((I 47 ((nI j).toNatClampNeg)) + rr)) 44 (((nI j) + 1).toNatClampNeg) ((I 44 ((nI j).toNatClampNeg)) + bk)), L))) rfl (mVp_of (h7 (of_decide_eq_false c0) (of_decide_eq_false c1))) ?_
      refine mB 6 (s2 := (d + 2, 129, 174, [some (.ref 34), some (.int f), some (.int kd), some (.int fr), some (.int (nI j)), some (.int bk), some (.int rr)], [.int (-1), .int ((nI j) + 1), .ref 45], 0, 0, (mSH, (mUp (mUp I 47 (((nI j) + 1).toNatClampNeg) ((I 47 ((nI j).toNatClampNeg)) + rr)) 44 (((nI j) + 1).toNatClampNeg) ((I 44 ((nI j).toNatClampNeg)) + bk)), L))) rfl ?_
      refine mRq (s2 := (d + 2, 129, 175, [some (.ref 34), some (.int f), some (.int kd), some (.int fr), some (.int (nI j)), some (.int bk), some (.int rr)], [], 0, 0, (mSH, (mUp (mUp (mUp I 47 (((nI j) + 1).toNatClampNeg) ((I 47 ((nI j).toNatClampNeg)) + rr)) 44 (((nI j) + 1).toNatClampNeg) ((I 44 ((nI j).toNatClampNeg)) + bk)) 45 (((nI j) + 1).toNatClampNeg) (-1)), L))) rfl (mVp_of (h8 (of_decide_eq_false c0) (of_decide_eq_false c1))) ?_
      refine mB 2 (s2 := (d + 2, 129, 24, [some (.ref 34), some (.int f), some (.int kd), some (.int fr), some (.int ((nI j) + 1)), some (.int bk), some (.int rr)], [], 0, 0, (mSH, (mUp (mUp (mUp I 47 (((nI j) + 1).toNatClampNeg) ((I 47 ((nI j).toNatClampNeg)) + rr)) 44 (((nI j) + 1).toNatClampNeg) ((I 44 ((nI j).toNatClampNeg)) + bk)) 45 (((nI j) + 1).toNatClampNeg) (-1)), L))) rfl ?_
      exact h9 (of_decide_eq_false c0) (of_decide_eq_false c1)
/-- the path to layer j: first span, the span there, the misfit so far, the pairs -/
def bm_L (j a0 b a : Nat) (ps : List Nat) (I : Nat → Nat → Int32) : Prop := I 44 0 = nI a0 ∧ I 44 j = nI b ∧ I 47 j = nI a ∧ ps.length = j ∧ ∀ k, k < j → I 45 k = nI (ps.getD k 0)
def bm_pre (a a0 : Nat) (ps : List Nat) (x : bt_E) : bt_E := (a + x.1, a0 :: (ps ++ x.2))
def bm_bit (w : Int32) (a0 : Nat) : List bt_E → Int32
  | [] => w
  | _ :: _ => w ||| bm_b a0
section GL
variable {j a0 b a p v e n V k : Nat} {ps : List Nat} {I J : Nat → Nat → Int32} {w : Int32} {c : Nat → Nat → Nat → Option Nat} {t : bt_T}
theorem bm_L.of (h : bm_L j a0 b a ps I) (h1 : ∀ k, k ≤ j → J 44 k = I 44 k) (h2 : ∀ k, k ≤ j → J 47 k = I 47 k) (h3 : ∀ k, k < j → J 45 k = I 45 k) : bm_L j a0 b a ps J := ⟨(h1 0 (Nat.zero_le j)).trans h.1, (h1 j (Nat.le_refl j)).trans h.2.1, (h2 j (Nat.le_refl j)).trans h.2.2.1, h.2.2.2.1, fun k hk => (h3 k hk).trans (h.2.2.2.2 k hk)⟩
theorem bm_g1 (h : k < ps.length) : (ps ++ [p]).getD k 0 = ps.getD k 0 := by
  rw [List.getD_eq_getElem?_getD, List.getD_eq_getElem?_getD, List.getElem?_append_left h]
theorem bm_g2 : (ps ++ [p]).getD ps.length 0 = p := by
  rw [List.getD_eq_getElem?_getD, List.getElem?_append_right (Nat.le_refl _), Nat.sub_self]
  rfl
theorem bm_bit_a {X Y : List bt_E} : bm_bit (bm_bit w a0 X) a0 Y = bm_bit w a0 (X ++ Y) := by
  cases X with
  | nil => rfl
  | cons x X =>
    cases Y with
    | nil => rfl
    | cons y Y =>
      show (w ||| bm_b a0) ||| bm_b a0 = w ||| bm_b a0
      rw [Int32.or_assoc, Int32.or_self]
theorem bm_bit_m {X : List bt_E} {f : bt_E → bt_E} : bm_bit w a0 (X.map f) = bm_bit w a0 X := by
  cases X <;> rfl
theorem bm_bd {x : Nat} (ha : a ≤ j * V) (hx : x ≤ (e + 1) * V) (hn : j + e + 1 = n) : a + x ≤ n * V := by
  subst hn
  rw [Nat.add_assoc, Nat.add_mul]
  omega
theorem bm_one_b (hV : ∀ j i p v, c j i p = some v → v ≤ V) (x : bt_E) (hx : x ∈ bt_one c (bt_al c e) j b p) : x.1 ≤ (e + 1) * V := by
  cases h : c j b p with
  | none =>
    rw [bt_one_n h] at hx
    cases hx
  | some v =>
    rw [bt_one_s h, List.mem_map] at hx
    obtain ⟨y, hy, ex⟩ := hx
    have z := (bt_al_b hV e _ _ y hy).1
    have w := hV j b p v h
    subst ex
    show v + y.1 ≤ (e + 1) * V
    rw [Nat.succ_mul]
    omega
theorem bm_one_k (hV : ∀ j i p v, c j i p = some v → v ≤ bt_V) (hn : j + e + 1 = n) (h8 : n ≤ 8) (ha : a ≤ j * bt_V) (ht : bt_ok 0 t) : bt_ok 0 (((bt_one c (bt_al c e) j b p).map (bm_pre a a0 ps)).foldl bt_ins t) := by
  refine bt_foldok _ _ ht (fun x hx => ?_)
  rw [List.mem_map] at hx
  obtain ⟨y, hy, ex⟩ := hx
  have z := bm_bd ha (bm_one_b hV y hy) hn
  have w := bt_nV h8
  subst ex
  show 0 + (a + y.1) < bt_U
  omega
theorem bm_pre_c {X : List bt_E} : (X.map (bt_pre p v)).map (bm_pre a a0 ps) = X.map (bm_pre (a + v) a0 (ps ++ [p])) := by
  rw [List.map_map]
  congr 1
  funext x
  show (a + (v + x.1), a0 :: (ps ++ (p :: x.2))) = (a + v + x.1, a0 :: ((ps ++ [p]) ++ x.2))
  rw [Nat.add_assoc, List.append_assoc]
  rfl
theorem bm_neg {q : Option Nat} (hb : ∀ v, q = some v → v < 2 ^ 31) : ct_r q < 0 ↔ q = none := by
  cases q with
  | none => exact ⟨fun _ => rfl, fun _ => by show (-1 : Int32) < 0; decide⟩
  | some v => exact ⟨fun z => absurd z (nI_pos (hb v rfl)), fun z => by cases z⟩
theorem bm_V31 (h : v ≤ bt_V) : v < 2 ^ 31 := Nat.lt_of_le_of_lt h (by decide)
end GL
/-- one turn -/
theorem t_gx {ro : Nat → Nat × (Nat → Int32)} {Q : mPo} {d : Nat} {L : Nat → Nat → Int64} {s n a0 : Nat} {f kd fr : Int32} {I0 : Nat → Nat → Int32} {c : Nat → Nat → Nat → Option Nat} (h16 : s ≤ 16) (h8 : n ≤ 8) (hn3 : I0 34 3 = nI n) (hV : ∀ j i p v, c j i p = some v → v ≤ bt_V) (hcs : ∀ j i p v, c j i p = some v → i + (2 * p + 1) ≤ s) (hM : ∀ (d : Nat) (I : Nat → Nat → Int32) (Q : mPo) (j i p : Nat), mGr I0 I → j < n → i ≤ s → p ≤ 2 → Q (some (.int (ct_r (c j i p)))) (mSH, I, L) → mWP mTb_ mFT ro (d + 1, 125, 0, [some (.ref 34), some (.int (nI j)), some (.int (nI i)), some (.int (nI (2 * p + 1))), some (.int kd), some (.int fr), none, none, none, none, none, none, none, none, none], [], 0, 0, (mSH, I, L)) Q) {j p b a : Nat} {ps : List Nat} {t : bt_T} (hj : j < n) (hp : p ≤ 3) {I : Nat → Nat → Int32} {o5 o6 : Option Value} (hg : mGr I0 I) (hl : bm_L j a0 b a ps I) (hb : b ≤ s) (hA : a ≤ j * bt_V) (h45 : I 45 j = nI p - 1) (hF : bm_F n I t) (ht : bt_ok 0 t)
  (hx : p = 3 → ∀ I1, mGr I0 I1 → (∀ k, k ≤ j → I1 44 k = I 44 k) → (∀ k, k ≤ j → I1 47 k = I 47 k) → (∀ k, k < j → I1 45 k = I 45 k) → bm_F n I1 t → I1 34 22 = I 34 22 → mWP mTb_ mFT ro (d + 2, 129, 24, [some (.ref 34), some (.int f), some (.int kd), some (.int fr), some (.int (nI j - 1)), o5, o6], [], 0, 0, (mSH, I1, L)) Q)
  (h0 : p ≤ 2 → c j b p = none → ∀ I1 o5 o6, mGr I0 I1 → I1 45 j = nI p → (∀ k, k ≤ j → I1 44 k = I 44 k) → (∀ k, k ≤ j → I1 47 k = I 47 k) → (∀ k, k < j → I1 45 k = I 45 k) → bm_F n I1 t → I1 34 22 = I 34 22 → mWP mTb_ mFT ro (d + 2, 129, 24, [some (.ref 34), some (.int f), some (.int kd), some (.int fr), some (.int (nI j)), o5, o6], [], 0, 0, (mSH, I1, L)) Q)
  (h1 : p ≤ 2 → j + 1 = n → ∀ v, c j b p = some v → ∀ I1 o5 o6, mGr I0 I1 → I1 45 j = nI p → (∀ k, k ≤ j → I1 44 k = I 44 k) → (∀ k, k ≤ j → I1 47 k = I 47 k) → (∀ k, k < j → I1 45 k = I 45 k) → bm_F n I1 (bt_ins t (a + v, a0 :: (ps ++ [p]))) → I1 34 22 = I 34 22 ||| bm_b a0 → mWP mTb_ mFT ro (d + 2, 129, 24, [some (.ref 34), some (.int f), some (.int kd), some (.int fr), some (.int (nI j)), o5, o6], [], 0, 0, (mSH, I1, L)) Q)
  (h2 : p ≤ 2 → j + 1 < n → ∀ v, c j b p = some v → ∀ I1 o5 o6, mGr I0 I1 → bm_L (j + 1) a0 (b + (2 * p + 1)) (a + v) (ps ++ [p]) I1 → I1 45 (j + 1) = nI 0 - 1 → I1 45 j = nI p → (∀ k, k ≤ j → I1 44 k = I 44 k) → (∀ k, k ≤ j → I1 47 k = I 47 k) → (∀ k, k < j → I1 45 k = I 45 k) → bm_F n I1 t → I1 34 22 = I 34 22 → mWP mTb_ mFT ro (d + 2, 129, 24, [some (.ref 34), some (.int f), some (.int kd), some (.int fr), some (.int (nI (j + 1))), o5, o6], [], 0, 0, (mSH, I1, L)) Q) : mWP mTb_ mFT ro (d + 2, 129, 24, [some (.ref 34), some (.int f), some (.int kd), some (.int fr), some (.int (nI j)), o5, o6], [], 0, 0, (mSH, I, L)) Q := by
  have hj9 : vp_in (nI j) 9 := vp_in_nI (by omega) (by omega)
  have cj : (nI j).toNatClampNeg = j := nI_clamp (by omega)
  have cj1 : (nI j + 1).toNatClampNeg = j + 1 := by rw [nI_1, nI_clamp (by omega)]
  have hj1 : j + 1 < 9 → vp_in (nI j + 1) 9 := fun z => by rw [nI_1]; exact vp_in_nI z (by omega)
  have le2 : nI p ≤ 2 ↔ p ≤ 2 := nI_leI (a := p) (b := 2) (by omega) (by omega)
  obtain ⟨l0, lb, la, ll, lp⟩ := id hl
  refine s_go1 (fun z => absurd z (nI_pos (by omega))) (fun _ => hj9) (fun _ => hj9) (fun _ => hj9) (fun _ _ => hj9) (fun _ _ => hj9) (fun _ z => ?_) (fun _ z => ?_)
  · rw [cj, mUp_same, h45, nI_pm] at z
    have hp2 : p ≤ 2 := le2.mp z
    rw [cj, mUp_same, h45, nI_pm, lb, bm_2p]
    have gJ : mGr I0 (mUp I 45 j (nI p)) := mGr.up (by rfl) hg
    have eJ : (mUp I 45 j (nI p)) 45 j = nI p := mUp_same
    have sJ : ∀ k, k < j → (mUp I 45 j (nI p)) 45 k = I 45 k := fun k hk => mUp_oth (by omega)
    have tJ : ∀ k, k ≤ j → (mUp I 45 j (nI p)) 44 k = I 44 k := fun k hk => rfl
    have uJ : ∀ k, k ≤ j → (mUp I 45 j (nI p)) 47 k = I 47 k := fun k hk => rfl
    have fJ : bm_F n (mUp I 45 j (nI p)) t := hF
    have wJ : (mUp I 45 j (nI p)) 34 22 = I 34 22 := rfl
    generalize mUp I 45 j (nI p) = J at gJ eJ sJ tJ uJ fJ wJ ⊢
    have nJ : J 34 3 = nI n := (gJ.2 3 rfl).trans hn3
    refine mCall (s2 := (d + 1, 125, 0, [some (.ref 34), some (.int (nI j)), some (.int (nI b)), some (.int (nI (2 * p + 1))), some (.int kd), some (.int fr), none, none, none, none, none, none, none, none, none], [], 0, 0, (mSH, J, L))) rfl ?_
    refine hM d J _ j b p gJ hj hb hp2 ?_
    show mWP mTb_ mFT ro (d + 2, 129, 87, [some (.ref 34), some (.int f), some (.int kd), some (.int fr), some (.int (nI j)), some (.int (nI (2 * p + 1))), o6], [.int (ct_r (c j b p))], 0, 0, (mSH, J, L)) _
    have b31 : ∀ v, c j b p = some v → v < 2 ^ 31 := fun v hv => bm_V31 (hV _ _ _ _ hv)
    refine s_gx2 (fun hr => h0 hp2 ((bm_neg b31).mp hr) J _ _ gJ eJ tJ uJ sJ fJ wJ) (fun _ _ => hj9) (fun hr he => ?_) (fun _ _ => hj9) (fun _ hl => hj1 (by omega)) (fun _ _ => hj9) (fun _ hl => hj1 (by omega)) (fun _ hl => hj1 (by omega)) (fun hr he => ?_)
    · have hjn : j + 1 = n := by
        rw [nI_1, nJ, nI_eq (by omega) (by omega)] at he
        exact he
      obtain ⟨v, hv⟩ : ∃ v, c j b p = some v := by
        cases e : c j b p with
        | none => exact absurd ((bm_neg b31).mpr e) hr
        | some v => exact ⟨v, rfl⟩
      have vV := hV _ _ _ _ hv
      have av : a + v < bt_U := by
        have z := bm_bd (e := 0) hA (show v ≤ (0 + 1) * bt_V by rw [Nat.zero_add, Nat.one_mul]; exact vV) hjn
        have w := bt_nV h8
        omega
      rw [cj, uJ j (Nat.le_refl j), la, ct_rv hv, nI_add]
      refine mCall (s2 := (d + 1, 128, 0, [some (.ref 34), some (.int (nI (a + v))), none], [], 0, 0, (mSH, J, L))) rfl ?_
      refine x_meets h8 nJ av (ps := ps ++ [p]) (by rw [List.length_append, ll]; exact hjn) fJ ht.le1 ht.le2 ((tJ 0 (Nat.zero_le j)).trans l0) (fun k hk => ?_) (fun K g1 g2 g3 g4 g5 g6 => ?_)
      · rcases Nat.lt_or_ge k j with z | z
        · rw [sJ k z, lp k z, bm_g1 (by omega)]
        · have ek : k = ps.length := by omega
          rw [ek, bm_g2, ll]
          exact eJ
      · refine mB 2 (s2 := (d + 2, 129, 24, [some (.ref 34), some (.int f), some (.int kd), some (.int fr), some (.int (nI j)), some (.int (nI (2 * p + 1))), some (.int (nI v))], [], 0, 0, (mSH, K, L))) rfl ?_
        exact h1 hp2 hjn v hv K _ _ (gJ.tr g1) (by rw [g3]; exact eJ) (fun k hk => by rw [g2]; exact tJ k hk) (fun k hk => by rw [g4]; exact uJ k hk) (fun k hk => by rw [g3]; exact sJ k hk) g5 (by rw [g6, wJ])
    · have hjn : j + 1 < n := by
        rw [nI_1, nJ, nI_eq (by omega) (by omega)] at he
        omega
      obtain ⟨v, hv⟩ : ∃ v, c j b p = some v := by
        cases e : c j b p with
        | none => exact absurd ((bm_neg b31).mpr e) hr
        | some v => exact ⟨v, rfl⟩
      rw [cj, cj1, uJ j (Nat.le_refl j), la, tJ j (Nat.le_refl j), lb, ct_rv hv, nI_add, nI_add]
      rw [nI_1]
      refine h2 hp2 hjn v hv _ _ _ (mGr.up (by rfl) (mGr.up (by rfl) (mGr.up (by rfl) gJ))) ⟨?_, ?_, ?_, ?_, fun k hk => ?_⟩ mUp_same ?_ (fun k hk => ?_) (fun k hk => ?_) (fun k hk => ?_) fJ wJ
      · rw [mUp_row (by omega), mUp_oth (by omega), mUp_row (by omega)]; exact (tJ 0 (Nat.zero_le j)).trans l0
      · rw [mUp_row (by omega), mUp_same]
      · rw [mUp_row (by omega), mUp_row (by omega), mUp_same]
      · rw [List.length_append, ll]; rfl
      · rw [mUp_oth (by omega), mUp_row (by omega), mUp_row (by omega)]
        rcases Nat.lt_or_ge k j with z | z
        · rw [sJ k z, lp k z, bm_g1 (by omega)]
        · have ek : k = ps.length := by omega
          rw [ek, bm_g2, ll]
          exact eJ
      · rw [mUp_oth (by omega), mUp_row (by omega), mUp_row (by omega)]; exact eJ
      · rw [mUp_row (by omega), mUp_oth (by omega), mUp_row (by omega)]; exact tJ k hk
      · rw [mUp_row (by omega), mUp_row (by omega), mUp_oth (by omega)]; exact uJ k hk
      · rw [mUp_oth (by omega), mUp_row (by omega), mUp_row (by omega)]; exact sJ k hk
  · rw [cj, mUp_same, h45, nI_pm] at z
    rw [cj, h45, nI_pm, nI_m1]
    exact hx (by have := mt le2.mpr z; omega) _ (mGr.up (by rfl) hg) (fun k hk => rfl) (fun k hk => rfl) (fun k hk => mUp_oth (by omega)) hF rfl
theorem l_gx {ro : Nat → Nat × (Nat → Int32)} {Q : mPo} {d : Nat} {L : Nat → Nat → Int64} {s n a0 : Nat} {f kd fr : Int32} {I0 : Nat → Nat → Int32} {c : Nat → Nat → Nat → Option Nat} (h16 : s ≤ 16) (h8 : n ≤ 8) (hn3 : I0 34 3 = nI n) (hV : ∀ j i p v, c j i p = some v → v ≤ bt_V) (hcs : ∀ j i p v, c j i p = some v → i + (2 * p + 1) ≤ s) (hM : ∀ (d : Nat) (I : Nat → Nat → Int32) (Q : mPo) (j i p : Nat), mGr I0 I → j < n → i ≤ s → p ≤ 2 → Q (some (.int (ct_r (c j i p)))) (mSH, I, L) → mWP mTb_ mFT ro (d + 1, 125, 0, [some (.ref 34), some (.int (nI j)), some (.int (nI i)), some (.int (nI (2 * p + 1))), some (.int kd), some (.int fr), none, none, none, none, none, none, none, none, none], [], 0, 0, (mSH, I, L)) Q) : ∀ (e j : Nat), j + e + 1 = n → ∀ (g p : Nat), p + g = 3 → ∀ (I : Nat → Nat → Int32) (o5 o6 : Option Value) (b a : Nat) (ps : List Nat) (t : bt_T), mGr I0 I → bm_L j a0 b a ps I → b ≤ s → a ≤ j * bt_V → I 45 j = nI p - 1 → bm_F n I t → bt_ok 0 t → (∀ I1 o5 o6, mGr I0 I1 → (∀ k, k ≤ j → I1 44 k = I 44 k) → (∀ k, k ≤ j → I1 47 k = I 47 k) → (∀ k, k < j → I1 45 k = I 45 k) → bm_F n I1 (((bt_rst c (bt_al c e) j b g p).map (bm_pre a a0 ps)).foldl bt_ins t) → I1 34 22 = bm_bit (I 34 22) a0 (bt_rst c (bt_al c e) j b g p) → mWP mTb_ mFT ro (d + 2, 129, 24, [some (.ref 34), some (.int f), some (.int kd), some (.int fr), some (.int (nI j - 1)), o5, o6], [], 0, 0, (mSH, I1, L)) Q) → mWP mTb_ mFT ro (d + 2, 129, 24, [some (.ref 34), some (.int f), some (.int kd), some (.int fr), some (.int (nI j)), o5, o6], [], 0, 0, (mSH, I, L)) Q := by
  intro e
  induction e with
  | zero =>
    intro j hj g
    induction g with
    | zero => exact fun p hp I o5 o6 b a ps t hg hl hb hA h45 hF ht hq => t_gx h16 h8 hn3 hV hcs hM (by omega) (by omega) hg hl hb hA h45 hF ht (fun _ I1 g1 g2 g3 g4 g5 g6 => hq I1 _ _ g1 g2 g3 g4 g5 g6) (fun z => by omega) (fun z => by omega) (fun z => by omega)
    | succ g ihg =>
      intro p hp I o5 o6 b a ps t hg hl hb hA h45 hF ht hq
      have nx : ∀ I1 o5 o6, mGr I0 I1 → I1 45 j = nI p → (∀ k, k ≤ j → I1 44 k = I 44 k) → (∀ k, k ≤ j → I1 47 k = I 47 k) → (∀ k, k < j → I1 45 k = I 45 k) → bm_F n I1 (((bt_one c (bt_al c 0) j b p).map (bm_pre a a0 ps)).foldl bt_ins t) → I1 34 22 = bm_bit (I 34 22) a0 (bt_one c (bt_al c 0) j b p) → mWP mTb_ mFT ro (d + 2, 129, 24, [some (.ref 34), some (.int f), some (.int kd), some (.int fr), some (.int (nI j)), o5, o6], [], 0, 0, (mSH, I1, L)) Q := fun I1 o5 o6 g1 g5 g2 g3 g4 g6 g7 => ihg (p + 1) (by omega) I1 _ _ b a ps _ g1 (hl.of g2 g3 g4) hb hA (by rw [g5, nI_sp]) g6 (bm_one_k hV hj h8 hA ht) (fun I2 o5 o6 k1 k2 k3 k4 k5 k6 => hq I2 _ _ k1 (fun k hk => (k2 k hk).trans (g2 k hk)) (fun k hk => (k3 k hk).trans (g3 k hk)) (fun k hk => (k4 k hk).trans (g4 k hk)) (by rw [bt_rst, List.map_append, List.foldl_append]; exact k5) (by rw [k6, g7]; exact bm_bit_a))
      refine t_gx h16 h8 hn3 hV hcs hM (by omega) (by omega) hg hl hb hA h45 hF ht (fun z => by omega) (fun _ hc I1 o5 o6 g1 g5 g2 g3 g4 g6 g7 => nx I1 _ _ g1 g5 g2 g3 g4 (by rw [bt_one_n hc]; exact g6) (by rw [bt_one_n hc]; exact g7)) (fun _ _ v hc I1 o5 o6 g1 g5 g2 g3 g4 g6 g7 => nx I1 _ _ g1 g5 g2 g3 g4 (by rw [bt_one_s hc]; exact g6) (by rw [bt_one_s hc]; exact g7)) (fun _ z => by omega)
  | succ e ihe =>
    intro j hj g
    induction g with
    | zero => exact fun p hp I o5 o6 b a ps t hg hl hb hA h45 hF ht hq => t_gx h16 h8 hn3 hV hcs hM (by omega) (by omega) hg hl hb hA h45 hF ht (fun _ I1 g1 g2 g3 g4 g5 g6 => hq I1 _ _ g1 g2 g3 g4 g5 g6) (fun z => by omega) (fun z => by omega) (fun z => by omega)
    | succ g ihg =>
      intro p hp I o5 o6 b a ps t hg hl hb hA h45 hF ht hq
      have nx : ∀ I1 o5 o6, mGr I0 I1 → I1 45 j = nI p → (∀ k, k ≤ j → I1 44 k = I 44 k) → (∀ k, k ≤ j → I1 47 k = I 47 k) → (∀ k, k < j → I1 45 k = I 45 k) → bm_F n I1 (((bt_one c (bt_al c (e + 1)) j b p).map (bm_pre a a0 ps)).foldl bt_ins t) → I1 34 22 = bm_bit (I 34 22) a0 (bt_one c (bt_al c (e + 1)) j b p) → mWP mTb_ mFT ro (d + 2, 129, 24, [some (.ref 34), some (.int f), some (.int kd), some (.int fr), some (.int (nI j)), o5, o6], [], 0, 0, (mSH, I1, L)) Q := fun I1 o5 o6 g1 g5 g2 g3 g4 g6 g7 => ihg (p + 1) (by omega) I1 _ _ b a ps _ g1 (hl.of g2 g3 g4) hb hA (by rw [g5, nI_sp]) g6 (bm_one_k hV hj h8 hA ht) (fun I2 o5 o6 k1 k2 k3 k4 k5 k6 => hq I2 _ _ k1 (fun k hk => (k2 k hk).trans (g2 k hk)) (fun k hk => (k3 k hk).trans (g3 k hk)) (fun k hk => (k4 k hk).trans (g4 k hk)) (by rw [bt_rst, List.map_append, List.foldl_append]; exact k5) (by rw [k6, g7]; exact bm_bit_a))
      refine t_gx h16 h8 hn3 hV hcs hM (by omega) (by omega) hg hl hb hA h45 hF ht (fun z => by omega) (fun _ hc I1 o5 o6 g1 g5 g2 g3 g4 g6 g7 => nx I1 _ _ g1 g5 g2 g3 g4 (by rw [bt_one_n hc]; exact g6) (by rw [bt_one_n hc]; exact g7)) (fun _ z => by omega) (fun _ _ v hc I1 o5 o6 g1 gl g7 g5 g2 g3 g4 g6 g8 => ?_)
      have vV := hV _ _ _ _ hc
      refine ihe (j + 1) (by omega) 3 0 rfl I1 _ _ _ _ _ t g1 gl (hcs _ _ _ _ hc) (by rw [Nat.succ_mul]; omega) g7 g6 ht (fun I2 o5 o6 k1 k2 k3 k4 k5 k6 => ?_)
      rw [nI_sp]
      refine nx I2 _ _ k1 (by rw [k4 j (by omega)]; exact g5) (fun k hk => (k2 k (by omega)).trans (g2 k hk)) (fun k hk => (k3 k (by omega)).trans (g3 k hk)) (fun k hk => (k4 k (by omega)).trans (g4 k hk)) ?_ ?_
      · rw [bt_one_s hc, bm_pre_c]
        exact k5
      · rw [bt_one_s hc, bm_bit_m, k6, g8]
        rfl
/-- from a first span on -/
theorem x_goes {ro : Nat → Nat × (Nat → Int32)} {Q : mPo} {d : Nat} {L : Nat → Nat → Int64} {s n i : Nat} {kd fr : Int32} {I0 I : Nat → Nat → Int32} {c : Nat → Nat → Nat → Option Nat} {t : bt_T} (h16 : s ≤ 16) (h8 : n ≤ 8) (hn3 : I0 34 3 = nI n) (hV : ∀ j i p v, c j i p = some v → v ≤ bt_V) (hcs : ∀ j i p v, c j i p = some v → i + (2 * p + 1) ≤ s) (hM : ∀ (d : Nat) (I : Nat → Nat → Int32) (Q : mPo) (j i p : Nat), mGr I0 I → j < n → i ≤ s → p ≤ 2 → Q (some (.int (ct_r (c j i p)))) (mSH, I, L) → mWP mTb_ mFT ro (d + 1, 125, 0, [some (.ref 34), some (.int (nI j)), some (.int (nI i)), some (.int (nI (2 * p + 1))), some (.int kd), some (.int fr), none, none, none, none, none, none, none, none, none], [], 0, 0, (mSH, I, L)) Q) (h0 : 0 < n) (hi : i ≤ s) (hg : mGr I0 I) (hF : bm_F n I t) (ht : bt_ok 0 t) (hq : ∀ I1, mGr I0 I1 → bm_F n I1 (((bt_al c n 0 i).map (bt_pre i 0)).foldl bt_ins t) → I1 34 22 = bm_bit (I 34 22) i (bt_al c n 0 i) → Q none (mSH, I1, L)) : mWP mTb_ mFT ro (d + 2, 129, 0, [some (.ref 34), some (.int (nI i)), some (.int kd), some (.int fr), none, none, none], [], 0, 0, (mSH, I, L)) Q := by
  obtain ⟨e, he⟩ : ∃ e, n = e + 1 := ⟨n - 1, by omega⟩
  subst he
  have ef : bm_pre 0 i [] = bt_pre i 0 := rfl
  refine s_go0 ?_
  refine l_gx (a0 := i) h16 h8 hn3 hV hcs hM e 0 (by omega) 3 0 rfl _ _ _ i 0 [] t (mGr.up (by rfl) (mGr.up (by rfl) (mGr.up (by rfl) hg))) ⟨rfl, rfl, rfl, rfl, fun k hk => by omega⟩ hi (Nat.zero_le _) rfl hF ht (fun I1 o5 o6 g1 _ _ _ g5 g6 => ?_)
  refine s_go9 (by decide) (fun _ => hq I1 g1 g5 g6) (fun z => absurd (by decide) z)
