/-! A match is traced, exactly. Written by a program (wip/mk_c.py). -/
def bt_bl (ps : List Nat) (k : Nat) : Nat := 2 * ps.getD k 0 + 1
/-- a first span and n blocks that fit -/
def bt_vl (s n : Nat) (e : List Nat) : Prop := ∃ f ps, e = f :: ps ∧ ps.length = n ∧ f + ct_ys (bt_bl ps) 0 n ≤ s
/-- the class holds the match e -/
def cl_M (n : Nat) (e : bt_E) (I : Nat → Nat → Int32) : Prop := I 22 3 = nI e.1 ∧ I 23 1 = nI n ∧ ∃ f ps, e.2 = f :: ps ∧ ps.length = n ∧ I 22 2 = nI f ∧ ∀ k, k < n → I 24 k = nI (bt_bl ps k)
section TV
variable {c : Nat → Nat → Nat → Option Nat} {s n : Nat}
theorem ct_ys_cons {p : Nat} {ps : List Nat} : ∀ r, ct_ys (bt_bl (p :: ps)) 0 (r + 1) = (2 * p + 1) + ct_ys (bt_bl ps) 0 r
  | 0 => by
    show 0 + (2 * (p :: ps).getD (0 + 0) 0 + 1) = 2 * p + 1 + 0
    rw [Nat.zero_add, Nat.add_zero]
    rfl
  | r + 1 => by
    show ct_ys (bt_bl (p :: ps)) 0 (r + 1) + bt_bl (p :: ps) (0 + (r + 1)) = 2 * p + 1 + (ct_ys (bt_bl ps) 0 r + bt_bl ps (0 + r))
    rw [ct_ys_cons r, Nat.zero_add, Nat.zero_add, Nat.add_assoc]
    rfl
theorem bt_al_v (hcs : ∀ j i p v, c j i p = some v → i + (2 * p + 1) ≤ s) : ∀ (r j i : Nat) (x : bt_E), x ∈ bt_al c r j i → 0 < r → i + ct_ys (bt_bl x.2) 0 r ≤ s
  | 0, j, i, x, _, h => absurd h (Nat.lt_irrefl 0)
  | r + 1, j, i, x, hx, _ => by
    have one : ∀ p x, x ∈ bt_one c (bt_al c r) j i p → i + ct_ys (bt_bl x.2) 0 (r + 1) ≤ s := fun p x hx => by
      cases e : c j i p with
      | none =>
        rw [bt_one_n e] at hx
        cases hx
      | some v =>
        rw [bt_one_s e, List.mem_map] at hx
        obtain ⟨y, hy, ex⟩ := hx
        subst ex
        show i + ct_ys (bt_bl (p :: y.2)) 0 (r + 1) ≤ s
        rw [ct_ys_cons]
        rcases Nat.eq_zero_or_pos r with z | z
        · subst z
          have := hcs j i p v e
          show i + (2 * p + 1 + 0) ≤ s
          omega
        · have := bt_al_v hcs r _ _ y hy z
          omega
    have hx : x ∈ bt_one c (bt_al c r) j i 0 ++ (bt_one c (bt_al c r) j i 1 ++ (bt_one c (bt_al c r) j i 2 ++ [])) := hx
    rw [List.append_nil, List.mem_append, List.mem_append] at hx
    rcases hx with h | h | h
    · exact one 0 x h
    · exact one 1 x h
    · exact one 2 x h
theorem bt_rt_v (hV : ∀ j i p v, c j i p = some v → v ≤ bt_V) (hcs : ∀ j i p v, c j i p = some v → i + (2 * p + 1) ≤ s) (hn : 0 < n) : ∀ (k : Nat) (x : bt_E), x ∈ bt_rt c n k → bt_vl s n x.2
  | 0, x, h => by cases h
  | k + 1, x, h => by
    have h : x ∈ bt_rt c n k ++ (bt_al c n 0 k).map (bt_pre k 0) := h
    rw [List.mem_append] at h
    rcases h with h | h
    · exact bt_rt_v hV hcs hn k x h
    · rw [List.mem_map] at h
      obtain ⟨y, hy, ex⟩ := h
      subst ex
      exact ⟨k, y.2, rfl, (bt_al_b hV n _ _ y hy).2, bt_al_v hcs n 0 k y hy hn⟩
theorem bt_Rt_v (hV : ∀ j i p v, c j i p = some v → v ≤ bt_V) (hcs : ∀ j i p v, c j i p = some v → i + (2 * p + 1) ≤ s) (x : bt_E) (h : x ∈ bt_Rt c n s) : bt_vl s n x.2 ∧ 0 < n := by
  unfold bt_Rt at h
  by_cases e : n = 0
  · rw [if_pos e] at h
    cases h
  · rw [if_neg e] at h
    exact ⟨bt_rt_v hV hcs (by omega) s x h, by omega⟩
/-- the best two are of the list -/
theorem bt_top_m (X : List bt_E) : ((bt_top X).1.1 < bt_U → (bt_top X).1 ∈ X) ∧ ((bt_top X).2.1.1 < bt_U → (bt_top X).2.1 ∈ X) := by
  have key : ∀ (Y : List bt_E) (t : bt_T), (∀ x, x ∈ Y → x ∈ X) → (t.1.1 < bt_U → t.1 ∈ X) → (t.2.1.1 < bt_U → t.2.1 ∈ X) → ((Y.foldl bt_ins t).1.1 < bt_U → (Y.foldl bt_ins t).1 ∈ X) ∧ ((Y.foldl bt_ins t).2.1.1 < bt_U → (Y.foldl bt_ins t).2.1 ∈ X) := by
    intro Y
    induction Y with
    | nil => exact fun t _ h1 h2 => ⟨h1, h2⟩
    | cons y Y ih =>
      intro t hY h1 h2
      have hy := hY y (List.mem_cons_self ..)
      refine ih (bt_ins t y) (fun x hx => hY x (List.mem_cons_of_mem _ hx)) ?_ ?_
      · show (bt_of (t.1, t.2.1) y).1.1 < bt_U → (bt_of (t.1, t.2.1) y).1 ∈ X
        unfold bt_of
        by_cases c1 : y.1 < t.1.1
        · rw [if_pos c1]; exact fun _ => hy
        · rw [if_neg c1]
          by_cases c2 : y.1 < t.2.1.1
          · rw [if_pos c2]; exact h1
          · rw [if_neg c2]; exact h1
      · show (bt_of (t.1, t.2.1) y).2.1 < bt_U → (bt_of (t.1, t.2.1) y).2 ∈ X
        unfold bt_of
        by_cases c1 : y.1 < t.1.1
        · rw [if_pos c1]; exact h1
        · rw [if_neg c1]
          by_cases c2 : y.1 < t.2.1.1
          · rw [if_pos c2]; exact fun _ => hy
          · rw [if_neg c2]; exact h2
  exact key X bt_0 (fun x hx => hx) (fun z => absurd z (Nat.lt_irrefl _)) (fun z => absurd z (Nat.lt_irrefl _))
end TV
theorem s_tx_0 {ro : Nat → Nat × (Nat → Int32)} {Q : mPo} {d : Nat} {I : Nat → Nat → Int32} {L : Nat → Nat → Int64} {w : Int32} {i j : Nat} {o6 : Option Value} (hb1 : ¬ (I 4 1 ≤ nI j) → j ≤ 8) (hb2 : ¬ (I 4 1 ≤ nI j) → i ≤ 16)  (h1 : ((I 4 1) ≤ (nI j)) → Q (some (.int 1)) (mSH, I, L)) (h2 : ¬ ((I 4 1) ≤ (nI j)) → vp_in (nI (j * 17 + i)) 154) (h3 : ¬ ((I 4 1) ≤ (nI j)) → ((I 23 1) < 8) → vp_in (I 23 1) 8) (h4 : ¬ ((I 4 1) ≤ (nI j)) → ((I 23 1) < 8) → vp_in (nI (j * 17 + i)) 154) (h5 : ¬ ((I 4 1) ≤ (nI j)) → ((I 23 1) < 8) → vp_in (nI (j * 17 + i)) 154) (h6 : ¬ ((I 4 1) ≤ (nI j)) → ((I 23 1) < 8) → mWP mTb_ mFT ro (d + 2, 65, 69, [some (.ref 10), some (.int w), some (.ref 22), some (.int (I 18 ((nI (j * 17 + i)).toNatClampNeg))), some (.int ((nI i) + (I 15 ((nI (j * 17 + i)).toNatClampNeg)))), some (.int ((nI j) + 1)), some (.int (nI (j * 17 + i)))], [], 0, 0, (mSH, (mUp (mUp I 24 ((I 23 1).toNatClampNeg) (I 15 ((nI (j * 17 + i)).toNatClampNeg))) 23 1 ((I 23 1) + 1)), L)) Q) (h7 : ¬ ((I 4 1) ≤ (nI j)) → ¬ ((I 23 1) < 8) → vp_in (nI (j * 17 + i)) 154) (h8 : ¬ ((I 4 1) ≤ (nI j)) → ¬ ((I 23 1) < 8) → vp_in (nI (j * 17 + i)) 154) (h9 : ¬ ((I 4 1) ≤ (nI j)) → ¬ ((I 23 1) < 8) → mWP mTb_ mFT ro (d + 2, 65, 69, [some (.ref 10), some (.int w), some (.ref 22), some (.int (I 18 ((nI (j * 17 + i)).toNatClampNeg))), some (.int ((nI i) + (I 15 ((nI (j * 17 + i)).toNatClampNeg)))), some (.int ((nI j) + 1)), some (.int (nI (j * 17 + i)))], [], 0, 0, (mSH, I, L)) Q) : mWP mTb_ mFT ro (d + 2, 65, 69, [some (.ref 10), some (.int w), some (.ref 22), some (.int 0), some (.int (nI i)), some (.int (nI j)), o6], [], 0, 0, (mSH, I, L)) Q := by
  refine mB 4 (s2 := (d + 2, 65, 78, [some (.ref 10), some (.int w), some (.ref 22), some (.int 0), some (.int (nI i)), some (.int (nI j)), o6], [.ref 4, .int (nI j)], 0, 0, (mSH, I, L))) rfl ?_
  refine mCall (s2 := (d + 1, 39, 0, [some (.ref 4)], [], 0, 0, (mSH, I, L))) rfl ?_
  refine mB 2 (s2 := (d + 1, 39, 4, [some (.ref 4)], [.int (I 4 1)], 0, 0, (mSH, I, L))) rfl ?_
  refine mRt (r := (some (.int (I 4 1)))) (h := (mSH, I, L)) rfl (mRet_int rfl) ?_
  show mWP mTb_ mFT ro (d + 2, 65, 81, [some (.ref 10), some (.int w), some (.ref 22), some (.int 0), some (.int (nI i)), some (.int (nI j)), o6], [.int (I 4 1), .int (nI j)], 0, 0, (mSH, I, L)) _
  refine mBr (s2 := (d + 2, 65, 139, [some (.ref 10), some (.int w), some (.ref 22), some (.int 0), some (.int (nI i)), some (.int (nI j)), o6], [], 0, 0, (mSH, I, L))) (s3 := (d + 2, 65, 84, [some (.ref 10), some (.int w), some (.ref 22), some (.int 0), some (.int (nI i)), some (.int (nI j)), o6], [], 0, 0, (mSH, I, L))) rfl (fun c0 => ?_) (fun c0 => ?_)
  · refine mB 1 (s2 := (d + 2, 65, 140, [some (.ref 10), some (.int w), some (.ref 22), some (.int 0), some (.int (nI i)), some (.int (nI j)), o6], [.int 1], 0, 0, (mSH, I, L))) rfl ?_
    refine mRt (r := (some (.int 1))) (h := (mSH, I, L)) rfl rfl ?_
    exact h1 (of_decide_eq_true c0)
  · refine mB 2 (s2 := (d + 2, 65, 88, [some (.ref 10), some (.int w), some (.ref 22), some (.int 0), some (.int (nI i)), some (.int (nI j)), o6], [.int (nI i), .int (nI j)], 0, 0, (mSH, I, L))) rfl ?_
    refine mCall (s2 := (d + 1, 59, 0, [some (.int (nI j)), some (.int (nI i)), none], [], 0, 0, (mSH, I, L))) rfl ?_
    refine x_cell (a := j) (b := i) rfl rfl (hb1 (of_decide_eq_false c0)) (hb2 (of_decide_eq_false c0)) ?_
    show mWP mTb_ mFT ro (d + 2, 65, 91, [some (.ref 10), some (.int w), some (.ref 22), some (.int 0), some (.int (nI i)), some (.int (nI j)), o6], [.int (nI (j * 17 + i))], 0, 0, (mSH, I, L)) _
    refine mB 6 (s2 := (d + 2, 65, 102, [some (.ref 10), some (.int w), some (.ref 22), some (.int 0), some (.int (nI i)), some (.int (nI j)), some (.int (nI (j * 17 + i)))], [.int 0, .ref 14, .ref 23], 0, 0, (mSH, I, L))) rfl ?_
    refine mRq (s2 := (d + 2, 65, 103, [some (.ref 10), some (.int w), some (.ref 22), some (.int 0), some (.int (nI i)), some (.int (nI j)), some (.int (nI (j * 17 + i)))], [.ref 15, .ref 23], 0, 0, (mSH, I, L))) rfl (by decide) ?_
    refine mB 1 (s2 := (d + 2, 65, 105, [some (.ref 10), some (.int w), some (.ref 22), some (.int 0), some (.int (nI i)), some (.int (nI j)), some (.int (nI (j * 17 + i)))], [.int (nI (j * 17 + i)), .ref 15, .ref 23], 0, 0, (mSH, I, L))) rfl ?_
    refine mRq (s2 := (d + 2, 65, 106, [some (.ref 10), some (.int w), some (.ref 22), some (.int 0), some (.int (nI i)), some (.int (nI j)), some (.int (nI (j * 17 + i)))], [.int (I 15 ((nI (j * 17 + i)).toNatClampNeg)), .ref 23], 0, 0, (mSH, I, L))) rfl (mVp_of (h2 (of_decide_eq_false c0))) ?_
    refine mCall (s2 := (d + 1, 44, 0, [some (.ref 23), some (.int (I 15 ((nI (j * 17 + i)).toNatClampNeg)))], [], 0, 0, (mSH, I, L))) rfl ?_
    refine mB 1 (s2 := (d + 1, 44, 1, [some (.ref 23), some (.int (I 15 ((nI (j * 17 + i)).toNatClampNeg)))], [.ref 23], 0, 0, (mSH, I, L))) rfl ?_
    refine mCall (s2 := (d, 40, 0, [some (.ref 23)], [], 0, 0, (mSH, I, L))) rfl ?_
    refine mB 5 (s2 := (d, 40, 9, [some (.ref 23)], [.int 8, .int (I 23 1)], 0, 0, (mSH, I, L))) rfl ?_
    refine mBr (s2 := (d, 40, 16, [some (.ref 23)], [], 0, 0, (mSH, I, L))) (s3 := (d, 40, 12, [some (.ref 23)], [], 0, 0, (mSH, I, L))) rfl (fun c1 => ?_) (fun c1 => ?_)
    · refine mB 1 (s2 := (d, 40, 17, [some (.ref 23)], [.int 0], 0, 0, (mSH, I, L))) rfl ?_
      refine mRt (r := (some (.int 0))) (h := (mSH, I, L)) rfl rfl ?_
      show mWP mTb_ mFT ro (d + 1, 44, 4, [some (.ref 23), some (.int (I 15 ((nI (j * 17 + i)).toNatClampNeg)))], [.int 0], 0, 0, (mSH, I, L)) _
      refine mBT (s2 := (d + 1, 44, 7, [some (.ref 23), some (.int (I 15 ((nI (j * 17 + i)).toNatClampNeg)))], [], 0, 0, (mSH, I, L))) rfl (by decide) ?_
      refine mB 5 (s2 := (d + 1, 44, 16, [some (.ref 23), some (.int (I 15 ((nI (j * 17 + i)).toNatClampNeg)))], [.int (I 15 ((nI (j * 17 + i)).toNatClampNeg)), .int (I 23 1), .ref 24], 0, 0, (mSH, I, L))) rfl ?_
      refine mRq (s2 := (d + 1, 44, 17, [some (.ref 23), some (.int (I 15 ((nI (j * 17 + i)).toNatClampNeg)))], [], 0, 0, (mSH, (mUp I 24 ((I 23 1).toNatClampNeg) (I 15 ((nI (j * 17 + i)).toNatClampNeg))), L))) rfl (mVp_of (h3 (of_decide_eq_false c0) (of_decide_eq_true c1))) ?_
      refine mB 6 (s2 := (d + 1, 44, 27, [some (.ref 23), some (.int (I 15 ((nI (j * 17 + i)).toNatClampNeg)))], [], 0, 0, (mSH, (mUp (mUp I 24 ((I 23 1).toNatClampNeg) (I 15 ((nI (j * 17 + i)).toNatClampNeg))) 23 1 ((I 23 1) + 1)), L))) rfl ?_
      refine mRt (r := none) (h := (mSH, (mUp (mUp I 24 ((I 23 1).toNatClampNeg) (I 15 ((nI (j * 17 + i)).toNatClampNeg))) 23 1 ((I 23 1) + 1)), L)) rfl rfl ?_
      show mWP mTb_ mFT ro (d + 2, 65, 109, [some (.ref 10), some (.int w), some (.ref 22), some (.int 0), some (.int (nI i)), some (.int (nI j)), some (.int (nI (j * 17 + i)))], [], 0, 0, (mSH, (mUp (mUp I 24 ((I 23 1).toNatClampNeg) (I 15 ((nI (j * 17 + i)).toNatClampNeg))) 23 1 ((I 23 1) + 1)), L)) _
      refine mB 4 (s2 := (d + 2, 65, 116, [some (.ref 10), some (.int w), some (.ref 22), some (.int 0), some (.int (nI i)), some (.int (nI j)), some (.int (nI (j * 17 + i)))], [.int 0, .ref 14, .int (nI i)], 0, 0, (mSH, (mUp (mUp I 24 ((I 23 1).toNatClampNeg) (I 15 ((nI (j * 17 + i)).toNatClampNeg))) 23 1 ((I 23 1) + 1)), L))) rfl ?_
      refine mRq (s2 := (d + 2, 65, 117, [some (.ref 10), some (.int w), some (.ref 22), some (.int 0), some (.int (nI i)), some (.int (nI j)), some (.int (nI (j * 17 + i)))], [.ref 15, .int (nI i)], 0, 0, (mSH, (mUp (mUp I 24 ((I 23 1).toNatClampNeg) (I 15 ((nI (j * 17 + i)).toNatClampNeg))) 23 1 ((I 23 1) + 1)), L))) rfl (by decide) ?_
      refine mB 1 (s2 := (d + 2, 65, 119, [some (.ref 10), some (.int w), some (.ref 22), some (.int 0), some (.int (nI i)), some (.int (nI j)), some (.int (nI (j * 17 + i)))], [.int (nI (j * 17 + i)), .ref 15, .int (nI i)], 0, 0, (mSH, (mUp (mUp I 24 ((I 23 1).toNatClampNeg) (I 15 ((nI (j * 17 + i)).toNatClampNeg))) 23 1 ((I 23 1) + 1)), L))) rfl ?_
      refine mRq (s2 := (d + 2, 65, 120, [some (.ref 10), some (.int w), some (.ref 22), some (.int 0), some (.int (nI i)), some (.int (nI j)), some (.int (nI (j * 17 + i)))], [.int (I 15 ((nI (j * 17 + i)).toNatClampNeg)), .int (nI i)], 0, 0, (mSH, (mUp (mUp I 24 ((I 23 1).toNatClampNeg) (I 15 ((nI (j * 17 + i)).toNatClampNeg))) 23 1 ((I 23 1) + 1)), L))) rfl (mVp_of (h4 (of_decide_eq_false c0) (of_decide_eq_true c1))) ?_
      refine mB 5 (s2 := (d + 2, 65, 128, [some (.ref 10), some (.int w), some (.ref 22), some (.int 0), some (.int ((nI i) + (I 15 ((nI (j * 17 + i)).toNatClampNeg)))), some (.int (nI j)), some (.int (nI (j * 17 + i)))], [.int 0, .ref 17], 0, 0, (mSH, (mUp (mUp I 24 ((I 23 1).toNatClampNeg) (I 15 ((nI (j * 17 + i)).toNatClampNeg))) 23 1 ((I 23 1) + 1)), L))) rfl ?_
      refine mRq (s2 := (d + 2, 65, 129, [some (.ref 10), some (.int w), some (.ref 22), some (.int 0), some (.int ((nI i) + (I 15 ((nI (j * 17 + i)).toNatClampNeg)))), some (.int (nI j)), some (.int (nI (j * 17 + i)))], [.ref 18], 0, 0, (mSH, (mUp (mUp I 24 ((I 23 1).toNatClampNeg) (I 15 ((nI (j * 17 + i)).toNatClampNeg))) 23 1 ((I 23 1) + 1)), L))) rfl (by decide) ?_
      refine mB 1 (s2 := (d + 2, 65, 131, [some (.ref 10), some (.int w), some (.ref 22), some (.int 0), some (.int ((nI i) + (I 15 ((nI (j * 17 + i)).toNatClampNeg)))), some (.int (nI j)), some (.int (nI (j * 17 + i)))], [.int (nI (j * 17 + i)), .ref 18], 0, 0, (mSH, (mUp (mUp I 24 ((I 23 1).toNatClampNeg) (I 15 ((nI (j * 17 + i)).toNatClampNeg))) 23 1 ((I 23 1) + 1)), L))) rfl ?_
      refine mRq (s2 := (d + 2, 65, 132, [some (.ref 10), some (.int w), some (.ref 22), some (.int 0), some (.int ((nI i) + (I 15 ((nI (j * 17 + i)).toNatClampNeg)))), some (.int (nI j)), some (.int (nI (j * 17 + i)))], [.int (I 18 ((nI (j * 17 + i)).toNatClampNeg))], 0, 0, (mSH, (mUp (mUp I 24 ((I 23 1).toNatClampNeg) (I 15 ((nI (j * 17 + i)).toNatClampNeg))) 23 1 ((I 23 1) + 1)), L))) rfl (mVp_of (h5 (of_decide_eq_false c0) (of_decide_eq_true c1))) ?_
      refine mB 3 (s2 := (d + 2, 65, 69, [some (.ref 10), some (.int w), some (.ref 22), some (.int (I 18 ((nI (j * 17 + i)).toNatClampNeg))), some (.int ((nI i) + (I 15 ((nI (j * 17 + i)).toNatClampNeg)))), some (.int ((nI j) + 1)), some (.int (nI (j * 17 + i)))], [], 0, 0, (mSH, (mUp (mUp I 24 ((I 23 1).toNatClampNeg) (I 15 ((nI (j * 17 + i)).toNatClampNeg))) 23 1 ((I 23 1) + 1)), L))) rfl ?_
      exact h6 (of_decide_eq_false c0) (of_decide_eq_true c1)
    · refine mB 2 (s2 := (d, 40, 17, [some (.ref 23)], [.int 1], 0, 0, (mSH, I, L))) rfl ?_
      refine mRt (r := (some (.int 1))) (h := (mSH, I, L)) rfl rfl ?_
      show mWP mTb_ mFT ro (d + 1, 44, 4, [some (.ref 23), some (.int (I 15 ((nI (j * 17 + i)).toNatClampNeg)))], [.int 1], 0, 0, (mSH, I, L)) _
      refine mBF (s3 := (d + 1, 44, 27, [some (.ref 23), some (.int (I 15 ((nI (j * 17 + i)).toNatClampNeg)))], [], 0, 0, (mSH, I, L))) rfl (by decide) ?_
      refine mRt (r := none) (h := (mSH, I, L)) rfl rfl ?_
      show mWP mTb_ mFT ro (d + 2, 65, 109, [some (.ref 10), some (.int w), some (.ref 22), some (.int 0), some (.int (nI i)), some (.int (nI j)), some (.int (nI (j * 17 + i)))], [], 0, 0, (mSH, I, L)) _
      refine mB 4 (s2 := (d + 2, 65, 116, [some (.ref 10), some (.int w), some (.ref 22), some (.int 0), some (.int (nI i)), some (.int (nI j)), some (.int (nI (j * 17 + i)))], [.int 0, .ref 14, .int (nI i)], 0, 0, (mSH, I, L))) rfl ?_
      refine mRq (s2 := (d + 2, 65, 117, [some (.ref 10), some (.int w), some (.ref 22), some (.int 0), some (.int (nI i)), some (.int (nI j)), some (.int (nI (j * 17 + i)))], [.ref 15, .int (nI i)], 0, 0, (mSH, I, L))) rfl (by decide) ?_
      refine mB 1 (s2 := (d + 2, 65, 119, [some (.ref 10), some (.int w), some (.ref 22), some (.int 0), some (.int (nI i)), some (.int (nI j)), some (.int (nI (j * 17 + i)))], [.int (nI (j * 17 + i)), .ref 15, .int (nI i)], 0, 0, (mSH, I, L))) rfl ?_
      refine mRq (s2 := (d + 2, 65, 120, [some (.ref 10), some (.int w), some (.ref 22), some (.int 0), some (.int (nI i)), some (.int (nI j)), some (.int (nI (j * 17 + i)))], [.int (I 15 ((nI (j * 17 + i)).toNatClampNeg)), .int (nI i)], 0, 0, (mSH, I, L))) rfl (mVp_of (h7 (of_decide_eq_false c0) (of_decide_eq_false c1))) ?_
      refine mB 5 (s2 := (d + 2, 65, 128, [some (.ref 10), some (.int w), some (.ref 22), some (.int 0), some (.int ((nI i) + (I 15 ((nI (j * 17 + i)).toNatClampNeg)))), some (.int (nI j)), some (.int (nI (j * 17 + i)))], [.int 0, .ref 17], 0, 0, (mSH, I, L))) rfl ?_
      refine mRq (s2 := (d + 2, 65, 129, [some (.ref 10), some (.int w), some (.ref 22), some (.int 0), some (.int ((nI i) + (I 15 ((nI (j * 17 + i)).toNatClampNeg)))), some (.int (nI j)), some (.int (nI (j * 17 + i)))], [.ref 18], 0, 0, (mSH, I, L))) rfl (by decide) ?_
      refine mB 1 (s2 := (d + 2, 65, 131, [some (.ref 10), some (.int w), some (.ref 22), some (.int 0), some (.int ((nI i) + (I 15 ((nI (j * 17 + i)).toNatClampNeg)))), some (.int (nI j)), some (.int (nI (j * 17 + i)))], [.int (nI (j * 17 + i)), .ref 18], 0, 0, (mSH, I, L))) rfl ?_
      refine mRq (s2 := (d + 2, 65, 132, [some (.ref 10), some (.int w), some (.ref 22), some (.int 0), some (.int ((nI i) + (I 15 ((nI (j * 17 + i)).toNatClampNeg)))), some (.int (nI j)), some (.int (nI (j * 17 + i)))], [.int (I 18 ((nI (j * 17 + i)).toNatClampNeg))], 0, 0, (mSH, I, L))) rfl (mVp_of (h8 (of_decide_eq_false c0) (of_decide_eq_false c1))) ?_
      refine mB 3 (s2 := (d + 2, 65, 69, [some (.ref 10), some (.int w), some (.ref 22), some (.int (I 18 ((nI (j * 17 + i)).toNatClampNeg))), some (.int ((nI i) + (I 15 ((nI (j * 17 + i)).toNatClampNeg)))), some (.int ((nI j) + 1)), some (.int (nI (j * 17 + i)))], [], 0, 0, (mSH, I, L))) rfl ?_
      exact h9 (of_decide_eq_false c0) (of_decide_eq_false c1)
theorem s_t0_0 {ro : Nat → Nat × (Nat → Int32)} {Q : mPo} {d : Nat} {I : Nat → Nat → Int32} {L : Nat → Nat → Int64}  (h1 : ((I 12 153) = 1000000000) → Q (some (.int 0)) (mSH, I, L)) (h2 : ¬ ((I 12 153) = 1000000000) → mWP mTb_ mFT ro (d + 2, 65, 69, [some (.ref 10), some (.int 0), some (.ref 22), some (.int (I 18 153)), some (.int (I 15 153)), some (.int 0), none], [], 0, 0, (mSH, (mUp (mUp (mUp I 22 2 (I 15 153)) 22 3 (I 12 153)) 23 1 0), L)) Q) : mWP mTb_ mFT ro (d + 2, 65, 0, [some (.ref 10), some (.int 0), some (.ref 22), none, none, none, none], [], 0, 0, (mSH, I, L)) Q := by
  refine mB 1 (s2 := (d + 2, 65, 1, [some (.ref 10), some (.int 0), some (.ref 22), none, none, none, none], [.int 0], 0, 0, (mSH, I, L))) rfl ?_
  refine mBT (s2 := (d + 2, 65, 4, [some (.ref 10), some (.int 0), some (.ref 22), none, none, none, none], [], 0, 0, (mSH, I, L))) rfl (by decide) ?_
  refine mB 6 (s2 := (d + 2, 65, 15, [some (.ref 10), some (.int 0), some (.ref 22), some (.int 0), none, none, none], [.int 0, .ref 11], 0, 0, (mSH, I, L))) rfl ?_
  refine mRq (s2 := (d + 2, 65, 16, [some (.ref 10), some (.int 0), some (.ref 22), some (.int 0), none, none, none], [.ref 12], 0, 0, (mSH, I, L))) rfl (by decide) ?_
  refine mB 1 (s2 := (d + 2, 65, 19, [some (.ref 10), some (.int 0), some (.ref 22), some (.int 0), none, none, none], [.int 153, .ref 12], 0, 0, (mSH, I, L))) rfl ?_
  refine mRq (s2 := (d + 2, 65, 20, [some (.ref 10), some (.int 0), some (.ref 22), some (.int 0), none, none, none], [.int (I 12 153)], 0, 0, (mSH, I, L))) rfl (by decide) ?_
  refine mB 1 (s2 := (d + 2, 65, 22, [some (.ref 10), some (.int 0), some (.ref 22), some (.int 0), none, none, none], [.int 1000000000, .int (I 12 153)], 0, 0, (mSH, I, L))) rfl ?_
  refine mBr (s2 := (d + 2, 65, 25, [some (.ref 10), some (.int 0), some (.ref 22), some (.int 0), none, none, none], [], 0, 0, (mSH, I, L))) (s3 := (d + 2, 65, 27, [some (.ref 10), some (.int 0), some (.ref 22), some (.int 0), none, none, none], [], 0, 0, (mSH, I, L))) rfl (fun c0 => ?_) (fun c0 => ?_)
  · refine mB 1 (s2 := (d + 2, 65, 26, [some (.ref 10), some (.int 0), some (.ref 22), some (.int 0), none, none, none], [.int 0], 0, 0, (mSH, I, L))) rfl ?_
    refine mRt (r := (some (.int 0))) (h := (mSH, I, L)) rfl rfl ?_
    exact h1 (of_decide_eq_true c0)
  · refine mB 3 (s2 := (d + 2, 65, 32, [some (.ref 10), some (.int 0), some (.ref 22), some (.int 0), none, none, none], [.int 0, .ref 14], 0, 0, (mSH, I, L))) rfl ?_
    refine mRq (s2 := (d + 2, 65, 33, [some (.ref 10), some (.int 0), some (.ref 22), some (.int 0), none, none, none], [.ref 15], 0, 0, (mSH, I, L))) rfl (by decide) ?_
    refine mB 1 (s2 := (d + 2, 65, 36, [some (.ref 10), some (.int 0), some (.ref 22), some (.int 0), none, none, none], [.int 153, .ref 15], 0, 0, (mSH, I, L))) rfl ?_
    refine mRq (s2 := (d + 2, 65, 37, [some (.ref 10), some (.int 0), some (.ref 22), some (.int 0), none, none, none], [.int (I 15 153)], 0, 0, (mSH, I, L))) rfl (by decide) ?_
    refine mB 6 (s2 := (d + 2, 65, 47, [some (.ref 10), some (.int 0), some (.ref 22), some (.int 0), some (.int (I 15 153)), none, none], [.int 0, .ref 11, .int (I 15 153), .ref 22], 0, 0, (mSH, I, L))) rfl ?_
    refine mRq (s2 := (d + 2, 65, 48, [some (.ref 10), some (.int 0), some (.ref 22), some (.int 0), some (.int (I 15 153)), none, none], [.ref 12, .int (I 15 153), .ref 22], 0, 0, (mSH, I, L))) rfl (by decide) ?_
    refine mB 1 (s2 := (d + 2, 65, 51, [some (.ref 10), some (.int 0), some (.ref 22), some (.int 0), some (.int (I 15 153)), none, none], [.int 153, .ref 12, .int (I 15 153), .ref 22], 0, 0, (mSH, I, L))) rfl ?_
    refine mRq (s2 := (d + 2, 65, 52, [some (.ref 10), some (.int 0), some (.ref 22), some (.int 0), some (.int (I 15 153)), none, none], [.int (I 12 153), .int (I 15 153), .ref 22], 0, 0, (mSH, I, L))) rfl (by decide) ?_
    refine mCall (s2 := (d + 1, 14, 0, [some (.ref 22), some (.int (I 15 153)), some (.int (I 12 153))], [], 0, 0, (mSH, I, L))) rfl ?_
    refine mB 8 (s2 := (d + 1, 14, 14, [some (.ref 22), some (.int (I 15 153)), some (.int (I 12 153))], [.ref 23], 0, 0, (mSH, (mUp (mUp I 22 2 (I 15 153)) 22 3 (I 12 153)), L))) rfl ?_
    refine mCall (s2 := (d, 45, 0, [some (.ref 23), none], [], 0, 0, (mSH, (mUp (mUp I 22 2 (I 15 153)) 22 3 (I 12 153)), L))) rfl ?_
    refine mB 7 (s2 := (d, 45, 11, [some (.ref 23), some (.int (I 23 1))], [.int (I 23 1)], 0, 0, (mSH, (mUp (mUp (mUp I 22 2 (I 15 153)) 22 3 (I 12 153)) 23 1 0), L))) rfl ?_
    refine mRt (r := (some (.int (I 23 1)))) (h := (mSH, (mUp (mUp (mUp I 22 2 (I 15 153)) 22 3 (I 12 153)) 23 1 0), L)) rfl (mRet_int rfl) ?_
    show mWP mTb_ mFT ro (d + 1, 14, 17, [some (.ref 22), some (.int (I 15 153)), some (.int (I 12 153))], [.int (I 23 1)], 0, 0, (mSH, (mUp (mUp (mUp I 22 2 (I 15 153)) 22 3 (I 12 153)) 23 1 0), L)) _
    refine mB 1 (s2 := (d + 1, 14, 18, [some (.ref 22), some (.int (I 15 153)), some (.int (I 12 153))], [], 0, 0, (mSH, (mUp (mUp (mUp I 22 2 (I 15 153)) 22 3 (I 12 153)) 23 1 0), L))) rfl ?_
    refine mRt (r := none) (h := (mSH, (mUp (mUp (mUp I 22 2 (I 15 153)) 22 3 (I 12 153)) 23 1 0), L)) rfl rfl ?_
    show mWP mTb_ mFT ro (d + 2, 65, 55, [some (.ref 10), some (.int 0), some (.ref 22), some (.int 0), some (.int (I 15 153)), none, none], [], 0, 0, (mSH, (mUp (mUp (mUp I 22 2 (I 15 153)) 22 3 (I 12 153)) 23 1 0), L)) _
    refine mB 3 (s2 := (d + 2, 65, 60, [some (.ref 10), some (.int 0), some (.ref 22), some (.int 0), some (.int (I 15 153)), none, none], [.int 0, .ref 17], 0, 0, (mSH, (mUp (mUp (mUp I 22 2 (I 15 153)) 22 3 (I 12 153)) 23 1 0), L))) rfl ?_
    refine mRq (s2 := (d + 2, 65, 61, [some (.ref 10), some (.int 0), some (.ref 22), some (.int 0), some (.int (I 15 153)), none, none], [.ref 18], 0, 0, (mSH, (mUp (mUp (mUp I 22 2 (I 15 153)) 22 3 (I 12 153)) 23 1 0), L))) rfl (by decide) ?_
    refine mB 1 (s2 := (d + 2, 65, 64, [some (.ref 10), some (.int 0), some (.ref 22), some (.int 0), some (.int (I 15 153)), none, none], [.int 153, .ref 18], 0, 0, (mSH, (mUp (mUp (mUp I 22 2 (I 15 153)) 22 3 (I 12 153)) 23 1 0), L))) rfl ?_
    refine mRq (s2 := (d + 2, 65, 65, [some (.ref 10), some (.int 0), some (.ref 22), some (.int 0), some (.int (I 15 153)), none, none], [.int (I 18 153)], 0, 0, (mSH, (mUp (mUp (mUp I 22 2 (I 15 153)) 22 3 (I 12 153)) 23 1 0), L))) rfl (by decide) ?_
    refine mB 3 (s2 := (d + 2, 65, 69, [some (.ref 10), some (.int 0), some (.ref 22), some (.int (I 18 153)), some (.int (I 15 153)), some (.int 0), none], [], 0, 0, (mSH, (mUp (mUp (mUp I 22 2 (I 15 153)) 22 3 (I 12 153)) 23 1 0), L))) rfl ?_
    exact h2 (of_decide_eq_false c0)
theorem s_tx_1 {ro : Nat → Nat × (Nat → Int32)} {Q : mPo} {d : Nat} {I : Nat → Nat → Int32} {L : Nat → Nat → Int64} {w : Int32} {i j : Nat} {o6 : Option Value} (hb1 : ¬ (I 4 1 ≤ nI j) → j ≤ 8) (hb2 : ¬ (I 4 1 ≤ nI j) → i ≤ 16)  (h1 : ((I 4 1) ≤ (nI j)) → Q (some (.int 1)) (mSH, I, L)) (h2 : ¬ ((I 4 1) ≤ (nI j)) → vp_in (nI (j * 17 + i)) 154) (h3 : ¬ ((I 4 1) ≤ (nI j)) → ((I 23 1) < 8) → vp_in (I 23 1) 8) (h4 : ¬ ((I 4 1) ≤ (nI j)) → ((I 23 1) < 8) → vp_in (nI (j * 17 + i)) 154) (h5 : ¬ ((I 4 1) ≤ (nI j)) → ((I 23 1) < 8) → vp_in (nI (j * 17 + i)) 154) (h6 : ¬ ((I 4 1) ≤ (nI j)) → ((I 23 1) < 8) → mWP mTb_ mFT ro (d + 2, 65, 69, [some (.ref 10), some (.int w), some (.ref 22), some (.int (I 19 ((nI (j * 17 + i)).toNatClampNeg))), some (.int ((nI i) + (I 16 ((nI (j * 17 + i)).toNatClampNeg)))), some (.int ((nI j) + 1)), some (.int (nI (j * 17 + i)))], [], 0, 0, (mSH, (mUp (mUp I 24 ((I 23 1).toNatClampNeg) (I 16 ((nI (j * 17 + i)).toNatClampNeg))) 23 1 ((I 23 1) + 1)), L)) Q) (h7 : ¬ ((I 4 1) ≤ (nI j)) → ¬ ((I 23 1) < 8) → vp_in (nI (j * 17 + i)) 154) (h8 : ¬ ((I 4 1) ≤ (nI j)) → ¬ ((I 23 1) < 8) → vp_in (nI (j * 17 + i)) 154) (h9 : ¬ ((I 4 1) ≤ (nI j)) → ¬ ((I 23 1) < 8) → mWP mTb_ mFT ro (d + 2, 65, 69, [some (.ref 10), some (.int w), some (.ref 22), some (.int (I 19 ((nI (j * 17 + i)).toNatClampNeg))), some (.int ((nI i) + (I 16 ((nI (j * 17 + i)).toNatClampNeg)))), some (.int ((nI j) + 1)), some (.int (nI (j * 17 + i)))], [], 0, 0, (mSH, I, L)) Q) : mWP mTb_ mFT ro (d + 2, 65, 69, [some (.ref 10), some (.int w), some (.ref 22), some (.int 1), some (.int (nI i)), some (.int (nI j)), o6], [], 0, 0, (mSH, I, L)) Q := by
  refine mB 4 (s2 := (d + 2, 65, 78, [some (.ref 10), some (.int w), some (.ref 22), some (.int 1), some (.int (nI i)), some (.int (nI j)), o6], [.ref 4, .int (nI j)], 0, 0, (mSH, I, L))) rfl ?_
  refine mCall (s2 := (d + 1, 39, 0, [some (.ref 4)], [], 0, 0, (mSH, I, L))) rfl ?_
  refine mB 2 (s2 := (d + 1, 39, 4, [some (.ref 4)], [.int (I 4 1)], 0, 0, (mSH, I, L))) rfl ?_
  refine mRt (r := (some (.int (I 4 1)))) (h := (mSH, I, L)) rfl (mRet_int rfl) ?_
  show mWP mTb_ mFT ro (d + 2, 65, 81, [some (.ref 10), some (.int w), some (.ref 22), some (.int 1), some (.int (nI i)), some (.int (nI j)), o6], [.int (I 4 1), .int (nI j)], 0, 0, (mSH, I, L)) _
  refine mBr (s2 := (d + 2, 65, 139, [some (.ref 10), some (.int w), some (.ref 22), some (.int 1), some (.int (nI i)), some (.int (nI j)), o6], [], 0, 0, (mSH, I, L))) (s3 := (d + 2, 65, 84, [some (.ref 10), some (.int w), some (.ref 22), some (.int 1), some (.int (nI i)), some (.int (nI j)), o6], [], 0, 0, (mSH, I, L))) rfl (fun c0 => ?_) (fun c0 => ?_)
  · refine mB 1 (s2 := (d + 2, 65, 140, [some (.ref 10), some (.int w), some (.ref 22), some (.int 1), some (.int (nI i)), some (.int (nI j)), o6], [.int 1], 0, 0, (mSH, I, L))) rfl ?_
    refine mRt (r := (some (.int 1))) (h := (mSH, I, L)) rfl rfl ?_
    exact h1 (of_decide_eq_true c0)
  · refine mB 2 (s2 := (d + 2, 65, 88, [some (.ref 10), some (.int w), some (.ref 22), some (.int 1), some (.int (nI i)), some (.int (nI j)), o6], [.int (nI i), .int (nI j)], 0, 0, (mSH, I, L))) rfl ?_
    refine mCall (s2 := (d + 1, 59, 0, [some (.int (nI j)), some (.int (nI i)), none], [], 0, 0, (mSH, I, L))) rfl ?_
    refine x_cell (a := j) (b := i) rfl rfl (hb1 (of_decide_eq_false c0)) (hb2 (of_decide_eq_false c0)) ?_
    show mWP mTb_ mFT ro (d + 2, 65, 91, [some (.ref 10), some (.int w), some (.ref 22), some (.int 1), some (.int (nI i)), some (.int (nI j)), o6], [.int (nI (j * 17 + i))], 0, 0, (mSH, I, L)) _
    refine mB 6 (s2 := (d + 2, 65, 102, [some (.ref 10), some (.int w), some (.ref 22), some (.int 1), some (.int (nI i)), some (.int (nI j)), some (.int (nI (j * 17 + i)))], [.int 1, .ref 14, .ref 23], 0, 0, (mSH, I, L))) rfl ?_
    refine mRq (s2 := (d + 2, 65, 103, [some (.ref 10), some (.int w), some (.ref 22), some (.int 1), some (.int (nI i)), some (.int (nI j)), some (.int (nI (j * 17 + i)))], [.ref 16, .ref 23], 0, 0, (mSH, I, L))) rfl (by decide) ?_
    refine mB 1 (s2 := (d + 2, 65, 105, [some (.ref 10), some (.int w), some (.ref 22), some (.int 1), some (.int (nI i)), some (.int (nI j)), some (.int (nI (j * 17 + i)))], [.int (nI (j * 17 + i)), .ref 16, .ref 23], 0, 0, (mSH, I, L))) rfl ?_
    refine mRq (s2 := (d + 2, 65, 106, [some (.ref 10), some (.int w), some (.ref 22), some (.int 1), some (.int (nI i)), some (.int (nI j)), some (.int (nI (j * 17 + i)))], [.int (I 16 ((nI (j * 17 + i)).toNatClampNeg)), .ref 23], 0, 0, (mSH, I, L))) rfl (mVp_of (h2 (of_decide_eq_false c0))) ?_
    refine mCall (s2 := (d + 1, 44, 0, [some (.ref 23), some (.int (I 16 ((nI (j * 17 + i)).toNatClampNeg)))], [], 0, 0, (mSH, I, L))) rfl ?_
    refine mB 1 (s2 := (d + 1, 44, 1, [some (.ref 23), some (.int (I 16 ((nI (j * 17 + i)).toNatClampNeg)))], [.ref 23], 0, 0, (mSH, I, L))) rfl ?_
    refine mCall (s2 := (d, 40, 0, [some (.ref 23)], [], 0, 0, (mSH, I, L))) rfl ?_
    refine mB 5 (s2 := (d, 40, 9, [some (.ref 23)], [.int 8, .int (I 23 1)], 0, 0, (mSH, I, L))) rfl ?_
    refine mBr (s2 := (d, 40, 16, [some (.ref 23)], [], 0, 0, (mSH, I, L))) (s3 := (d, 40, 12, [some (.ref 23)], [], 0, 0, (mSH, I, L))) rfl (fun c1 => ?_) (fun c1 => ?_)
    · refine mB 1 (s2 := (d, 40, 17, [some (.ref 23)], [.int 0], 0, 0, (mSH, I, L))) rfl ?_
      refine mRt (r := (some (.int 0))) (h := (mSH, I, L)) rfl rfl ?_
      show mWP mTb_ mFT ro (d + 1, 44, 4, [some (.ref 23), some (.int (I 16 ((nI (j * 17 + i)).toNatClampNeg)))], [.int 0], 0, 0, (mSH, I, L)) _
      refine mBT (s2 := (d + 1, 44, 7, [some (.ref 23), some (.int (I 16 ((nI (j * 17 + i)).toNatClampNeg)))], [], 0, 0, (mSH, I, L))) rfl (by decide) ?_
      refine mB 5 (s2 := (d + 1, 44, 16, [some (.ref 23), some (.int (I 16 ((nI (j * 17 + i)).toNatClampNeg)))], [.int (I 16 ((nI (j * 17 + i)).toNatClampNeg)), .int (I 23 1), .ref 24], 0, 0, (mSH, I, L))) rfl ?_
      refine mRq (s2 := (d + 1, 44, 17, [some (.ref 23), some (.int (I 16 ((nI (j * 17 + i)).toNatClampNeg)))], [], 0, 0, (mSH, (mUp I 24 ((I 23 1).toNatClampNeg) (I 16 ((nI (j * 17 + i)).toNatClampNeg))), L))) rfl (mVp_of (h3 (of_decide_eq_false c0) (of_decide_eq_true c1))) ?_
      refine mB 6 (s2 := (d + 1, 44, 27, [some (.ref 23), some (.int (I 16 ((nI (j * 17 + i)).toNatClampNeg)))], [], 0, 0, (mSH, (mUp (mUp I 24 ((I 23 1).toNatClampNeg) (I 16 ((nI (j * 17 + i)).toNatClampNeg))) 23 1 ((I 23 1) + 1)), L))) rfl ?_
      refine mRt (r := none) (h := (mSH, (mUp (mUp I 24 ((I 23 1).toNatClampNeg) (I 16 ((nI (j * 17 + i)).toNatClampNeg))) 23 1 ((I 23 1) + 1)), L)) rfl rfl ?_
      show mWP mTb_ mFT ro (d + 2, 65, 109, [some (.ref 10), some (.int w), some (.ref 22), some (.int 1), some (.int (nI i)), some (.int (nI j)), some (.int (nI (j * 17 + i)))], [], 0, 0, (mSH, (mUp (mUp I 24 ((I 23 1).toNatClampNeg) (I 16 ((nI (j * 17 + i)).toNatClampNeg))) 23 1 ((I 23 1) + 1)), L)) _
      refine mB 4 (s2 := (d + 2, 65, 116, [some (.ref 10), some (.int w), some (.ref 22), some (.int 1), some (.int (nI i)), some (.int (nI j)), some (.int (nI (j * 17 + i)))], [.int 1, .ref 14, .int (nI i)], 0, 0, (mSH, (mUp (mUp I 24 ((I 23 1).toNatClampNeg) (I 16 ((nI (j * 17 + i)).toNatClampNeg))) 23 1 ((I 23 1) + 1)), L))) rfl ?_
      refine mRq (s2 := (d + 2, 65, 117, [some (.ref 10), some (.int w), some (.ref 22), some (.int 1), some (.int (nI i)), some (.int (nI j)), some (.int (nI (j * 17 + i)))], [.ref 16, .int (nI i)], 0, 0, (mSH, (mUp (mUp I 24 ((I 23 1).toNatClampNeg) (I 16 ((nI (j * 17 + i)).toNatClampNeg))) 23 1 ((I 23 1) + 1)), L))) rfl (by decide) ?_
      refine mB 1 (s2 := (d + 2, 65, 119, [some (.ref 10), some (.int w), some (.ref 22), some (.int 1), some (.int (nI i)), some (.int (nI j)), some (.int (nI (j * 17 + i)))], [.int (nI (j * 17 + i)), .ref 16, .int (nI i)], 0, 0, (mSH, (mUp (mUp I 24 ((I 23 1).toNatClampNeg) (I 16 ((nI (j * 17 + i)).toNatClampNeg))) 23 1 ((I 23 1) + 1)), L))) rfl ?_
      refine mRq (s2 := (d + 2, 65, 120, [some (.ref 10), some (.int w), some (.ref 22), some (.int 1), some (.int (nI i)), some (.int (nI j)), some (.int (nI (j * 17 + i)))], [.int (I 16 ((nI (j * 17 + i)).toNatClampNeg)), .int (nI i)], 0, 0, (mSH, (mUp (mUp I 24 ((I 23 1).toNatClampNeg) (I 16 ((nI (j * 17 + i)).toNatClampNeg))) 23 1 ((I 23 1) + 1)), L))) rfl (mVp_of (h4 (of_decide_eq_false c0) (of_decide_eq_true c1))) ?_
      refine mB 5 (s2 := (d + 2, 65, 128, [some (.ref 10), some (.int w), some (.ref 22), some (.int 1), some (.int ((nI i) + (I 16 ((nI (j * 17 + i)).toNatClampNeg)))), some (.int (nI j)), some (.int (nI (j * 17 + i)))], [.int 1, .ref 17], 0, 0, (mSH, (mUp (mUp I 24 ((I 23 1).toNatClampNeg) (I 16 ((nI (j * 17 + i)).toNatClampNeg))) 23 1 ((I 23 1) + 1)), L))) rfl ?_
      refine mRq (s2 := (d + 2, 65, 129, [some (.ref 10), some (.int w), some (.ref 22), some (.int 1), some (.int ((nI i) + (I 16 ((nI (j * 17 + i)).toNatClampNeg)))), some (.int (nI j)), some (.int (nI (j * 17 + i)))], [.ref 19], 0, 0, (mSH, (mUp (mUp I 24 ((I 23 1).toNatClampNeg) (I 16 ((nI (j * 17 + i)).toNatClampNeg))) 23 1 ((I 23 1) + 1)), L))) rfl (by decide) ?_
      refine mB 1 (s2 := (d + 2, 65, 131, [some (.ref 10), some (.int w), some (.ref 22), some (.int 1), some (.int ((nI i) + (I 16 ((nI (j * 17 + i)).toNatClampNeg)))), some (.int (nI j)), some (.int (nI (j * 17 + i)))], [.int (nI (j * 17 + i)), .ref 19], 0, 0, (mSH, (mUp (mUp I 24 ((I 23 1).toNatClampNeg) (I 16 ((nI (j * 17 + i)).toNatClampNeg))) 23 1 ((I 23 1) + 1)), L))) rfl ?_
      refine mRq (s2 := (d + 2, 65, 132, [some (.ref 10), some (.int w), some (.ref 22), some (.int 1), some (.int ((nI i) + (I 16 ((nI (j * 17 + i)).toNatClampNeg)))), some (.int (nI j)), some (.int (nI (j * 17 + i)))], [.int (I 19 ((nI (j * 17 + i)).toNatClampNeg))], 0, 0, (mSH, (mUp (mUp I 24 ((I 23 1).toNatClampNeg) (I 16 ((nI (j * 17 + i)).toNatClampNeg))) 23 1 ((I 23 1) + 1)), L))) rfl (mVp_of (h5 (of_decide_eq_false c0) (of_decide_eq_true c1))) ?_
      refine mB 3 (s2 := (d + 2, 65, 69, [some (.ref 10), some (.int w), some (.ref 22), some (.int (I 19 ((nI (j * 17 + i)).toNatClampNeg))), some (.int ((nI i) + (I 16 ((nI (j * 17 + i)).toNatClampNeg)))), some (.int ((nI j) + 1)), some (.int (nI (j * 17 + i)))], [], 0, 0, (mSH, (mUp (mUp I 24 ((I 23 1).toNatClampNeg) (I 16 ((nI (j * 17 + i)).toNatClampNeg))) 23 1 ((I 23 1) + 1)), L))) rfl ?_
      exact h6 (of_decide_eq_false c0) (of_decide_eq_true c1)
    · refine mB 2 (s2 := (d, 40, 17, [some (.ref 23)], [.int 1], 0, 0, (mSH, I, L))) rfl ?_
      refine mRt (r := (some (.int 1))) (h := (mSH, I, L)) rfl rfl ?_
      show mWP mTb_ mFT ro (d + 1, 44, 4, [some (.ref 23), some (.int (I 16 ((nI (j * 17 + i)).toNatClampNeg)))], [.int 1], 0, 0, (mSH, I, L)) _
      refine mBF (s3 := (d + 1, 44, 27, [some (.ref 23), some (.int (I 16 ((nI (j * 17 + i)).toNatClampNeg)))], [], 0, 0, (mSH, I, L))) rfl (by decide) ?_
      refine mRt (r := none) (h := (mSH, I, L)) rfl rfl ?_
      show mWP mTb_ mFT ro (d + 2, 65, 109, [some (.ref 10), some (.int w), some (.ref 22), some (.int 1), some (.int (nI i)), some (.int (nI j)), some (.int (nI (j * 17 + i)))], [], 0, 0, (mSH, I, L)) _
      refine mB 4 (s2 := (d + 2, 65, 116, [some (.ref 10), some (.int w), some (.ref 22), some (.int 1), some (.int (nI i)), some (.int (nI j)), some (.int (nI (j * 17 + i)))], [.int 1, .ref 14, .int (nI i)], 0, 0, (mSH, I, L))) rfl ?_
      refine mRq (s2 := (d + 2, 65, 117, [some (.ref 10), some (.int w), some (.ref 22), some (.int 1), some (.int (nI i)), some (.int (nI j)), some (.int (nI (j * 17 + i)))], [.ref 16, .int (nI i)], 0, 0, (mSH, I, L))) rfl (by decide) ?_
      refine mB 1 (s2 := (d + 2, 65, 119, [some (.ref 10), some (.int w), some (.ref 22), some (.int 1), some (.int (nI i)), some (.int (nI j)), some (.int (nI (j * 17 + i)))], [.int (nI (j * 17 + i)), .ref 16, .int (nI i)], 0, 0, (mSH, I, L))) rfl ?_
      refine mRq (s2 := (d + 2, 65, 120, [some (.ref 10), some (.int w), some (.ref 22), some (.int 1), some (.int (nI i)), some (.int (nI j)), some (.int (nI (j * 17 + i)))], [.int (I 16 ((nI (j * 17 + i)).toNatClampNeg)), .int (nI i)], 0, 0, (mSH, I, L))) rfl (mVp_of (h7 (of_decide_eq_false c0) (of_decide_eq_false c1))) ?_
      refine mB 5 (s2 := (d + 2, 65, 128, [some (.ref 10), some (.int w), some (.ref 22), some (.int 1), some (.int ((nI i) + (I 16 ((nI (j * 17 + i)).toNatClampNeg)))), some (.int (nI j)), some (.int (nI (j * 17 + i)))], [.int 1, .ref 17], 0, 0, (mSH, I, L))) rfl ?_
      refine mRq (s2 := (d + 2, 65, 129, [some (.ref 10), some (.int w), some (.ref 22), some (.int 1), some (.int ((nI i) + (I 16 ((nI (j * 17 + i)).toNatClampNeg)))), some (.int (nI j)), some (.int (nI (j * 17 + i)))], [.ref 19], 0, 0, (mSH, I, L))) rfl (by decide) ?_
      refine mB 1 (s2 := (d + 2, 65, 131, [some (.ref 10), some (.int w), some (.ref 22), some (.int 1), some (.int ((nI i) + (I 16 ((nI (j * 17 + i)).toNatClampNeg)))), some (.int (nI j)), some (.int (nI (j * 17 + i)))], [.int (nI (j * 17 + i)), .ref 19], 0, 0, (mSH, I, L))) rfl ?_
      refine mRq (s2 := (d + 2, 65, 132, [some (.ref 10), some (.int w), some (.ref 22), some (.int 1), some (.int ((nI i) + (I 16 ((nI (j * 17 + i)).toNatClampNeg)))), some (.int (nI j)), some (.int (nI (j * 17 + i)))], [.int (I 19 ((nI (j * 17 + i)).toNatClampNeg))], 0, 0, (mSH, I, L))) rfl (mVp_of (h8 (of_decide_eq_false c0) (of_decide_eq_false c1))) ?_
      refine mB 3 (s2 := (d + 2, 65, 69, [some (.ref 10), some (.int w), some (.ref 22), some (.int (I 19 ((nI (j * 17 + i)).toNatClampNeg))), some (.int ((nI i) + (I 16 ((nI (j * 17 + i)).toNatClampNeg)))), some (.int ((nI j) + 1)), some (.int (nI (j * 17 + i)))], [], 0, 0, (mSH, I, L))) rfl ?_
      exact h9 (of_decide_eq_false c0) (of_decide_eq_false c1)
theorem s_t0_1 {ro : Nat → Nat × (Nat → Int32)} {Q : mPo} {d : Nat} {I : Nat → Nat → Int32} {L : Nat → Nat → Int64}  (h1 : ((I 13 153) = 1000000000) → Q (some (.int 0)) (mSH, I, L)) (h2 : ¬ ((I 13 153) = 1000000000) → mWP mTb_ mFT ro (d + 2, 65, 69, [some (.ref 10), some (.int 1), some (.ref 22), some (.int (I 19 153)), some (.int (I 16 153)), some (.int 0), none], [], 0, 0, (mSH, (mUp (mUp (mUp I 22 2 (I 16 153)) 22 3 (I 13 153)) 23 1 0), L)) Q) : mWP mTb_ mFT ro (d + 2, 65, 0, [some (.ref 10), some (.int 1), some (.ref 22), none, none, none, none], [], 0, 0, (mSH, I, L)) Q := by
  refine mB 1 (s2 := (d + 2, 65, 1, [some (.ref 10), some (.int 1), some (.ref 22), none, none, none, none], [.int 1], 0, 0, (mSH, I, L))) rfl ?_
  refine mBF (s3 := (d + 2, 65, 8, [some (.ref 10), some (.int 1), some (.ref 22), none, none, none, none], [], 0, 0, (mSH, I, L))) rfl (by decide) ?_
  refine mB 5 (s2 := (d + 2, 65, 15, [some (.ref 10), some (.int 1), some (.ref 22), some (.int 1), none, none, none], [.int 1, .ref 11], 0, 0, (mSH, I, L))) rfl ?_
  refine mRq (s2 := (d + 2, 65, 16, [some (.ref 10), some (.int 1), some (.ref 22), some (.int 1), none, none, none], [.ref 13], 0, 0, (mSH, I, L))) rfl (by decide) ?_
  refine mB 1 (s2 := (d + 2, 65, 19, [some (.ref 10), some (.int 1), some (.ref 22), some (.int 1), none, none, none], [.int 153, .ref 13], 0, 0, (mSH, I, L))) rfl ?_
  refine mRq (s2 := (d + 2, 65, 20, [some (.ref 10), some (.int 1), some (.ref 22), some (.int 1), none, none, none], [.int (I 13 153)], 0, 0, (mSH, I, L))) rfl (by decide) ?_
  refine mB 1 (s2 := (d + 2, 65, 22, [some (.ref 10), some (.int 1), some (.ref 22), some (.int 1), none, none, none], [.int 1000000000, .int (I 13 153)], 0, 0, (mSH, I, L))) rfl ?_
  refine mBr (s2 := (d + 2, 65, 25, [some (.ref 10), some (.int 1), some (.ref 22), some (.int 1), none, none, none], [], 0, 0, (mSH, I, L))) (s3 := (d + 2, 65, 27, [some (.ref 10), some (.int 1), some (.ref 22), some (.int 1), none, none, none], [], 0, 0, (mSH, I, L))) rfl (fun c0 => ?_) (fun c0 => ?_)
  · refine mB 1 (s2 := (d + 2, 65, 26, [some (.ref 10), some (.int 1), some (.ref 22), some (.int 1), none, none, none], [.int 0], 0, 0, (mSH, I, L))) rfl ?_
    refine mRt (r := (some (.int 0))) (h := (mSH, I, L)) rfl rfl ?_
    exact h1 (of_decide_eq_true c0)
  · refine mB 3 (s2 := (d + 2, 65, 32, [some (.ref 10), some (.int 1), some (.ref 22), some (.int 1), none, none, none], [.int 1, .ref 14], 0, 0, (mSH, I, L))) rfl ?_
    refine mRq (s2 := (d + 2, 65, 33, [some (.ref 10), some (.int 1), some (.ref 22), some (.int 1), none, none, none], [.ref 16], 0, 0, (mSH, I, L))) rfl (by decide) ?_
    refine mB 1 (s2 := (d + 2, 65, 36, [some (.ref 10), some (.int 1), some (.ref 22), some (.int 1), none, none, none], [.int 153, .ref 16], 0, 0, (mSH, I, L))) rfl ?_
    refine mRq (s2 := (d + 2, 65, 37, [some (.ref 10), some (.int 1), some (.ref 22), some (.int 1), none, none, none], [.int (I 16 153)], 0, 0, (mSH, I, L))) rfl (by decide) ?_
    refine mB 6 (s2 := (d + 2, 65, 47, [some (.ref 10), some (.int 1), some (.ref 22), some (.int 1), some (.int (I 16 153)), none, none], [.int 1, .ref 11, .int (I 16 153), .ref 22], 0, 0, (mSH, I, L))) rfl ?_
    refine mRq (s2 := (d + 2, 65, 48, [some (.ref 10), some (.int 1), some (.ref 22), some (.int 1), some (.int (I 16 153)), none, none], [.ref 13, .int (I 16 153), .ref 22], 0, 0, (mSH, I, L))) rfl (by decide) ?_
    refine mB 1 (s2 := (d + 2, 65, 51, [some (.ref 10), some (.int 1), some (.ref 22), some (.int 1), some (.int (I 16 153)), none, none], [.int 153, .ref 13, .int (I 16 153), .ref 22], 0, 0, (mSH, I, L))) rfl ?_
    refine mRq (s2 := (d + 2, 65, 52, [some (.ref 10), some (.int 1), some (.ref 22), some (.int 1), some (.int (I 16 153)), none, none], [.int (I 13 153), .int (I 16 153), .ref 22], 0, 0, (mSH, I, L))) rfl (by decide) ?_
    refine mCall (s2 := (d + 1, 14, 0, [some (.ref 22), some (.int (I 16 153)), some (.int (I 13 153))], [], 0, 0, (mSH, I, L))) rfl ?_
    refine mB 8 (s2 := (d + 1, 14, 14, [some (.ref 22), some (.int (I 16 153)), some (.int (I 13 153))], [.ref 23], 0, 0, (mSH, (mUp (mUp I 22 2 (I 16 153)) 22 3 (I 13 153)), L))) rfl ?_
    refine mCall (s2 := (d, 45, 0, [some (.ref 23), none], [], 0, 0, (mSH, (mUp (mUp I 22 2 (I 16 153)) 22 3 (I 13 153)), L))) rfl ?_
    refine mB 7 (s2 := (d, 45, 11, [some (.ref 23), some (.int (I 23 1))], [.int (I 23 1)], 0, 0, (mSH, (mUp (mUp (mUp I 22 2 (I 16 153)) 22 3 (I 13 153)) 23 1 0), L))) rfl ?_
    refine mRt (r := (some (.int (I 23 1)))) (h := (mSH, (mUp (mUp (mUp I 22 2 (I 16 153)) 22 3 (I 13 153)) 23 1 0), L)) rfl (mRet_int rfl) ?_
    show mWP mTb_ mFT ro (d + 1, 14, 17, [some (.ref 22), some (.int (I 16 153)), some (.int (I 13 153))], [.int (I 23 1)], 0, 0, (mSH, (mUp (mUp (mUp I 22 2 (I 16 153)) 22 3 (I 13 153)) 23 1 0), L)) _
    refine mB 1 (s2 := (d + 1, 14, 18, [some (.ref 22), some (.int (I 16 153)), some (.int (I 13 153))], [], 0, 0, (mSH, (mUp (mUp (mUp I 22 2 (I 16 153)) 22 3 (I 13 153)) 23 1 0), L))) rfl ?_
    refine mRt (r := none) (h := (mSH, (mUp (mUp (mUp I 22 2 (I 16 153)) 22 3 (I 13 153)) 23 1 0), L)) rfl rfl ?_
    show mWP mTb_ mFT ro (d + 2, 65, 55, [some (.ref 10), some (.int 1), some (.ref 22), some (.int 1), some (.int (I 16 153)), none, none], [], 0, 0, (mSH, (mUp (mUp (mUp I 22 2 (I 16 153)) 22 3 (I 13 153)) 23 1 0), L)) _
    refine mB 3 (s2 := (d + 2, 65, 60, [some (.ref 10), some (.int 1), some (.ref 22), some (.int 1), some (.int (I 16 153)), none, none], [.int 1, .ref 17], 0, 0, (mSH, (mUp (mUp (mUp I 22 2 (I 16 153)) 22 3 (I 13 153)) 23 1 0), L))) rfl ?_
    refine mRq (s2 := (d + 2, 65, 61, [some (.ref 10), some (.int 1), some (.ref 22), some (.int 1), some (.int (I 16 153)), none, none], [.ref 19], 0, 0, (mSH, (mUp (mUp (mUp I 22 2 (I 16 153)) 22 3 (I 13 153)) 23 1 0), L))) rfl (by decide) ?_
    refine mB 1 (s2 := (d + 2, 65, 64, [some (.ref 10), some (.int 1), some (.ref 22), some (.int 1), some (.int (I 16 153)), none, none], [.int 153, .ref 19], 0, 0, (mSH, (mUp (mUp (mUp I 22 2 (I 16 153)) 22 3 (I 13 153)) 23 1 0), L))) rfl ?_
    refine mRq (s2 := (d + 2, 65, 65, [some (.ref 10), some (.int 1), some (.ref 22), some (.int 1), some (.int (I 16 153)), none, none], [.int (I 19 153)], 0, 0, (mSH, (mUp (mUp (mUp I 22 2 (I 16 153)) 22 3 (I 13 153)) 23 1 0), L))) rfl (by decide) ?_
    refine mB 3 (s2 := (d + 2, 65, 69, [some (.ref 10), some (.int 1), some (.ref 22), some (.int (I 19 153)), some (.int (I 16 153)), some (.int 0), none], [], 0, 0, (mSH, (mUp (mUp (mUp I 22 2 (I 16 153)) 22 3 (I 13 153)) 23 1 0), L))) rfl ?_
    exact h2 (of_decide_eq_false c0)
/-- where the way goes on -/
def bs_On (T : ct_S) (B : ct_B) (kd g pe : Nat) (j i : Nat) (p : Int32) (suf : List Nat) : Prop := (p = 0 ∧ (bt_top (bt_al (ct_cc T B kd g pe) (T.1.2.1 - j) j i)).1.1 < bt_U ∧ suf = (bt_top (bt_al (ct_cc T B kd g pe) (T.1.2.1 - j) j i)).1.2) ∨ (p = 1 ∧ (bt_top (bt_al (ct_cc T B kd g pe) (T.1.2.1 - j) j i)).2.1.1 < bt_U ∧ suf = (bt_top (bt_al (ct_cc T B kd g pe) (T.1.2.1 - j) j i)).2.1.2)
section TX
variable {ro : Nat → Nat × (Nat → Int32)} {Q : mPo} {d : Nat} {L : Nat → Nat → Int64} {T : ct_S} {B : ct_B} {kd g pe : Nat} {I0 : Nat → Nat → Int32} {w : Int32}
theorem bs_On.lt {j i : Nat} {p : Int32} {suf : List Nat} (hT : ct_So T) (hg : ct_Jo g pe) (hj : j < T.1.2.1) (h : bs_On T B kd g pe j i p suf) : i < T.1.1 := by
  rcases Nat.lt_or_ge i T.1.1 with z | z
  · exact z
  · exfalso
    have e : T.1.2.1 - j = (T.1.2.1 - j - 1) + 1 := by omega
    unfold bs_On at h
    rw [e, bt_al_e hT hg z] at h
    rcases h with ⟨_, h, _⟩ | ⟨_, h, _⟩ <;> exact absurd h (Nat.lt_irrefl _)
theorem l_tx (hT : ct_So T) (hg : ct_Jo g pe) (h4 : I0 4 1 = nI T.1.2.1) (hG : ∀ a b, a ≤ T.1.2.1 → b ≤ T.1.1 → bs_G T B kd g pe I0 a b) {ps : List Nat} (hl : ps.length = T.1.2.1) {M : Nat → Int32} (hq : ∀ J, mFr mSM I0 J → J 22 = M → J 23 1 = nI T.1.2.1 → (∀ k, k < T.1.2.1 → J 24 k = nI (bt_bl ps k)) → Q (some (.int 1)) (mSH, J, L)) : ∀ (e j : Nat), j + e = T.1.2.1 → ∀ (i : Nat) (p : Int32) (pre suf : List Nat) (I : Nat → Nat → Int32) (o6 : Option Value), pre.length = j → pre ++ suf = ps → bs_On T B kd g pe j i p suf → mFr mSM I0 I → I 22 = M → I 23 1 = nI j → (∀ k, k < j → I 24 k = nI (bt_bl ps k)) → mWP mTb_ mFT ro (d + 2, 65, 69, [some (.ref 10), some (.int w), some (.ref 22), some (.int (p)), some (.int (nI i)), some (.int (nI j)), o6], [], 0, 0, (mSH, I, L)) Q := by
  have s16 := hT.1
  have n8 := hT.2.1
  intro e
  induction e with
  | zero =>
    intro j he i p pre suf I o6 hp1 hp2 hon F hM h23 h24
    have ej : j = T.1.2.1 := by omega
    subst ej
    have z : I 4 1 ≤ nI T.1.2.1 := by
      rw [F 4 rfl, h4]
      exact nI_le (Nat.le_refl _) (by omega)
    rcases hon with ⟨e, _, _⟩ | ⟨e, _, _⟩ <;> subst e
    · apply s_tx_0 (fun c => absurd z c) (fun c => absurd z c) <;> intros <;> first | exact hq I F hM h23 h24 | exact absurd z (by assumption)
    · apply s_tx_1 (fun c => absurd z c) (fun c => absurd z c) <;> intros <;> first | exact hq I F hM h23 h24 | exact absurd z (by assumption)
  | succ e ih =>
    intro j he i p pre suf I o6 hp1 hp2 hon F hM h23 h24
    have hj : j < T.1.2.1 := by omega
    have hi := hon.lt hT hg hj
    have z : ¬ I 4 1 ≤ nI j := by
      rw [F 4 rfl, h4]
      exact nI_ge (by omega) (by omega)
    have c3 : I 23 1 < 8 := by
      rw [h23]
      exact nI_lt (b := 8) (by omega) (by omega)
    have vx : vp_in (nI (j * 17 + i)) 154 := vp_in_nI (by omega) (by omega)
    have v8 : vp_in (I 23 1) 8 := by
      rw [h23]
      exact vp_in_nI (by omega) (by omega)
    have cx : (nI (j * 17 + i)).toNatClampNeg = j * 17 + i := nI_clamp (by omega)
    have c23 : (I 23 1).toNatClampNeg = j := by rw [h23, nI_clamp (by omega)]
    have G := (hG j i (by omega) (by omega)).2 hj
    have go : ∀ (st rk : Int32), bs_L (bs_nx (ct_cc T B kd g pe) (T.1.2.1 - j - 1) j i) bs_st st rk suf → mWP mTb_ mFT ro (d + 2, 65, 69, [some (.ref 10), some (.int w), some (.ref 22), some (.int rk), some (.int (nI i + st)), some (.int (nI j + 1)), some (.int (nI (j * 17 + i)))], [], 0, 0, (mSH, (mUp (mUp I 24 j st) 23 1 (nI j + 1)), L)) Q := fun st rk hb => by
      obtain ⟨a, ps', e1, e2, e3⟩ := hb
      have er : T.1.2.1 - (j + 1) = T.1.2.1 - j - 1 := by omega
      have ga : ps.getD j 0 = a := by
        rw [← hp2, e1, ← hp1, List.getD_eq_getElem?_getD, List.getElem?_append_right (Nat.le_refl _), Nat.sub_self]
        rfl
      rw [e2, nI_1]
      show mWP mTb_ mFT ro (d + 2, 65, 69, [some (.ref 10), some (.int w), some (.ref 22), some (.int rk), some (.int (nI i + nI (2 * a + 1))), some (.int (nI (j + 1))), some (.int (nI (j * 17 + i)))], [], 0, 0, (mSH, (mUp (mUp I 24 j (nI (2 * a + 1))) 23 1 (nI (j + 1))), L)) Q
      rw [nI_add]
      refine ih (j + 1) (by omega) (i + (2 * a + 1)) rk (pre ++ [a]) ps' _ _ (by rw [List.length_append, hp1]; rfl) (by rw [List.append_assoc, ← hp2, e1]; rfl) ?_ (mFr.up (by rfl) (mFr.up (by rfl) F)) hM mUp_same (fun k hk => ?_)
      · unfold bs_On
        rw [er]
        exact e3
      · rw [mUp_row (by omega)]
        rcases Nat.lt_or_ge k j with y | y
        · rw [mUp_oth (by omega)]
          exact h24 k y
        · have ek : k = j := by omega
          subst ek
          rw [mUp_same]
          unfold bt_bl
          rw [ga]
    rcases hon with ⟨e, k1, k2⟩ | ⟨e, k1, k2⟩ <;> subst e
    · have hb := G.1.2.2.1 k1
      rw [← k2] at hb
      have y := go _ _ hb
      apply s_tx_0 (fun _ => by omega) (fun _ => by omega) <;> intros <;> first | exact absurd (by assumption) z | exact vx | exact v8 | exact absurd c3 (by assumption) | (rw [cx, c23, h23, F 15 rfl, F 18 rfl]; exact y)
    · have hb := G.1.2.2.2 k1
      rw [← k2] at hb
      have y := go _ _ hb
      apply s_tx_1 (fun _ => by omega) (fun _ => by omega) <;> intros <;> first | exact absurd (by assumption) z | exact vx | exact v8 | exact absurd c3 (by assumption) | (rw [cx, c23, h23, F 16 rfl, F 19 rfl]; exact y)
end TX
/-- the root is as it must be, with layers or without -/
theorem bs_W.n {T : ct_S} {B : ct_B} {kd g pe : Nat} {I : Nat → Nat → Int32} (h : bs_W T B kd g pe I) : bs_N I 153 (bt_top (bt_Rt (ct_cc T B kd g pe) T.1.2.1 T.1.1)) := by
  unfold bt_Rt
  by_cases e : T.1.2.1 = 0
  · rw [if_pos e]
    exact h.1 e 153 (by omega)
  · rw [if_neg e]
    exact (h.2 (by omega)).2.n
theorem x_traces_0 {ro : Nat → Nat × (Nat → Int32)} {Q : mPo} {d : Nat} {I : Nat → Nat → Int32} {L : Nat → Nat → Int64} {T : ct_S} {B : ct_B} {kd g pe : Nat} (hT : ct_So T) (hg : ct_Jo g pe) (h4 : I 4 1 = nI T.1.2.1) (hW : bs_W T B kd g pe I) (q0 : ¬ (bt_top (bt_Rt (ct_cc T B kd g pe) T.1.2.1 T.1.1)).1.1 < bt_U → Q (some (.int 0)) (mSH, I, L)) (q1 : (bt_top (bt_Rt (ct_cc T B kd g pe) T.1.2.1 T.1.1)).1.1 < bt_U → ∀ J, mFr mSM I J → cl_M T.1.2.1 (bt_top (bt_Rt (ct_cc T B kd g pe) T.1.2.1 T.1.1)).1 J → Q (some (.int 1)) (mSH, J, L)) : mWP mTb_ mFT ro (d + 2, 65, 0, [some (.ref 10), some (.int 0), some (.ref 22), none, none, none, none], [], 0, 0, (mSH, I, L)) Q := by
  have hV := ct_ccb (B := B) (kd := kd) hT hg
  have hcs : ∀ j i p v, ct_cc T B kd g pe j i p = some v → i + (2 * p + 1) ≤ T.1.1 := fun j i p v h => (ct_ccs hT hg h).1
  have U31 := bt_Ul
  have ok : bt_ok 0 (bt_top (bt_Rt (ct_cc T B kd g pe) T.1.2.1 T.1.1)) := bt_topok (fun x hx => by have := bt_Rt_b hV hT.2.1 x hx; omega)
  have hN := hW.n
  have hz : I 12 153 = 1000000000 ↔ (bt_top (bt_Rt (ct_cc T B kd g pe) T.1.2.1 T.1.1)).1.1 = bt_U := by
    rw [hN.1.1, ← bt_Ue]
    exact nI_eq (by have := ok.le1; omega) U31
  refine s_t0_0 (fun c => q0 (by have := hz.mp c; omega)) (fun c => ?_)
  have lt : (bt_top (bt_Rt (ct_cc T B kd g pe) T.1.2.1 T.1.1)).1.1 < bt_U := by
    have := mt hz.mpr c
    have := ok.le1
    omega
  obtain ⟨⟨f, ps, v1, v2, v3⟩, n0⟩ := bt_Rt_v hV hcs _ ((bt_top_m _).1 lt)
  have G := (hW.2 n0).2
  have eR : bt_Rt (ct_cc T B kd g pe) T.1.2.1 T.1.1 = bt_rt (ct_cc T B kd g pe) T.1.2.1 T.1.1 := if_neg (by omega)
  have hx := q1 lt
  have h12 := hN.1.1
  rw [eR] at lt v1 hx h12
  obtain ⟨a, ps', e1, e2, e3⟩ := G.1.2.2.1 lt
  rw [v1] at e1
  obtain ⟨ea, ep⟩ := List.cons.inj e1
  subst ea
  subst ep
  have e2 : I 15 153 = nI f := e2
  rw [e2]
  refine l_tx hT hg h4 (hW.2 n0).1 v2 (fun J F hM h23 h24 => hx J F ⟨?_, h23, f, ps, v1, v2, ?_, h24⟩) T.1.2.1 0 (by omega) f (I 18 153) [] ps _ _ rfl rfl ?_ (mFr.up (by rfl) (mFr.up (by rfl) (mFr.up (by rfl) mFr.rf))) rfl rfl (fun k hk => absurd hk (Nat.not_lt_zero k))
  · rw [hM]
    exact h12
  · rw [hM]
    rfl
  · exact e3
theorem x_traces_1 {ro : Nat → Nat × (Nat → Int32)} {Q : mPo} {d : Nat} {I : Nat → Nat → Int32} {L : Nat → Nat → Int64} {T : ct_S} {B : ct_B} {kd g pe : Nat} (hT : ct_So T) (hg : ct_Jo g pe) (h4 : I 4 1 = nI T.1.2.1) (hW : bs_W T B kd g pe I) (q0 : ¬ (bt_top (bt_Rt (ct_cc T B kd g pe) T.1.2.1 T.1.1)).2.1.1 < bt_U → Q (some (.int 0)) (mSH, I, L)) (q1 : (bt_top (bt_Rt (ct_cc T B kd g pe) T.1.2.1 T.1.1)).2.1.1 < bt_U → ∀ J, mFr mSM I J → cl_M T.1.2.1 (bt_top (bt_Rt (ct_cc T B kd g pe) T.1.2.1 T.1.1)).2.1 J → Q (some (.int 1)) (mSH, J, L)) : mWP mTb_ mFT ro (d + 2, 65, 0, [some (.ref 10), some (.int 1), some (.ref 22), none, none, none, none], [], 0, 0, (mSH, I, L)) Q := by
  have hV := ct_ccb (B := B) (kd := kd) hT hg
  have hcs : ∀ j i p v, ct_cc T B kd g pe j i p = some v → i + (2 * p + 1) ≤ T.1.1 := fun j i p v h => (ct_ccs hT hg h).1
  have U31 := bt_Ul
  have ok : bt_ok 0 (bt_top (bt_Rt (ct_cc T B kd g pe) T.1.2.1 T.1.1)) := bt_topok (fun x hx => by have := bt_Rt_b hV hT.2.1 x hx; omega)
  have hN := hW.n
  have hz : I 13 153 = 1000000000 ↔ (bt_top (bt_Rt (ct_cc T B kd g pe) T.1.2.1 T.1.1)).2.1.1 = bt_U := by
    rw [hN.1.2, ← bt_Ue]
    exact nI_eq (by have := ok.le2; omega) U31
  refine s_t0_1 (fun c => q0 (by have := hz.mp c; omega)) (fun c => ?_)
  have lt : (bt_top (bt_Rt (ct_cc T B kd g pe) T.1.2.1 T.1.1)).2.1.1 < bt_U := by
    have := mt hz.mpr c
    have := ok.le2
    omega
  obtain ⟨⟨f, ps, v1, v2, v3⟩, n0⟩ := bt_Rt_v hV hcs _ ((bt_top_m _).2 lt)
  have G := (hW.2 n0).2
  have eR : bt_Rt (ct_cc T B kd g pe) T.1.2.1 T.1.1 = bt_rt (ct_cc T B kd g pe) T.1.2.1 T.1.1 := if_neg (by omega)
  have hx := q1 lt
  have h12 := hN.1.2
  rw [eR] at lt v1 hx h12
  obtain ⟨a, ps', e1, e2, e3⟩ := G.1.2.2.2 lt
  rw [v1] at e1
  obtain ⟨ea, ep⟩ := List.cons.inj e1
  subst ea
  subst ep
  have e2 : I 16 153 = nI f := e2
  rw [e2]
  refine l_tx hT hg h4 (hW.2 n0).1 v2 (fun J F hM h23 h24 => hx J F ⟨?_, h23, f, ps, v1, v2, ?_, h24⟩) T.1.2.1 0 (by omega) f (I 19 153) [] ps _ _ rfl rfl ?_ (mFr.up (by rfl) (mFr.up (by rfl) (mFr.up (by rfl) mFr.rf))) rfl rfl (fun k hk => absurd hk (Nat.not_lt_zero k))
  · rw [hM]
    exact h12
  · rw [hM]
    rfl
  · exact e3
