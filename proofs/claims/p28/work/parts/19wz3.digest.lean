/-! digest, exactly. Written by a program (wip/mk_c.py). -/
def dg_f (x : Int64) (f : Nat → Int32) : Nat → Int64
  | 0 => x
  | k + 1 => (31 * dg_f x f k) + (f k).toInt64
def dg_t (tv : Nat → Int32) : Int64 := ((31 * ((31 * ((31 * ((31 * ((31 * ((31 * ((31 * ((31 * ((31 * (62093 + (tv 0).toInt64)) + (tv 1).toInt64)) + (tv 2).toInt64)) + (tv 3).toInt64)) + (tv 4).toInt64)) + (tv 5).toInt64)) + (tv 6).toInt64)) + (tv 7).toInt64)) + (tv 8).toInt64)) + (tv 9).toInt64)
def dg_e (x : Int64) (b : Nat → Int32) (p q : Int64) (e : Int32) : Int64 := ((31 * ((31 * ((31 * ((31 * ((31 * ((31 * ((31 * x) + (b 0).toInt64)) + (b 1).toInt64)) + (b 2).toInt64)) + (b 3).toInt64)) + p)) + q)) + e.toInt64)
/-- what digest answers -/
def dg_all (tv y l b : Nat → Int32) (s n : Nat) (p q : Int64) (e : Int32) : Int64 := dg_e (dg_f (dg_f (dg_t tv) y s) l n) b p q e
theorem dg_fc {x : Int64} {f g : Nat → Int32} : ∀ n, (∀ k, k < n → f k = g k) → dg_f x f n = dg_f x g n
  | 0, _ => rfl
  | n + 1, h => by
    show (31 * dg_f x f n) + (f n).toInt64 = (31 * dg_f x g n) + (g n).toInt64
    rw [dg_fc n (fun k hk => h k (by omega)), h n (by omega)]
theorem dg_tc {f g : Nat → Int32} (h : ∀ k, k < 10 → f k = g k) : dg_t f = dg_t g := by
  unfold dg_t
  rw [h 0 (by omega), h 1 (by omega), h 2 (by omega), h 3 (by omega), h 4 (by omega), h 5 (by omega), h 6 (by omega), h 7 (by omega), h 8 (by omega), h 9 (by omega)]
theorem dg_allc {tv tv2 y y2 l l2 b b2 : Nat → Int32} {s n : Nat} {p q p2 q2 : Int64} {e : Int32} (h1 : ∀ k, k < 10 → tv k = tv2 k) (h2 : ∀ k, k < s → y k = y2 k) (h3 : ∀ k, k < n → l k = l2 k) (h4 : ∀ k, k < 4 → b k = b2 k) (h5 : p = p2) (h6 : q = q2) : dg_all tv y l b s n p q e = dg_all tv2 y2 l2 b2 s n p2 q2 e := by
  unfold dg_all dg_e
  rw [dg_tc h1, dg_fc s h2, dg_fc n h3, h4 0 (by omega), h4 1 (by omega), h4 2 (by omega), h4 3 (by omega), h5, h6]
theorem l_mixx_2 {ro : Nat → Nat × (Nat → Int32)} {Q : mPo} {d : Nat} {I : Nat → Nat → Int32} {L : Nat → Nat → Int64} {v : Int64} {n : Nat} (h1 : I 2 1 = nI n) (hn : n ≤ 16) (hq : Q (some (.long (dg_f v (I 3) n))) (mSH, I, L)) : ∀ (f k : Nat), k + f = n → mWP mTb_ mFT ro (d, 49, 5, [some (.ref 2), some (.long v), none, some (.long (dg_f v (I 3) k)), none, some (.int (nI k))], [], 0, 0, (mSH, I, L)) Q
  | 0, k, hk => by
    have ek : k = n := by omega
    subst ek
    have z : I 2 1 ≤ nI k := by
      rw [h1]
      exact nI_le (Nat.le_refl _) (by omega)
    exact s_mixed_2 (fun _ => hq) (fun c => absurd z c) (fun c => absurd z c)
  | f + 1, k, hk => by
    have z : ¬ I 2 1 ≤ nI k := by
      rw [h1]
      exact nI_ge (by omega) (by omega)
    refine s_mixed_2 (fun c => absurd c z) (fun _ => vp_in_nI (by omega) (by omega)) (fun _ => ?_)
    rw [nI_clamp (by omega), nI_1]
    exact l_mixx_2 h1 hn hq f (k + 1) (by omega)
theorem x_mix_2 {ro : Nat → Nat × (Nat → Int32)} {Q : mPo} {d : Nat} {I : Nat → Nat → Int32} {L : Nat → Nat → Int64} {v : Int64} {n : Nat} (h1 : I 2 1 = nI n) (hn : n ≤ 16) (hq : Q (some (.long (dg_f v (I 3) n))) (mSH, I, L)) : mWP mTb_ mFT ro (d, 49, 0, [some (.ref 2), some (.long v), none, none, none, none], [], 0, 0, (mSH, I, L)) Q :=
  mB 4 (s2 := (d, 49, 5, [some (.ref 2), some (.long v), none, some (.long (v)), none, some (.int (0))], [], 0, 0, (mSH, I, L))) rfl (l_mixx_2 h1 hn hq n 0 (by omega))
theorem l_mixx_4 {ro : Nat → Nat × (Nat → Int32)} {Q : mPo} {d : Nat} {I : Nat → Nat → Int32} {L : Nat → Nat → Int64} {v : Int64} {n : Nat} (h1 : I 4 1 = nI n) (hn : n ≤ 8) (hq : Q (some (.long (dg_f v (I 5) n))) (mSH, I, L)) : ∀ (f k : Nat), k + f = n → mWP mTb_ mFT ro (d, 49, 5, [some (.ref 4), some (.long v), none, some (.long (dg_f v (I 5) k)), none, some (.int (nI k))], [], 0, 0, (mSH, I, L)) Q
  | 0, k, hk => by
    have ek : k = n := by omega
    subst ek
    have z : I 4 1 ≤ nI k := by
      rw [h1]
      exact nI_le (Nat.le_refl _) (by omega)
    exact s_mixed_4 (fun _ => hq) (fun c => absurd z c) (fun c => absurd z c)
  | f + 1, k, hk => by
    have z : ¬ I 4 1 ≤ nI k := by
      rw [h1]
      exact nI_ge (by omega) (by omega)
    refine s_mixed_4 (fun c => absurd c z) (fun _ => vp_in_nI (by omega) (by omega)) (fun _ => ?_)
    rw [nI_clamp (by omega), nI_1]
    exact l_mixx_4 h1 hn hq f (k + 1) (by omega)
theorem x_mix_4 {ro : Nat → Nat × (Nat → Int32)} {Q : mPo} {d : Nat} {I : Nat → Nat → Int32} {L : Nat → Nat → Int64} {v : Int64} {n : Nat} (h1 : I 4 1 = nI n) (hn : n ≤ 8) (hq : Q (some (.long (dg_f v (I 5) n))) (mSH, I, L)) : mWP mTb_ mFT ro (d, 49, 0, [some (.ref 4), some (.long v), none, none, none, none], [], 0, 0, (mSH, I, L)) Q :=
  mB 4 (s2 := (d, 49, 5, [some (.ref 4), some (.long v), none, some (.long (v)), none, some (.int (0))], [], 0, 0, (mSH, I, L))) rfl (l_mixx_4 h1 hn hq n 0 (by omega))
theorem z_digestE {ro : Nat → Nat × (Nat → Int32)} {Q : mPo} {d : Nat} {I : Nat → Nat → Int32} {L : Nat → Nat → Int64} {T : ct_S} {B : ct_B} {kd g pe : Nat} (hI : mIC I) (hO : pm_O T B kd g pe) (hC : pm_C T B kd g pe I) (hq : ∀ r I1, mFr mSQ3 I I1 → mIC I1 → r = dg_all (tvC I) (I 3) (I 5) (I 6) T.1.1 T.1.2.1 (I 25 0).toInt64 (I 25 1).toInt64 (an_s (an_W T B kd g pe).1.1) → Q (some (.long r)) (mSH, I1, L))   : mWP mTb_ mFT ro (d + 7, 102, 0, [some (.ref 0), none, none, none], [], 0, 0, (mSH, I, L)) Q := by
  refine mB 6 (s2 := (d + 7, 102, 9, [some (.ref 0), some (.long 2003), none, some (.int 0)], [.int 9, .int 0], 0, 0, (mSH, I, L))) rfl ?_
  refine mBF (s3 := (d + 7, 102, 12, [some (.ref 0), some (.long 2003), none, some (.int 0)], [], 0, 0, (mSH, I, L))) rfl (by decide) ?_
  refine mB 5 (s2 := (d + 7, 102, 19, [some (.ref 0), some (.long 2003), none, some (.int 0)], [.int 0, .ref 0, .long 62093], 0, 0, (mSH, I, L))) rfl ?_
  refine mCall (s2 := (d + 6, 107, 0, [some (.ref 0), some (.int 0)], [], 0, 0, (mSH, I, L))) rfl ?_
  refine mB 1 (s2 := (d + 6, 107, 1, [some (.ref 0), some (.int 0)], [.int 0], 0, 0, (mSH, I, L))) rfl ?_
  refine mSw1 (t := (d + 6, 107, 44, [some (.ref 0), some (.int 0)], [], 0, 0, (mSH, I, L))) rfl rfl ?_
  refine mB 2 (s2 := (d + 6, 107, 48, [some (.ref 0), some (.int 0)], [.int (I 0 9)], 0, 0, (mSH, I, L))) rfl ?_
  refine mRt (r := (some (.int (I 0 9)))) (h := (mSH, I, L)) rfl (mRet_int rfl) ?_
  show mWP mTb_ mFT ro (d + 7, 102, 22, [some (.ref 0), some (.long 2003), none, some (.int 0)], [.int (I 0 9), .long 62093], 0, 0, (mSH, I, L)) _
  refine mB 7 (s2 := (d + 7, 102, 9, [some (.ref 0), some (.long (62093 + ((I 0 9 : Int32).toInt64))), none, some (.int 1)], [.int 9, .int 1], 0, 0, (mSH, I, L))) rfl ?_
  refine mBF (s3 := (d + 7, 102, 12, [some (.ref 0), some (.long (62093 + ((I 0 9 : Int32).toInt64))), none, some (.int 1)], [], 0, 0, (mSH, I, L))) rfl (by decide) ?_
  refine mB 5 (s2 := (d + 7, 102, 19, [some (.ref 0), some (.long (62093 + ((I 0 9 : Int32).toInt64))), none, some (.int 1)], [.int 1, .ref 0, .long (31 * (62093 + ((I 0 9 : Int32).toInt64)))], 0, 0, (mSH, I, L))) rfl ?_
  refine mCall (s2 := (d + 6, 107, 0, [some (.ref 0), some (.int 1)], [], 0, 0, (mSH, I, L))) rfl ?_
  refine mB 1 (s2 := (d + 6, 107, 1, [some (.ref 0), some (.int 1)], [.int 1], 0, 0, (mSH, I, L))) rfl ?_
  refine mSw1 (t := (d + 6, 107, 49, [some (.ref 0), some (.int 1)], [], 0, 0, (mSH, I, L))) rfl rfl ?_
  refine mB 2 (s2 := (d + 6, 107, 53, [some (.ref 0), some (.int 1)], [.int (I 0 10)], 0, 0, (mSH, I, L))) rfl ?_
  refine mRt (r := (some (.int (I 0 10)))) (h := (mSH, I, L)) rfl (mRet_int rfl) ?_
  show mWP mTb_ mFT ro (d + 7, 102, 22, [some (.ref 0), some (.long (62093 + ((I 0 9 : Int32).toInt64))), none, some (.int 1)], [.int (I 0 10), .long (31 * (62093 + ((I 0 9 : Int32).toInt64)))], 0, 0, (mSH, I, L)) _
  refine mB 7 (s2 := (d + 7, 102, 9, [some (.ref 0), some (.long ((31 * (62093 + ((I 0 9 : Int32).toInt64))) + ((I 0 10 : Int32).toInt64))), none, some (.int 2)], [.int 9, .int 2], 0, 0, (mSH, I, L))) rfl ?_
  refine mBF (s3 := (d + 7, 102, 12, [some (.ref 0), some (.long ((31 * (62093 + ((I 0 9 : Int32).toInt64))) + ((I 0 10 : Int32).toInt64))), none, some (.int 2)], [], 0, 0, (mSH, I, L))) rfl (by decide) ?_
  refine mB 5 (s2 := (d + 7, 102, 19, [some (.ref 0), some (.long ((31 * (62093 + ((I 0 9 : Int32).toInt64))) + ((I 0 10 : Int32).toInt64))), none, some (.int 2)], [.int 2, .ref 0, .long (31 * ((31 * (62093 + ((I 0 9 : Int32).toInt64))) + ((I 0 10 : Int32).toInt64)))], 0, 0, (mSH, I, L))) rfl ?_
  refine mCall (s2 := (d + 6, 107, 0, [some (.ref 0), some (.int 2)], [], 0, 0, (mSH, I, L))) rfl ?_
  refine mB 1 (s2 := (d + 6, 107, 1, [some (.ref 0), some (.int 2)], [.int 2], 0, 0, (mSH, I, L))) rfl ?_
  refine mSw1 (t := (d + 6, 107, 54, [some (.ref 0), some (.int 2)], [], 0, 0, (mSH, I, L))) rfl rfl ?_
  refine mB 2 (s2 := (d + 6, 107, 58, [some (.ref 0), some (.int 2)], [.int (I 0 11)], 0, 0, (mSH, I, L))) rfl ?_
  refine mRt (r := (some (.int (I 0 11)))) (h := (mSH, I, L)) rfl (mRet_int rfl) ?_
  show mWP mTb_ mFT ro (d + 7, 102, 22, [some (.ref 0), some (.long ((31 * (62093 + ((I 0 9 : Int32).toInt64))) + ((I 0 10 : Int32).toInt64))), none, some (.int 2)], [.int (I 0 11), .long (31 * ((31 * (62093 + ((I 0 9 : Int32).toInt64))) + ((I 0 10 : Int32).toInt64)))], 0, 0, (mSH, I, L)) _
  refine mB 7 (s2 := (d + 7, 102, 9, [some (.ref 0), some (.long ((31 * ((31 * (62093 + ((I 0 9 : Int32).toInt64))) + ((I 0 10 : Int32).toInt64))) + ((I 0 11 : Int32).toInt64))), none, some (.int 3)], [.int 9, .int 3], 0, 0, (mSH, I, L))) rfl ?_
  refine mBF (s3 := (d + 7, 102, 12, [some (.ref 0), some (.long ((31 * ((31 * (62093 + ((I 0 9 : Int32).toInt64))) + ((I 0 10 : Int32).toInt64))) + ((I 0 11 : Int32).toInt64))), none, some (.int 3)], [], 0, 0, (mSH, I, L))) rfl (by decide) ?_
  refine mB 5 (s2 := (d + 7, 102, 19, [some (.ref 0), some (.long ((31 * ((31 * (62093 + ((I 0 9 : Int32).toInt64))) + ((I 0 10 : Int32).toInt64))) + ((I 0 11 : Int32).toInt64))), none, some (.int 3)], [.int 3, .ref 0, .long (31 * ((31 * ((31 * (62093 + ((I 0 9 : Int32).toInt64))) + ((I 0 10 : Int32).toInt64))) + ((I 0 11 : Int32).toInt64)))], 0, 0, (mSH, I, L))) rfl ?_
  refine mCall (s2 := (d + 6, 107, 0, [some (.ref 0), some (.int 3)], [], 0, 0, (mSH, I, L))) rfl ?_
  refine mB 1 (s2 := (d + 6, 107, 1, [some (.ref 0), some (.int 3)], [.int 3], 0, 0, (mSH, I, L))) rfl ?_
  refine mSw1 (t := (d + 6, 107, 59, [some (.ref 0), some (.int 3)], [], 0, 0, (mSH, I, L))) rfl rfl ?_
  refine mB 2 (s2 := (d + 6, 107, 63, [some (.ref 0), some (.int 3)], [.ref 26], 0, 0, (mSH, I, L))) rfl ?_
  refine mCall (s2 := (d + 5, 39, 0, [some (.ref 26)], [], 0, 0, (mSH, I, L))) rfl ?_
  refine mB 2 (s2 := (d + 5, 39, 4, [some (.ref 26)], [.int (I 26 1)], 0, 0, (mSH, I, L))) rfl ?_
  refine mRt (r := (some (.int (I 26 1)))) (h := (mSH, I, L)) rfl (mRet_int rfl) ?_
  show mWP mTb_ mFT ro (d + 6, 107, 66, [some (.ref 0), some (.int 3)], [.int (I 26 1)], 0, 0, (mSH, I, L)) _
  refine mRt (r := (some (.int (I 26 1)))) (h := (mSH, I, L)) rfl (mRet_int rfl) ?_
  show mWP mTb_ mFT ro (d + 7, 102, 22, [some (.ref 0), some (.long ((31 * ((31 * (62093 + ((I 0 9 : Int32).toInt64))) + ((I 0 10 : Int32).toInt64))) + ((I 0 11 : Int32).toInt64))), none, some (.int 3)], [.int (I 26 1), .long (31 * ((31 * ((31 * (62093 + ((I 0 9 : Int32).toInt64))) + ((I 0 10 : Int32).toInt64))) + ((I 0 11 : Int32).toInt64)))], 0, 0, (mSH, I, L)) _
  refine mB 7 (s2 := (d + 7, 102, 9, [some (.ref 0), some (.long ((31 * ((31 * ((31 * (62093 + ((I 0 9 : Int32).toInt64))) + ((I 0 10 : Int32).toInt64))) + ((I 0 11 : Int32).toInt64))) + ((I 26 1 : Int32).toInt64))), none, some (.int 4)], [.int 9, .int 4], 0, 0, (mSH, I, L))) rfl ?_
  refine mBF (s3 := (d + 7, 102, 12, [some (.ref 0), some (.long ((31 * ((31 * ((31 * (62093 + ((I 0 9 : Int32).toInt64))) + ((I 0 10 : Int32).toInt64))) + ((I 0 11 : Int32).toInt64))) + ((I 26 1 : Int32).toInt64))), none, some (.int 4)], [], 0, 0, (mSH, I, L))) rfl (by decide) ?_
  refine mB 5 (s2 := (d + 7, 102, 19, [some (.ref 0), some (.long ((31 * ((31 * ((31 * (62093 + ((I 0 9 : Int32).toInt64))) + ((I 0 10 : Int32).toInt64))) + ((I 0 11 : Int32).toInt64))) + ((I 26 1 : Int32).toInt64))), none, some (.int 4)], [.int 4, .ref 0, .long (31 * ((31 * ((31 * ((31 * (62093 + ((I 0 9 : Int32).toInt64))) + ((I 0 10 : Int32).toInt64))) + ((I 0 11 : Int32).toInt64))) + ((I 26 1 : Int32).toInt64)))], 0, 0, (mSH, I, L))) rfl ?_
  refine mCall (s2 := (d + 6, 107, 0, [some (.ref 0), some (.int 4)], [], 0, 0, (mSH, I, L))) rfl ?_
  refine mB 1 (s2 := (d + 6, 107, 1, [some (.ref 0), some (.int 4)], [.int 4], 0, 0, (mSH, I, L))) rfl ?_
  refine mSw1 (t := (d + 6, 107, 67, [some (.ref 0), some (.int 4)], [], 0, 0, (mSH, I, L))) rfl rfl ?_
  refine mB 3 (s2 := (d + 6, 107, 74, [some (.ref 0), some (.int 4)], [.ref 2], 0, 0, (mSH, I, L))) rfl ?_
  refine mCall (s2 := (d + 5, 39, 0, [some (.ref 2)], [], 0, 0, (mSH, I, L))) rfl ?_
  refine mB 2 (s2 := (d + 5, 39, 4, [some (.ref 2)], [.int (I 2 1)], 0, 0, (mSH, I, L))) rfl ?_
  refine mRt (r := (some (.int (I 2 1)))) (h := (mSH, I, L)) rfl (mRet_int rfl) ?_
  show mWP mTb_ mFT ro (d + 6, 107, 77, [some (.ref 0), some (.int 4)], [.int (I 2 1)], 0, 0, (mSH, I, L)) _
  refine mRt (r := (some (.int (I 2 1)))) (h := (mSH, I, L)) rfl (mRet_int rfl) ?_
  show mWP mTb_ mFT ro (d + 7, 102, 22, [some (.ref 0), some (.long ((31 * ((31 * ((31 * (62093 + ((I 0 9 : Int32).toInt64))) + ((I 0 10 : Int32).toInt64))) + ((I 0 11 : Int32).toInt64))) + ((I 26 1 : Int32).toInt64))), none, some (.int 4)], [.int (I 2 1), .long (31 * ((31 * ((31 * ((31 * (62093 + ((I 0 9 : Int32).toInt64))) + ((I 0 10 : Int32).toInt64))) + ((I 0 11 : Int32).toInt64))) + ((I 26 1 : Int32).toInt64)))], 0, 0, (mSH, I, L)) _
  refine mB 7 (s2 := (d + 7, 102, 9, [some (.ref 0), some (.long ((31 * ((31 * ((31 * ((31 * (62093 + ((I 0 9 : Int32).toInt64))) + ((I 0 10 : Int32).toInt64))) + ((I 0 11 : Int32).toInt64))) + ((I 26 1 : Int32).toInt64))) + ((I 2 1 : Int32).toInt64))), none, some (.int 5)], [.int 9, .int 5], 0, 0, (mSH, I, L))) rfl ?_
  refine mBF (s3 := (d + 7, 102, 12, [some (.ref 0), some (.long ((31 * ((31 * ((31 * ((31 * (62093 + ((I 0 9 : Int32).toInt64))) + ((I 0 10 : Int32).toInt64))) + ((I 0 11 : Int32).toInt64))) + ((I 26 1 : Int32).toInt64))) + ((I 2 1 : Int32).toInt64))), none, some (.int 5)], [], 0, 0, (mSH, I, L))) rfl (by decide) ?_
  refine mB 5 (s2 := (d + 7, 102, 19, [some (.ref 0), some (.long ((31 * ((31 * ((31 * ((31 * (62093 + ((I 0 9 : Int32).toInt64))) + ((I 0 10 : Int32).toInt64))) + ((I 0 11 : Int32).toInt64))) + ((I 26 1 : Int32).toInt64))) + ((I 2 1 : Int32).toInt64))), none, some (.int 5)], [.int 5, .ref 0, .long (31 * ((31 * ((31 * ((31 * ((31 * (62093 + ((I 0 9 : Int32).toInt64))) + ((I 0 10 : Int32).toInt64))) + ((I 0 11 : Int32).toInt64))) + ((I 26 1 : Int32).toInt64))) + ((I 2 1 : Int32).toInt64)))], 0, 0, (mSH, I, L))) rfl ?_
  refine mCall (s2 := (d + 6, 107, 0, [some (.ref 0), some (.int 5)], [], 0, 0, (mSH, I, L))) rfl ?_
  refine mB 1 (s2 := (d + 6, 107, 1, [some (.ref 0), some (.int 5)], [.int 5], 0, 0, (mSH, I, L))) rfl ?_
  refine mSw1 (t := (d + 6, 107, 78, [some (.ref 0), some (.int 5)], [], 0, 0, (mSH, I, L))) rfl rfl ?_
  refine mB 3 (s2 := (d + 6, 107, 85, [some (.ref 0), some (.int 5)], [.ref 4], 0, 0, (mSH, I, L))) rfl ?_
  refine mCall (s2 := (d + 5, 39, 0, [some (.ref 4)], [], 0, 0, (mSH, I, L))) rfl ?_
  refine mB 2 (s2 := (d + 5, 39, 4, [some (.ref 4)], [.int (I 4 1)], 0, 0, (mSH, I, L))) rfl ?_
  refine mRt (r := (some (.int (I 4 1)))) (h := (mSH, I, L)) rfl (mRet_int rfl) ?_
  show mWP mTb_ mFT ro (d + 6, 107, 88, [some (.ref 0), some (.int 5)], [.int (I 4 1)], 0, 0, (mSH, I, L)) _
  refine mRt (r := (some (.int (I 4 1)))) (h := (mSH, I, L)) rfl (mRet_int rfl) ?_
  show mWP mTb_ mFT ro (d + 7, 102, 22, [some (.ref 0), some (.long ((31 * ((31 * ((31 * ((31 * (62093 + ((I 0 9 : Int32).toInt64))) + ((I 0 10 : Int32).toInt64))) + ((I 0 11 : Int32).toInt64))) + ((I 26 1 : Int32).toInt64))) + ((I 2 1 : Int32).toInt64))), none, some (.int 5)], [.int (I 4 1), .long (31 * ((31 * ((31 * ((31 * ((31 * (62093 + ((I 0 9 : Int32).toInt64))) + ((I 0 10 : Int32).toInt64))) + ((I 0 11 : Int32).toInt64))) + ((I 26 1 : Int32).toInt64))) + ((I 2 1 : Int32).toInt64)))], 0, 0, (mSH, I, L)) _
  refine mB 7 (s2 := (d + 7, 102, 9, [some (.ref 0), some (.long ((31 * ((31 * ((31 * ((31 * ((31 * (62093 + ((I 0 9 : Int32).toInt64))) + ((I 0 10 : Int32).toInt64))) + ((I 0 11 : Int32).toInt64))) + ((I 26 1 : Int32).toInt64))) + ((I 2 1 : Int32).toInt64))) + ((I 4 1 : Int32).toInt64))), none, some (.int 6)], [.int 9, .int 6], 0, 0, (mSH, I, L))) rfl ?_
  refine mBF (s3 := (d + 7, 102, 12, [some (.ref 0), some (.long ((31 * ((31 * ((31 * ((31 * ((31 * (62093 + ((I 0 9 : Int32).toInt64))) + ((I 0 10 : Int32).toInt64))) + ((I 0 11 : Int32).toInt64))) + ((I 26 1 : Int32).toInt64))) + ((I 2 1 : Int32).toInt64))) + ((I 4 1 : Int32).toInt64))), none, some (.int 6)], [], 0, 0, (mSH, I, L))) rfl (by decide) ?_
  refine mB 5 (s2 := (d + 7, 102, 19, [some (.ref 0), some (.long ((31 * ((31 * ((31 * ((31 * ((31 * (62093 + ((I 0 9 : Int32).toInt64))) + ((I 0 10 : Int32).toInt64))) + ((I 0 11 : Int32).toInt64))) + ((I 26 1 : Int32).toInt64))) + ((I 2 1 : Int32).toInt64))) + ((I 4 1 : Int32).toInt64))), none, some (.int 6)], [.int 6, .ref 0, .long (31 * ((31 * ((31 * ((31 * ((31 * ((31 * (62093 + ((I 0 9 : Int32).toInt64))) + ((I 0 10 : Int32).toInt64))) + ((I 0 11 : Int32).toInt64))) + ((I 26 1 : Int32).toInt64))) + ((I 2 1 : Int32).toInt64))) + ((I 4 1 : Int32).toInt64)))], 0, 0, (mSH, I, L))) rfl ?_
  refine mCall (s2 := (d + 6, 107, 0, [some (.ref 0), some (.int 6)], [], 0, 0, (mSH, I, L))) rfl ?_
  refine mB 1 (s2 := (d + 6, 107, 1, [some (.ref 0), some (.int 6)], [.int 6], 0, 0, (mSH, I, L))) rfl ?_
  refine mSw1 (t := (d + 6, 107, 89, [some (.ref 0), some (.int 6)], [], 0, 0, (mSH, I, L))) rfl rfl ?_
  refine mB 3 (s2 := (d + 6, 107, 96, [some (.ref 0), some (.int 6)], [.int (I 1 2)], 0, 0, (mSH, I, L))) rfl ?_
  refine mRt (r := (some (.int (I 1 2)))) (h := (mSH, I, L)) rfl (mRet_int rfl) ?_
  show mWP mTb_ mFT ro (d + 7, 102, 22, [some (.ref 0), some (.long ((31 * ((31 * ((31 * ((31 * ((31 * (62093 + ((I 0 9 : Int32).toInt64))) + ((I 0 10 : Int32).toInt64))) + ((I 0 11 : Int32).toInt64))) + ((I 26 1 : Int32).toInt64))) + ((I 2 1 : Int32).toInt64))) + ((I 4 1 : Int32).toInt64))), none, some (.int 6)], [.int (I 1 2), .long (31 * ((31 * ((31 * ((31 * ((31 * ((31 * (62093 + ((I 0 9 : Int32).toInt64))) + ((I 0 10 : Int32).toInt64))) + ((I 0 11 : Int32).toInt64))) + ((I 26 1 : Int32).toInt64))) + ((I 2 1 : Int32).toInt64))) + ((I 4 1 : Int32).toInt64)))], 0, 0, (mSH, I, L)) _
  refine mB 7 (s2 := (d + 7, 102, 9, [some (.ref 0), some (.long ((31 * ((31 * ((31 * ((31 * ((31 * ((31 * (62093 + ((I 0 9 : Int32).toInt64))) + ((I 0 10 : Int32).toInt64))) + ((I 0 11 : Int32).toInt64))) + ((I 26 1 : Int32).toInt64))) + ((I 2 1 : Int32).toInt64))) + ((I 4 1 : Int32).toInt64))) + ((I 1 2 : Int32).toInt64))), none, some (.int 7)], [.int 9, .int 7], 0, 0, (mSH, I, L))) rfl ?_
  refine mBF (s3 := (d + 7, 102, 12, [some (.ref 0), some (.long ((31 * ((31 * ((31 * ((31 * ((31 * ((31 * (62093 + ((I 0 9 : Int32).toInt64))) + ((I 0 10 : Int32).toInt64))) + ((I 0 11 : Int32).toInt64))) + ((I 26 1 : Int32).toInt64))) + ((I 2 1 : Int32).toInt64))) + ((I 4 1 : Int32).toInt64))) + ((I 1 2 : Int32).toInt64))), none, some (.int 7)], [], 0, 0, (mSH, I, L))) rfl (by decide) ?_
  refine mB 5 (s2 := (d + 7, 102, 19, [some (.ref 0), some (.long ((31 * ((31 * ((31 * ((31 * ((31 * ((31 * (62093 + ((I 0 9 : Int32).toInt64))) + ((I 0 10 : Int32).toInt64))) + ((I 0 11 : Int32).toInt64))) + ((I 26 1 : Int32).toInt64))) + ((I 2 1 : Int32).toInt64))) + ((I 4 1 : Int32).toInt64))) + ((I 1 2 : Int32).toInt64))), none, some (.int 7)], [.int 7, .ref 0, .long (31 * ((31 * ((31 * ((31 * ((31 * ((31 * ((31 * (62093 + ((I 0 9 : Int32).toInt64))) + ((I 0 10 : Int32).toInt64))) + ((I 0 11 : Int32).toInt64))) + ((I 26 1 : Int32).toInt64))) + ((I 2 1 : Int32).toInt64))) + ((I 4 1 : Int32).toInt64))) + ((I 1 2 : Int32).toInt64)))], 0, 0, (mSH, I, L))) rfl ?_
  refine mCall (s2 := (d + 6, 107, 0, [some (.ref 0), some (.int 7)], [], 0, 0, (mSH, I, L))) rfl ?_
  refine mB 1 (s2 := (d + 6, 107, 1, [some (.ref 0), some (.int 7)], [.int 7], 0, 0, (mSH, I, L))) rfl ?_
  refine mSw1 (t := (d + 6, 107, 97, [some (.ref 0), some (.int 7)], [], 0, 0, (mSH, I, L))) rfl rfl ?_
  refine mB 5 (s2 := (d + 6, 107, 105, [some (.ref 0), some (.int 7)], [.int 0, .ref 8], 0, 0, (mSH, I, L))) rfl ?_
  refine mCall (s2 := (d + 5, 10, 0, [some (.ref 8), some (.int 0)], [], 0, 0, (mSH, I, L))) rfl ?_
  refine mB 2 (s2 := (d + 5, 10, 2, [some (.ref 8), some (.int 0)], [.int 0, .ref 8], 0, 0, (mSH, I, L))) rfl ?_
  refine mCall (s2 := (d + 4, 8, 0, [some (.ref 8), some (.int 0)], [], 0, 0, (mSH, I, L))) rfl ?_
  refine mB 1 (s2 := (d + 4, 8, 1, [some (.ref 8), some (.int 0)], [.int 0], 0, 0, (mSH, I, L))) rfl ?_
  refine mBF (s3 := (d + 4, 8, 4, [some (.ref 8), some (.int 0)], [], 0, 0, (mSH, I, L))) rfl (by decide) ?_
  refine mB 4 (s2 := (d + 4, 8, 10, [some (.ref 8), some (.int 0)], [.int 3, .int 0], 0, 0, (mSH, I, L))) rfl ?_
  refine mBF (s3 := (d + 4, 8, 13, [some (.ref 8), some (.int 0)], [], 0, 0, (mSH, I, L))) rfl (by decide) ?_
  refine mB 2 (s2 := (d + 4, 8, 18, [some (.ref 8), some (.int 0)], [.int 1], 0, 0, (mSH, I, L))) rfl ?_
  refine mRt (r := (some (.int 1))) (h := (mSH, I, L)) rfl rfl ?_
  show mWP mTb_ mFT ro (d + 5, 10, 5, [some (.ref 8), some (.int 0)], [.int 1], 0, 0, (mSH, I, L)) _
  refine mBF (s3 := (d + 5, 10, 8, [some (.ref 8), some (.int 0)], [], 0, 0, (mSH, I, L))) rfl (by decide) ?_
  refine mB 3 (s2 := (d + 5, 10, 13, [some (.ref 8), some (.int 0)], [.int 0, .ref 9], 0, 0, (mSH, I, L))) rfl ?_
  refine mRq (s2 := (d + 5, 10, 14, [some (.ref 8), some (.int 0)], [.int (I 9 0)], 0, 0, (mSH, I, L))) rfl (by decide) ?_
  refine mB 1 (s2 := (d + 5, 10, 18, [some (.ref 8), some (.int 0)], [.int (I 9 0)], 0, 0, (mSH, I, L))) rfl ?_
  refine mRt (r := (some (.int (I 9 0)))) (h := (mSH, I, L)) rfl (mRet_int rfl) ?_
  show mWP mTb_ mFT ro (d + 6, 107, 108, [some (.ref 0), some (.int 7)], [.int (I 9 0)], 0, 0, (mSH, I, L)) _
  refine mRt (r := (some (.int (I 9 0)))) (h := (mSH, I, L)) rfl (mRet_int rfl) ?_
  show mWP mTb_ mFT ro (d + 7, 102, 22, [some (.ref 0), some (.long ((31 * ((31 * ((31 * ((31 * ((31 * ((31 * (62093 + ((I 0 9 : Int32).toInt64))) + ((I 0 10 : Int32).toInt64))) + ((I 0 11 : Int32).toInt64))) + ((I 26 1 : Int32).toInt64))) + ((I 2 1 : Int32).toInt64))) + ((I 4 1 : Int32).toInt64))) + ((I 1 2 : Int32).toInt64))), none, some (.int 7)], [.int (I 9 0), .long (31 * ((31 * ((31 * ((31 * ((31 * ((31 * ((31 * (62093 + ((I 0 9 : Int32).toInt64))) + ((I 0 10 : Int32).toInt64))) + ((I 0 11 : Int32).toInt64))) + ((I 26 1 : Int32).toInt64))) + ((I 2 1 : Int32).toInt64))) + ((I 4 1 : Int32).toInt64))) + ((I 1 2 : Int32).toInt64)))], 0, 0, (mSH, I, L)) _
  refine mB 7 (s2 := (d + 7, 102, 9, [some (.ref 0), some (.long ((31 * ((31 * ((31 * ((31 * ((31 * ((31 * ((31 * (62093 + ((I 0 9 : Int32).toInt64))) + ((I 0 10 : Int32).toInt64))) + ((I 0 11 : Int32).toInt64))) + ((I 26 1 : Int32).toInt64))) + ((I 2 1 : Int32).toInt64))) + ((I 4 1 : Int32).toInt64))) + ((I 1 2 : Int32).toInt64))) + ((I 9 0 : Int32).toInt64))), none, some (.int 8)], [.int 9, .int 8], 0, 0, (mSH, I, L))) rfl ?_
  refine mBF (s3 := (d + 7, 102, 12, [some (.ref 0), some (.long ((31 * ((31 * ((31 * ((31 * ((31 * ((31 * ((31 * (62093 + ((I 0 9 : Int32).toInt64))) + ((I 0 10 : Int32).toInt64))) + ((I 0 11 : Int32).toInt64))) + ((I 26 1 : Int32).toInt64))) + ((I 2 1 : Int32).toInt64))) + ((I 4 1 : Int32).toInt64))) + ((I 1 2 : Int32).toInt64))) + ((I 9 0 : Int32).toInt64))), none, some (.int 8)], [], 0, 0, (mSH, I, L))) rfl (by decide) ?_
  refine mB 5 (s2 := (d + 7, 102, 19, [some (.ref 0), some (.long ((31 * ((31 * ((31 * ((31 * ((31 * ((31 * ((31 * (62093 + ((I 0 9 : Int32).toInt64))) + ((I 0 10 : Int32).toInt64))) + ((I 0 11 : Int32).toInt64))) + ((I 26 1 : Int32).toInt64))) + ((I 2 1 : Int32).toInt64))) + ((I 4 1 : Int32).toInt64))) + ((I 1 2 : Int32).toInt64))) + ((I 9 0 : Int32).toInt64))), none, some (.int 8)], [.int 8, .ref 0, .long (31 * ((31 * ((31 * ((31 * ((31 * ((31 * ((31 * ((31 * (62093 + ((I 0 9 : Int32).toInt64))) + ((I 0 10 : Int32).toInt64))) + ((I 0 11 : Int32).toInt64))) + ((I 26 1 : Int32).toInt64))) + ((I 2 1 : Int32).toInt64))) + ((I 4 1 : Int32).toInt64))) + ((I 1 2 : Int32).toInt64))) + ((I 9 0 : Int32).toInt64)))], 0, 0, (mSH, I, L))) rfl ?_
  refine mCall (s2 := (d + 6, 107, 0, [some (.ref 0), some (.int 8)], [], 0, 0, (mSH, I, L))) rfl ?_
  refine mB 1 (s2 := (d + 6, 107, 1, [some (.ref 0), some (.int 8)], [.int 8], 0, 0, (mSH, I, L))) rfl ?_
  refine mSw1 (t := (d + 6, 107, 97, [some (.ref 0), some (.int 8)], [], 0, 0, (mSH, I, L))) rfl rfl ?_
  refine mB 5 (s2 := (d + 6, 107, 105, [some (.ref 0), some (.int 8)], [.int 1, .ref 8], 0, 0, (mSH, I, L))) rfl ?_
  refine mCall (s2 := (d + 5, 10, 0, [some (.ref 8), some (.int 1)], [], 0, 0, (mSH, I, L))) rfl ?_
  refine mB 2 (s2 := (d + 5, 10, 2, [some (.ref 8), some (.int 1)], [.int 1, .ref 8], 0, 0, (mSH, I, L))) rfl ?_
  refine mCall (s2 := (d + 4, 8, 0, [some (.ref 8), some (.int 1)], [], 0, 0, (mSH, I, L))) rfl ?_
  refine mB 1 (s2 := (d + 4, 8, 1, [some (.ref 8), some (.int 1)], [.int 1], 0, 0, (mSH, I, L))) rfl ?_
  refine mBF (s3 := (d + 4, 8, 4, [some (.ref 8), some (.int 1)], [], 0, 0, (mSH, I, L))) rfl (by decide) ?_
  refine mB 4 (s2 := (d + 4, 8, 10, [some (.ref 8), some (.int 1)], [.int 3, .int 1], 0, 0, (mSH, I, L))) rfl ?_
  refine mBF (s3 := (d + 4, 8, 13, [some (.ref 8), some (.int 1)], [], 0, 0, (mSH, I, L))) rfl (by decide) ?_
  refine mB 2 (s2 := (d + 4, 8, 18, [some (.ref 8), some (.int 1)], [.int 1], 0, 0, (mSH, I, L))) rfl ?_
  refine mRt (r := (some (.int 1))) (h := (mSH, I, L)) rfl rfl ?_
  show mWP mTb_ mFT ro (d + 5, 10, 5, [some (.ref 8), some (.int 1)], [.int 1], 0, 0, (mSH, I, L)) _
  refine mBF (s3 := (d + 5, 10, 8, [some (.ref 8), some (.int 1)], [], 0, 0, (mSH, I, L))) rfl (by decide) ?_
  refine mB 3 (s2 := (d + 5, 10, 13, [some (.ref 8), some (.int 1)], [.int 1, .ref 9], 0, 0, (mSH, I, L))) rfl ?_
  refine mRq (s2 := (d + 5, 10, 14, [some (.ref 8), some (.int 1)], [.int (I 9 1)], 0, 0, (mSH, I, L))) rfl (by decide) ?_
  refine mB 1 (s2 := (d + 5, 10, 18, [some (.ref 8), some (.int 1)], [.int (I 9 1)], 0, 0, (mSH, I, L))) rfl ?_
  refine mRt (r := (some (.int (I 9 1)))) (h := (mSH, I, L)) rfl (mRet_int rfl) ?_
  show mWP mTb_ mFT ro (d + 6, 107, 108, [some (.ref 0), some (.int 8)], [.int (I 9 1)], 0, 0, (mSH, I, L)) _
  refine mRt (r := (some (.int (I 9 1)))) (h := (mSH, I, L)) rfl (mRet_int rfl) ?_
  show mWP mTb_ mFT ro (d + 7, 102, 22, [some (.ref 0), some (.long ((31 * ((31 * ((31 * ((31 * ((31 * ((31 * ((31 * (62093 + ((I 0 9 : Int32).toInt64))) + ((I 0 10 : Int32).toInt64))) + ((I 0 11 : Int32).toInt64))) + ((I 26 1 : Int32).toInt64))) + ((I 2 1 : Int32).toInt64))) + ((I 4 1 : Int32).toInt64))) + ((I 1 2 : Int32).toInt64))) + ((I 9 0 : Int32).toInt64))), none, some (.int 8)], [.int (I 9 1), .long (31 * ((31 * ((31 * ((31 * ((31 * ((31 * ((31 * ((31 * (62093 + ((I 0 9 : Int32).toInt64))) + ((I 0 10 : Int32).toInt64))) + ((I 0 11 : Int32).toInt64))) + ((I 26 1 : Int32).toInt64))) + ((I 2 1 : Int32).toInt64))) + ((I 4 1 : Int32).toInt64))) + ((I 1 2 : Int32).toInt64))) + ((I 9 0 : Int32).toInt64)))], 0, 0, (mSH, I, L)) _
  refine mB 7 (s2 := (d + 7, 102, 9, [some (.ref 0), some (.long ((31 * ((31 * ((31 * ((31 * ((31 * ((31 * ((31 * ((31 * (62093 + ((I 0 9 : Int32).toInt64))) + ((I 0 10 : Int32).toInt64))) + ((I 0 11 : Int32).toInt64))) + ((I 26 1 : Int32).toInt64))) + ((I 2 1 : Int32).toInt64))) + ((I 4 1 : Int32).toInt64))) + ((I 1 2 : Int32).toInt64))) + ((I 9 0 : Int32).toInt64))) + ((I 9 1 : Int32).toInt64))), none, some (.int 9)], [.int 9, .int 9], 0, 0, (mSH, I, L))) rfl ?_
  refine mBF (s3 := (d + 7, 102, 12, [some (.ref 0), some (.long ((31 * ((31 * ((31 * ((31 * ((31 * ((31 * ((31 * ((31 * (62093 + ((I 0 9 : Int32).toInt64))) + ((I 0 10 : Int32).toInt64))) + ((I 0 11 : Int32).toInt64))) + ((I 26 1 : Int32).toInt64))) + ((I 2 1 : Int32).toInt64))) + ((I 4 1 : Int32).toInt64))) + ((I 1 2 : Int32).toInt64))) + ((I 9 0 : Int32).toInt64))) + ((I 9 1 : Int32).toInt64))), none, some (.int 9)], [], 0, 0, (mSH, I, L))) rfl (by decide) ?_
  refine mB 5 (s2 := (d + 7, 102, 19, [some (.ref 0), some (.long ((31 * ((31 * ((31 * ((31 * ((31 * ((31 * ((31 * ((31 * (62093 + ((I 0 9 : Int32).toInt64))) + ((I 0 10 : Int32).toInt64))) + ((I 0 11 : Int32).toInt64))) + ((I 26 1 : Int32).toInt64))) + ((I 2 1 : Int32).toInt64))) + ((I 4 1 : Int32).toInt64))) + ((I 1 2 : Int32).toInt64))) + ((I 9 0 : Int32).toInt64))) + ((I 9 1 : Int32).toInt64))), none, some (.int 9)], [.int 9, .ref 0, .long (31 * ((31 * ((31 * ((31 * ((31 * ((31 * ((31 * ((31 * ((31 * (62093 + ((I 0 9 : Int32).toInt64))) + ((I 0 10 : Int32).toInt64))) + ((I 0 11 : Int32).toInt64))) + ((I 26 1 : Int32).toInt64))) + ((I 2 1 : Int32).toInt64))) + ((I 4 1 : Int32).toInt64))) + ((I 1 2 : Int32).toInt64))) + ((I 9 0 : Int32).toInt64))) + ((I 9 1 : Int32).toInt64)))], 0, 0, (mSH, I, L))) rfl ?_
  refine mCall (s2 := (d + 6, 107, 0, [some (.ref 0), some (.int 9)], [], 0, 0, (mSH, I, L))) rfl ?_
  refine mB 1 (s2 := (d + 6, 107, 1, [some (.ref 0), some (.int 9)], [.int 9], 0, 0, (mSH, I, L))) rfl ?_
  refine mSw1 (t := (d + 6, 107, 97, [some (.ref 0), some (.int 9)], [], 0, 0, (mSH, I, L))) rfl rfl ?_
  refine mB 5 (s2 := (d + 6, 107, 105, [some (.ref 0), some (.int 9)], [.int 2, .ref 8], 0, 0, (mSH, I, L))) rfl ?_
  refine mCall (s2 := (d + 5, 10, 0, [some (.ref 8), some (.int 2)], [], 0, 0, (mSH, I, L))) rfl ?_
  refine mB 2 (s2 := (d + 5, 10, 2, [some (.ref 8), some (.int 2)], [.int 2, .ref 8], 0, 0, (mSH, I, L))) rfl ?_
  refine mCall (s2 := (d + 4, 8, 0, [some (.ref 8), some (.int 2)], [], 0, 0, (mSH, I, L))) rfl ?_
  refine mB 1 (s2 := (d + 4, 8, 1, [some (.ref 8), some (.int 2)], [.int 2], 0, 0, (mSH, I, L))) rfl ?_
  refine mBF (s3 := (d + 4, 8, 4, [some (.ref 8), some (.int 2)], [], 0, 0, (mSH, I, L))) rfl (by decide) ?_
  refine mB 4 (s2 := (d + 4, 8, 10, [some (.ref 8), some (.int 2)], [.int 3, .int 2], 0, 0, (mSH, I, L))) rfl ?_
  refine mBF (s3 := (d + 4, 8, 13, [some (.ref 8), some (.int 2)], [], 0, 0, (mSH, I, L))) rfl (by decide) ?_
  refine mB 2 (s2 := (d + 4, 8, 18, [some (.ref 8), some (.int 2)], [.int 1], 0, 0, (mSH, I, L))) rfl ?_
  refine mRt (r := (some (.int 1))) (h := (mSH, I, L)) rfl rfl ?_
  show mWP mTb_ mFT ro (d + 5, 10, 5, [some (.ref 8), some (.int 2)], [.int 1], 0, 0, (mSH, I, L)) _
  refine mBF (s3 := (d + 5, 10, 8, [some (.ref 8), some (.int 2)], [], 0, 0, (mSH, I, L))) rfl (by decide) ?_
  refine mB 3 (s2 := (d + 5, 10, 13, [some (.ref 8), some (.int 2)], [.int 2, .ref 9], 0, 0, (mSH, I, L))) rfl ?_
  refine mRq (s2 := (d + 5, 10, 14, [some (.ref 8), some (.int 2)], [.int (I 9 2)], 0, 0, (mSH, I, L))) rfl (by decide) ?_
  refine mB 1 (s2 := (d + 5, 10, 18, [some (.ref 8), some (.int 2)], [.int (I 9 2)], 0, 0, (mSH, I, L))) rfl ?_
  refine mRt (r := (some (.int (I 9 2)))) (h := (mSH, I, L)) rfl (mRet_int rfl) ?_
  show mWP mTb_ mFT ro (d + 6, 107, 108, [some (.ref 0), some (.int 9)], [.int (I 9 2)], 0, 0, (mSH, I, L)) _
  refine mRt (r := (some (.int (I 9 2)))) (h := (mSH, I, L)) rfl (mRet_int rfl) ?_
  show mWP mTb_ mFT ro (d + 7, 102, 22, [some (.ref 0), some (.long ((31 * ((31 * ((31 * ((31 * ((31 * ((31 * ((31 * ((31 * (62093 + ((I 0 9 : Int32).toInt64))) + ((I 0 10 : Int32).toInt64))) + ((I 0 11 : Int32).toInt64))) + ((I 26 1 : Int32).toInt64))) + ((I 2 1 : Int32).toInt64))) + ((I 4 1 : Int32).toInt64))) + ((I 1 2 : Int32).toInt64))) + ((I 9 0 : Int32).toInt64))) + ((I 9 1 : Int32).toInt64))), none, some (.int 9)], [.int (I 9 2), .long (31 * ((31 * ((31 * ((31 * ((31 * ((31 * ((31 * ((31 * ((31 * (62093 + ((I 0 9 : Int32).toInt64))) + ((I 0 10 : Int32).toInt64))) + ((I 0 11 : Int32).toInt64))) + ((I 26 1 : Int32).toInt64))) + ((I 2 1 : Int32).toInt64))) + ((I 4 1 : Int32).toInt64))) + ((I 1 2 : Int32).toInt64))) + ((I 9 0 : Int32).toInt64))) + ((I 9 1 : Int32).toInt64)))], 0, 0, (mSH, I, L)) _
  refine mB 7 (s2 := (d + 7, 102, 9, [some (.ref 0), some (.long ((31 * ((31 * ((31 * ((31 * ((31 * ((31 * ((31 * ((31 * ((31 * (62093 + ((I 0 9 : Int32).toInt64))) + ((I 0 10 : Int32).toInt64))) + ((I 0 11 : Int32).toInt64))) + ((I 26 1 : Int32).toInt64))) + ((I 2 1 : Int32).toInt64))) + ((I 4 1 : Int32).toInt64))) + ((I 1 2 : Int32).toInt64))) + ((I 9 0 : Int32).toInt64))) + ((I 9 1 : Int32).toInt64))) + ((I 9 2 : Int32).toInt64))), none, some (.int 10)], [.int 9, .int 10], 0, 0, (mSH, I, L))) rfl ?_
  refine mBT (s2 := (d + 7, 102, 31, [some (.ref 0), some (.long ((31 * ((31 * ((31 * ((31 * ((31 * ((31 * ((31 * ((31 * ((31 * (62093 + ((I 0 9 : Int32).toInt64))) + ((I 0 10 : Int32).toInt64))) + ((I 0 11 : Int32).toInt64))) + ((I 26 1 : Int32).toInt64))) + ((I 2 1 : Int32).toInt64))) + ((I 4 1 : Int32).toInt64))) + ((I 1 2 : Int32).toInt64))) + ((I 9 0 : Int32).toInt64))) + ((I 9 1 : Int32).toInt64))) + ((I 9 2 : Int32).toInt64))), none, some (.int 10)], [], 0, 0, (mSH, I, L))) rfl (by decide) ?_
  refine mB 4 (s2 := (d + 7, 102, 39, [some (.ref 0), some (.long ((31 * ((31 * ((31 * ((31 * ((31 * ((31 * ((31 * ((31 * ((31 * (62093 + ((I 0 9 : Int32).toInt64))) + ((I 0 10 : Int32).toInt64))) + ((I 0 11 : Int32).toInt64))) + ((I 26 1 : Int32).toInt64))) + ((I 2 1 : Int32).toInt64))) + ((I 4 1 : Int32).toInt64))) + ((I 1 2 : Int32).toInt64))) + ((I 9 0 : Int32).toInt64))) + ((I 9 1 : Int32).toInt64))) + ((I 9 2 : Int32).toInt64))), none, some (.int 10)], [.long ((31 * ((31 * ((31 * ((31 * ((31 * ((31 * ((31 * ((31 * ((31 * (62093 + ((I 0 9 : Int32).toInt64))) + ((I 0 10 : Int32).toInt64))) + ((I 0 11 : Int32).toInt64))) + ((I 26 1 : Int32).toInt64))) + ((I 2 1 : Int32).toInt64))) + ((I 4 1 : Int32).toInt64))) + ((I 1 2 : Int32).toInt64))) + ((I 9 0 : Int32).toInt64))) + ((I 9 1 : Int32).toInt64))) + ((I 9 2 : Int32).toInt64)), .ref 2], 0, 0, (mSH, I, L))) rfl ?_
  refine mCall (s2 := (d + 6, 49, 0, [some (.ref 2), some (.long ((31 * ((31 * ((31 * ((31 * ((31 * ((31 * ((31 * ((31 * ((31 * (62093 + ((I 0 9 : Int32).toInt64))) + ((I 0 10 : Int32).toInt64))) + ((I 0 11 : Int32).toInt64))) + ((I 26 1 : Int32).toInt64))) + ((I 2 1 : Int32).toInt64))) + ((I 4 1 : Int32).toInt64))) + ((I 1 2 : Int32).toInt64))) + ((I 9 0 : Int32).toInt64))) + ((I 9 1 : Int32).toInt64))) + ((I 9 2 : Int32).toInt64))), none, none, none, none], [], 0, 0, (mSH, I, L))) rfl ?_
  refine x_mix_2 (v := dg_t (tvC I)) hC.1.1 hO.1.1 ?_
  show mWP mTb_ mFT ro (d + 7, 102, 42, [some (.ref 0), some (.long ((31 * ((31 * ((31 * ((31 * ((31 * ((31 * ((31 * ((31 * ((31 * (62093 + ((I 0 9 : Int32).toInt64))) + ((I 0 10 : Int32).toInt64))) + ((I 0 11 : Int32).toInt64))) + ((I 26 1 : Int32).toInt64))) + ((I 2 1 : Int32).toInt64))) + ((I 4 1 : Int32).toInt64))) + ((I 1 2 : Int32).toInt64))) + ((I 9 0 : Int32).toInt64))) + ((I 9 1 : Int32).toInt64))) + ((I 9 2 : Int32).toInt64))), none, some (.int 10)], [.long (dg_f (dg_t (tvC I)) (I 3) T.1.1)], 0, 0, (mSH, I, L)) _
  refine mB 5 (s2 := (d + 7, 102, 51, [some (.ref 0), some (.long (dg_f (dg_t (tvC I)) (I 3) T.1.1)), none, some (.int 10)], [.long (dg_f (dg_t (tvC I)) (I 3) T.1.1), .ref 4], 0, 0, (mSH, I, L))) rfl ?_
  refine mCall (s2 := (d + 6, 49, 0, [some (.ref 4), some (.long (dg_f (dg_t (tvC I)) (I 3) T.1.1)), none, none, none, none], [], 0, 0, (mSH, I, L))) rfl ?_
  refine x_mix_4 (v := dg_f (dg_t (tvC I)) (I 3) T.1.1) hC.1.2.1 hO.1.2.1 ?_
  show mWP mTb_ mFT ro (d + 7, 102, 54, [some (.ref 0), some (.long (dg_f (dg_t (tvC I)) (I 3) T.1.1)), none, some (.int 10)], [.long (dg_f (dg_f (dg_t (tvC I)) (I 3) T.1.1) (I 5) T.1.2.1)], 0, 0, (mSH, I, L)) _
  refine mB 4 (s2 := (d + 7, 102, 60, [some (.ref 0), some (.long (dg_f (dg_f (dg_t (tvC I)) (I 3) T.1.1) (I 5) T.1.2.1)), none, some (.int 10)], [.long (dg_f (dg_f (dg_t (tvC I)) (I 3) T.1.1) (I 5) T.1.2.1), .ref 6], 0, 0, (mSH, I, L))) rfl ?_
  refine mCall (s2 := (d + 6, 3, 0, [some (.ref 6), some (.long (dg_f (dg_f (dg_t (tvC I)) (I 3) T.1.1) (I 5) T.1.2.1)), none, none, none], [], 0, 0, (mSH, I, L))) rfl ?_
  refine mB 31 (s2 := (d + 6, 3, 47, [some (.ref 6), some (.long (dg_f (dg_f (dg_t (tvC I)) (I 3) T.1.1) (I 5) T.1.2.1)), none, some (.long ((31 * ((31 * ((31 * (dg_f (dg_f (dg_t (tvC I)) (I 3) T.1.1) (I 5) T.1.2.1)) + ((I 6 0 : Int32).toInt64))) + ((I 6 1 : Int32).toInt64))) + ((I 6 2 : Int32).toInt64))), none], [.long ((31 * ((31 * ((31 * ((31 * (dg_f (dg_f (dg_t (tvC I)) (I 3) T.1.1) (I 5) T.1.2.1)) + ((I 6 0 : Int32).toInt64))) + ((I 6 1 : Int32).toInt64))) + ((I 6 2 : Int32).toInt64))) + ((I 6 3 : Int32).toInt64))], 0, 0, (mSH, I, L))) rfl ?_
  refine mRt (r := (some (.long ((31 * ((31 * ((31 * ((31 * (dg_f (dg_f (dg_t (tvC I)) (I 3) T.1.1) (I 5) T.1.2.1)) + ((I 6 0 : Int32).toInt64))) + ((I 6 1 : Int32).toInt64))) + ((I 6 2 : Int32).toInt64))) + ((I 6 3 : Int32).toInt64))))) (h := (mSH, I, L)) rfl rfl ?_
  show mWP mTb_ mFT ro (d + 7, 102, 63, [some (.ref 0), some (.long (dg_f (dg_f (dg_t (tvC I)) (I 3) T.1.1) (I 5) T.1.2.1)), none, some (.int 10)], [.long ((31 * ((31 * ((31 * ((31 * (dg_f (dg_f (dg_t (tvC I)) (I 3) T.1.1) (I 5) T.1.2.1)) + ((I 6 0 : Int32).toInt64))) + ((I 6 1 : Int32).toInt64))) + ((I 6 2 : Int32).toInt64))) + ((I 6 3 : Int32).toInt64))], 0, 0, (mSH, I, L)) _
  refine mB 20 (s2 := (d + 7, 102, 95, [some (.ref 0), some (.long ((31 * ((31 * ((31 * ((31 * ((31 * ((31 * (dg_f (dg_f (dg_t (tvC I)) (I 3) T.1.1) (I 5) T.1.2.1)) + ((I 6 0 : Int32).toInt64))) + ((I 6 1 : Int32).toInt64))) + ((I 6 2 : Int32).toInt64))) + ((I 6 3 : Int32).toInt64))) + ((I 25 0 : Int32).toInt64))) + ((I 25 1 : Int32).toInt64))), none, some (.int 10)], [.ref 0], 0, 0, (mSH, I, L))) rfl ?_
  refine mCall (s2 := (d + 6, 105, 0, [some (.ref 0)], [], 0, 0, (mSH, I, L))) rfl ?_
  refine mB 7 (s2 := (d + 6, 105, 13, [some (.ref 0)], [.int 0, .ref 8, .ref 6, .ref 10], 0, 0, (mSH, I, L))) rfl ?_
  refine mCall (s2 := (d + 5, 10, 0, [some (.ref 8), some (.int 0)], [], 0, 0, (mSH, I, L))) rfl ?_
  refine mB 2 (s2 := (d + 5, 10, 2, [some (.ref 8), some (.int 0)], [.int 0, .ref 8], 0, 0, (mSH, I, L))) rfl ?_
  refine mCall (s2 := (d + 4, 8, 0, [some (.ref 8), some (.int 0)], [], 0, 0, (mSH, I, L))) rfl ?_
  refine mB 1 (s2 := (d + 4, 8, 1, [some (.ref 8), some (.int 0)], [.int 0], 0, 0, (mSH, I, L))) rfl ?_
  refine mBF (s3 := (d + 4, 8, 4, [some (.ref 8), some (.int 0)], [], 0, 0, (mSH, I, L))) rfl (by decide) ?_
  refine mB 4 (s2 := (d + 4, 8, 10, [some (.ref 8), some (.int 0)], [.int 3, .int 0], 0, 0, (mSH, I, L))) rfl ?_
  refine mBF (s3 := (d + 4, 8, 13, [some (.ref 8), some (.int 0)], [], 0, 0, (mSH, I, L))) rfl (by decide) ?_
  refine mB 2 (s2 := (d + 4, 8, 18, [some (.ref 8), some (.int 0)], [.int 1], 0, 0, (mSH, I, L))) rfl ?_
  refine mRt (r := (some (.int 1))) (h := (mSH, I, L)) rfl rfl ?_
  show mWP mTb_ mFT ro (d + 5, 10, 5, [some (.ref 8), some (.int 0)], [.int 1], 0, 0, (mSH, I, L)) _
  refine mBF (s3 := (d + 5, 10, 8, [some (.ref 8), some (.int 0)], [], 0, 0, (mSH, I, L))) rfl (by decide) ?_
  refine mB 3 (s2 := (d + 5, 10, 13, [some (.ref 8), some (.int 0)], [.int 0, .ref 9], 0, 0, (mSH, I, L))) rfl ?_
  refine mRq (s2 := (d + 5, 10, 14, [some (.ref 8), some (.int 0)], [.int (I 9 0)], 0, 0, (mSH, I, L))) rfl (by decide) ?_
  refine mB 1 (s2 := (d + 5, 10, 18, [some (.ref 8), some (.int 0)], [.int (I 9 0)], 0, 0, (mSH, I, L))) rfl ?_
  refine mRt (r := (some (.int (I 9 0)))) (h := (mSH, I, L)) rfl (mRet_int rfl) ?_
  show mWP mTb_ mFT ro (d + 6, 105, 16, [some (.ref 0)], [.int (I 9 0), .ref 6, .ref 10], 0, 0, (mSH, I, L)) _
  refine mCall (s2 := (d + 5, 52, 0, [some (.ref 10), some (.ref 6), some (.int (I 9 0)), none, none, none], [], 0, 0, (mSH, I, L))) rfl ?_
  refine x_fillv_6 (k2 := kd) hC.2.2.2.2 hO.2.2.2 hO hC hI.2.2.2.2.2.2 (fun J fJ rJ wJ => ?_)
  show mWP mTb_ mFT ro (d + 6, 105, 19, [some (.ref 0)], [], 0, 0, (mSH, J, L)) _
  refine mRt (r := none) (h := (mSH, J, L)) rfl rfl ?_
  show mWP mTb_ mFT ro (d + 7, 102, 98, [some (.ref 0), some (.long ((31 * ((31 * ((31 * ((31 * ((31 * ((31 * (dg_f (dg_f (dg_t (tvC I)) (I 3) T.1.1) (I 5) T.1.2.1)) + ((I 6 0 : Int32).toInt64))) + ((I 6 1 : Int32).toInt64))) + ((I 6 2 : Int32).toInt64))) + ((I 6 3 : Int32).toInt64))) + ((I 25 0 : Int32).toInt64))) + ((I 25 1 : Int32).toInt64))), none, some (.int 10)], [], 0, 0, (mSH, J, L)) _
  refine mB 5 (s2 := (d + 7, 102, 107, [some (.ref 0), some (.long ((31 * ((31 * ((31 * ((31 * ((31 * ((31 * (dg_f (dg_f (dg_t (tvC I)) (I 3) T.1.1) (I 5) T.1.2.1)) + ((I 6 0 : Int32).toInt64))) + ((I 6 1 : Int32).toInt64))) + ((I 6 2 : Int32).toInt64))) + ((I 6 3 : Int32).toInt64))) + ((I 25 0 : Int32).toInt64))) + ((I 25 1 : Int32).toInt64))), none, some (.int 10)], [.ref 10, .long (31 * ((31 * ((31 * ((31 * ((31 * ((31 * ((31 * (dg_f (dg_f (dg_t (tvC I)) (I 3) T.1.1) (I 5) T.1.2.1)) + ((I 6 0 : Int32).toInt64))) + ((I 6 1 : Int32).toInt64))) + ((I 6 2 : Int32).toInt64))) + ((I 6 3 : Int32).toInt64))) + ((I 25 0 : Int32).toInt64))) + ((I 25 1 : Int32).toInt64)))], 0, 0, (mSH, J, L))) rfl ?_
  refine mCall (s2 := (d + 6, 61, 0, [some (.ref 10)], [], 0, 0, (mSH, J, L))) rfl ?_
  refine mB 2 (s2 := (d + 6, 61, 4, [some (.ref 10)], [.int 153, .ref 10], 0, 0, (mSH, J, L))) rfl ?_
  refine mCall (s2 := (d + 5, 60, 0, [some (.ref 10), some (.int 153)], [], 0, 0, (mSH, J, L))) rfl ?_
  refine mB 3 (s2 := (d + 5, 60, 5, [some (.ref 10), some (.int 153)], [.int 0, .ref 11], 0, 0, (mSH, J, L))) rfl ?_
  refine mRq (s2 := (d + 5, 60, 6, [some (.ref 10), some (.int 153)], [.ref 12], 0, 0, (mSH, J, L))) rfl (by decide) ?_
  refine mB 1 (s2 := (d + 5, 60, 7, [some (.ref 10), some (.int 153)], [.int 153, .ref 12], 0, 0, (mSH, J, L))) rfl ?_
  refine mRq (s2 := (d + 5, 60, 8, [some (.ref 10), some (.int 153)], [.int (J 12 153)], 0, 0, (mSH, J, L))) rfl (by decide) ?_
  refine mB 1 (s2 := (d + 5, 60, 10, [some (.ref 10), some (.int 153)], [.int 1000000000, .int (J 12 153)], 0, 0, (mSH, J, L))) rfl ?_
  refine mBr (s2 := (d + 5, 60, 13, [some (.ref 10), some (.int 153)], [], 0, 0, (mSH, J, L))) (s3 := (d + 5, 60, 17, [some (.ref 10), some (.int 153)], [], 0, 0, (mSH, J, L))) rfl (fun c0 => ?_) (fun c0 => ?_)
  · refine mB 2 (s2 := (d + 5, 60, 25, [some (.ref 10), some (.int 153)], [.int (-1)], 0, 0, (mSH, J, L))) rfl ?_
    refine mRt (r := (some (.int (-1)))) (h := (mSH, J, L)) rfl (mRet_int rfl) ?_
    show mWP mTb_ mFT ro (d + 6, 61, 7, [some (.ref 10)], [.int (-1)], 0, 0, (mSH, J, L)) _
    refine mRt (r := (some (.int (-1)))) (h := (mSH, J, L)) rfl (mRet_int rfl) ?_
    show mWP mTb_ mFT ro (d + 7, 102, 110, [some (.ref 0), some (.long ((31 * ((31 * ((31 * ((31 * ((31 * ((31 * (dg_f (dg_f (dg_t (tvC I)) (I 3) T.1.1) (I 5) T.1.2.1)) + ((I 6 0 : Int32).toInt64))) + ((I 6 1 : Int32).toInt64))) + ((I 6 2 : Int32).toInt64))) + ((I 6 3 : Int32).toInt64))) + ((I 25 0 : Int32).toInt64))) + ((I 25 1 : Int32).toInt64))), none, some (.int 10)], [.int (-1), .long (31 * ((31 * ((31 * ((31 * ((31 * ((31 * ((31 * (dg_f (dg_f (dg_t (tvC I)) (I 3) T.1.1) (I 5) T.1.2.1)) + ((I 6 0 : Int32).toInt64))) + ((I 6 1 : Int32).toInt64))) + ((I 6 2 : Int32).toInt64))) + ((I 6 3 : Int32).toInt64))) + ((I 25 0 : Int32).toInt64))) + ((I 25 1 : Int32).toInt64)))], 0, 0, (mSH, J, L)) _
    refine mB 2 (s2 := (d + 7, 102, 112, [some (.ref 0), some (.long ((31 * ((31 * ((31 * ((31 * ((31 * ((31 * (dg_f (dg_f (dg_t (tvC I)) (I 3) T.1.1) (I 5) T.1.2.1)) + ((I 6 0 : Int32).toInt64))) + ((I 6 1 : Int32).toInt64))) + ((I 6 2 : Int32).toInt64))) + ((I 6 3 : Int32).toInt64))) + ((I 25 0 : Int32).toInt64))) + ((I 25 1 : Int32).toInt64))), none, some (.int 10)], [.long ((31 * ((31 * ((31 * ((31 * ((31 * ((31 * ((31 * (dg_f (dg_f (dg_t (tvC I)) (I 3) T.1.1) (I 5) T.1.2.1)) + ((I 6 0 : Int32).toInt64))) + ((I 6 1 : Int32).toInt64))) + ((I 6 2 : Int32).toInt64))) + ((I 6 3 : Int32).toInt64))) + ((I 25 0 : Int32).toInt64))) + ((I 25 1 : Int32).toInt64))) + (((-1) : Int32).toInt64))], 0, 0, (mSH, J, L))) rfl ?_
    refine mRt (r := (some (.long ((31 * ((31 * ((31 * ((31 * ((31 * ((31 * ((31 * (dg_f (dg_f (dg_t (tvC I)) (I 3) T.1.1) (I 5) T.1.2.1)) + ((I 6 0 : Int32).toInt64))) + ((I 6 1 : Int32).toInt64))) + ((I 6 2 : Int32).toInt64))) + ((I 6 3 : Int32).toInt64))) + ((I 25 0 : Int32).toInt64))) + ((I 25 1 : Int32).toInt64))) + (((-1) : Int32).toInt64))))) (h := (mSH, J, L)) rfl rfl ?_
    exact hq _ _ (mFr.sub (by decide) fJ) (hI.ss fJ rJ) (Eq.trans (b := dg_all (tvC I) (I 3) (I 5) (I 6) T.1.1 T.1.2.1 (I 25 0).toInt64 (I 25 1).toInt64 (-1)) rfl (congrArg (dg_all (tvC I) (I 3) (I 5) (I 6) T.1.1 T.1.2.1 (I 25 0).toInt64 (I 25 1).toInt64) (an_sn (an_ok hO).le1 wJ.n.1.1 (of_decide_eq_true c0))))
  · refine mB 3 (s2 := (d + 5, 60, 22, [some (.ref 10), some (.int 153)], [.int 0, .ref 11], 0, 0, (mSH, J, L))) rfl ?_
    refine mRq (s2 := (d + 5, 60, 23, [some (.ref 10), some (.int 153)], [.ref 12], 0, 0, (mSH, J, L))) rfl (by decide) ?_
    refine mB 1 (s2 := (d + 5, 60, 24, [some (.ref 10), some (.int 153)], [.int 153, .ref 12], 0, 0, (mSH, J, L))) rfl ?_
    refine mRq (s2 := (d + 5, 60, 25, [some (.ref 10), some (.int 153)], [.int (J 12 153)], 0, 0, (mSH, J, L))) rfl (by decide) ?_
    refine mRt (r := (some (.int (J 12 153)))) (h := (mSH, J, L)) rfl (mRet_int rfl) ?_
    show mWP mTb_ mFT ro (d + 6, 61, 7, [some (.ref 10)], [.int (J 12 153)], 0, 0, (mSH, J, L)) _
    refine mRt (r := (some (.int (J 12 153)))) (h := (mSH, J, L)) rfl (mRet_int rfl) ?_
    show mWP mTb_ mFT ro (d + 7, 102, 110, [some (.ref 0), some (.long ((31 * ((31 * ((31 * ((31 * ((31 * ((31 * (dg_f (dg_f (dg_t (tvC I)) (I 3) T.1.1) (I 5) T.1.2.1)) + ((I 6 0 : Int32).toInt64))) + ((I 6 1 : Int32).toInt64))) + ((I 6 2 : Int32).toInt64))) + ((I 6 3 : Int32).toInt64))) + ((I 25 0 : Int32).toInt64))) + ((I 25 1 : Int32).toInt64))), none, some (.int 10)], [.int (J 12 153), .long (31 * ((31 * ((31 * ((31 * ((31 * ((31 * ((31 * (dg_f (dg_f (dg_t (tvC I)) (I 3) T.1.1) (I 5) T.1.2.1)) + ((I 6 0 : Int32).toInt64))) + ((I 6 1 : Int32).toInt64))) + ((I 6 2 : Int32).toInt64))) + ((I 6 3 : Int32).toInt64))) + ((I 25 0 : Int32).toInt64))) + ((I 25 1 : Int32).toInt64)))], 0, 0, (mSH, J, L)) _
    refine mB 2 (s2 := (d + 7, 102, 112, [some (.ref 0), some (.long ((31 * ((31 * ((31 * ((31 * ((31 * ((31 * (dg_f (dg_f (dg_t (tvC I)) (I 3) T.1.1) (I 5) T.1.2.1)) + ((I 6 0 : Int32).toInt64))) + ((I 6 1 : Int32).toInt64))) + ((I 6 2 : Int32).toInt64))) + ((I 6 3 : Int32).toInt64))) + ((I 25 0 : Int32).toInt64))) + ((I 25 1 : Int32).toInt64))), none, some (.int 10)], [.long ((31 * ((31 * ((31 * ((31 * ((31 * ((31 * ((31 * (dg_f (dg_f (dg_t (tvC I)) (I 3) T.1.1) (I 5) T.1.2.1)) + ((I 6 0 : Int32).toInt64))) + ((I 6 1 : Int32).toInt64))) + ((I 6 2 : Int32).toInt64))) + ((I 6 3 : Int32).toInt64))) + ((I 25 0 : Int32).toInt64))) + ((I 25 1 : Int32).toInt64))) + ((J 12 153 : Int32).toInt64))], 0, 0, (mSH, J, L))) rfl ?_
    refine mRt (r := (some (.long ((31 * ((31 * ((31 * ((31 * ((31 * ((31 * ((31 * (dg_f (dg_f (dg_t (tvC I)) (I 3) T.1.1) (I 5) T.1.2.1)) + ((I 6 0 : Int32).toInt64))) + ((I 6 1 : Int32).toInt64))) + ((I 6 2 : Int32).toInt64))) + ((I 6 3 : Int32).toInt64))) + ((I 25 0 : Int32).toInt64))) + ((I 25 1 : Int32).toInt64))) + ((J 12 153 : Int32).toInt64))))) (h := (mSH, J, L)) rfl rfl ?_
    exact hq _ _ (mFr.sub (by decide) fJ) (hI.ss fJ rJ) (Eq.trans (b := dg_all (tvC I) (I 3) (I 5) (I 6) T.1.1 T.1.2.1 (I 25 0).toInt64 (I 25 1).toInt64 (J 12 153)) rfl (congrArg (dg_all (tvC I) (I 3) (I 5) (I 6) T.1.1 T.1.2.1 (I 25 0).toInt64 (I 25 1).toInt64) (an_sy (an_ok hO).le1 wJ.n.1.1 (of_decide_eq_false c0))))
theorem z_dg3 {ro : Nat → Nat × (Nat → Int32)} {Q : mPo} {d : Nat} {I : Nat → Nat → Int32} {L : Nat → Nat → Int64} {s n t : Nat} {T : ct_S} {B : ct_B} {kd g pe : Nat} (hm : mM s n t I) (hO : pm_O T B kd g pe) (hM : pm_M T B kd g pe I) (hq : ∀ r I1, mGr I I1 → mIM I1 → r = dg_all (tvM I) (I 35) (I 36) (I 37) T.1.1 T.1.2.1 (L 34 7) (L 34 8) (an_s (an_W T B kd g pe).1.1) → Q (some (.long r)) (mSH, I1, L))   : mWP mTb_ mFT ro (d + 5, 159, 93, [some (.ref 34), some (.long (dg_f (dg_f (dg_t (tvM I)) (I 35) T.1.1) (I 36) T.1.2.1)), none, some (.int 0)], [], 0, 0, (mSH, I, L)) Q := by
  refine mB 2 (s2 := (d + 5, 159, 95, [some (.ref 34), some (.long (dg_f (dg_f (dg_t (tvM I)) (I 35) T.1.1) (I 36) T.1.2.1)), none, some (.int 0)], [.int 4, .int 0], 0, 0, (mSH, I, L))) rfl ?_
  refine mBF (s3 := (d + 5, 159, 98, [some (.ref 34), some (.long (dg_f (dg_f (dg_t (tvM I)) (I 35) T.1.1) (I 36) T.1.2.1)), none, some (.int 0)], [], 0, 0, (mSH, I, L))) rfl (by decide) ?_
  refine mB 6 (s2 := (d + 5, 159, 108, [some (.ref 34), some (.long (dg_f (dg_f (dg_t (tvM I)) (I 35) T.1.1) (I 36) T.1.2.1)), none, some (.int 0)], [.int 0, .ref 37, .long (31 * (dg_f (dg_f (dg_t (tvM I)) (I 35) T.1.1) (I 36) T.1.2.1))], 0, 0, (mSH, I, L))) rfl ?_
  refine mRq (s2 := (d + 5, 159, 109, [some (.ref 34), some (.long (dg_f (dg_f (dg_t (tvM I)) (I 35) T.1.1) (I 36) T.1.2.1)), none, some (.int 0)], [.int (I 37 0), .long (31 * (dg_f (dg_f (dg_t (tvM I)) (I 35) T.1.1) (I 36) T.1.2.1))], 0, 0, (mSH, I, L))) rfl (by decide) ?_
  refine mB 7 (s2 := (d + 5, 159, 95, [some (.ref 34), some (.long ((31 * (dg_f (dg_f (dg_t (tvM I)) (I 35) T.1.1) (I 36) T.1.2.1)) + ((I 37 0 : Int32).toInt64))), none, some (.int 1)], [.int 4, .int 1], 0, 0, (mSH, I, L))) rfl ?_
  refine mBF (s3 := (d + 5, 159, 98, [some (.ref 34), some (.long ((31 * (dg_f (dg_f (dg_t (tvM I)) (I 35) T.1.1) (I 36) T.1.2.1)) + ((I 37 0 : Int32).toInt64))), none, some (.int 1)], [], 0, 0, (mSH, I, L))) rfl (by decide) ?_
  refine mB 6 (s2 := (d + 5, 159, 108, [some (.ref 34), some (.long ((31 * (dg_f (dg_f (dg_t (tvM I)) (I 35) T.1.1) (I 36) T.1.2.1)) + ((I 37 0 : Int32).toInt64))), none, some (.int 1)], [.int 1, .ref 37, .long (31 * ((31 * (dg_f (dg_f (dg_t (tvM I)) (I 35) T.1.1) (I 36) T.1.2.1)) + ((I 37 0 : Int32).toInt64)))], 0, 0, (mSH, I, L))) rfl ?_
  refine mRq (s2 := (d + 5, 159, 109, [some (.ref 34), some (.long ((31 * (dg_f (dg_f (dg_t (tvM I)) (I 35) T.1.1) (I 36) T.1.2.1)) + ((I 37 0 : Int32).toInt64))), none, some (.int 1)], [.int (I 37 1), .long (31 * ((31 * (dg_f (dg_f (dg_t (tvM I)) (I 35) T.1.1) (I 36) T.1.2.1)) + ((I 37 0 : Int32).toInt64)))], 0, 0, (mSH, I, L))) rfl (by decide) ?_
  refine mB 7 (s2 := (d + 5, 159, 95, [some (.ref 34), some (.long ((31 * ((31 * (dg_f (dg_f (dg_t (tvM I)) (I 35) T.1.1) (I 36) T.1.2.1)) + ((I 37 0 : Int32).toInt64))) + ((I 37 1 : Int32).toInt64))), none, some (.int 2)], [.int 4, .int 2], 0, 0, (mSH, I, L))) rfl ?_
  refine mBF (s3 := (d + 5, 159, 98, [some (.ref 34), some (.long ((31 * ((31 * (dg_f (dg_f (dg_t (tvM I)) (I 35) T.1.1) (I 36) T.1.2.1)) + ((I 37 0 : Int32).toInt64))) + ((I 37 1 : Int32).toInt64))), none, some (.int 2)], [], 0, 0, (mSH, I, L))) rfl (by decide) ?_
  refine mB 6 (s2 := (d + 5, 159, 108, [some (.ref 34), some (.long ((31 * ((31 * (dg_f (dg_f (dg_t (tvM I)) (I 35) T.1.1) (I 36) T.1.2.1)) + ((I 37 0 : Int32).toInt64))) + ((I 37 1 : Int32).toInt64))), none, some (.int 2)], [.int 2, .ref 37, .long (31 * ((31 * ((31 * (dg_f (dg_f (dg_t (tvM I)) (I 35) T.1.1) (I 36) T.1.2.1)) + ((I 37 0 : Int32).toInt64))) + ((I 37 1 : Int32).toInt64)))], 0, 0, (mSH, I, L))) rfl ?_
  refine mRq (s2 := (d + 5, 159, 109, [some (.ref 34), some (.long ((31 * ((31 * (dg_f (dg_f (dg_t (tvM I)) (I 35) T.1.1) (I 36) T.1.2.1)) + ((I 37 0 : Int32).toInt64))) + ((I 37 1 : Int32).toInt64))), none, some (.int 2)], [.int (I 37 2), .long (31 * ((31 * ((31 * (dg_f (dg_f (dg_t (tvM I)) (I 35) T.1.1) (I 36) T.1.2.1)) + ((I 37 0 : Int32).toInt64))) + ((I 37 1 : Int32).toInt64)))], 0, 0, (mSH, I, L))) rfl (by decide) ?_
  refine mB 7 (s2 := (d + 5, 159, 95, [some (.ref 34), some (.long ((31 * ((31 * ((31 * (dg_f (dg_f (dg_t (tvM I)) (I 35) T.1.1) (I 36) T.1.2.1)) + ((I 37 0 : Int32).toInt64))) + ((I 37 1 : Int32).toInt64))) + ((I 37 2 : Int32).toInt64))), none, some (.int 3)], [.int 4, .int 3], 0, 0, (mSH, I, L))) rfl ?_
  refine mBF (s3 := (d + 5, 159, 98, [some (.ref 34), some (.long ((31 * ((31 * ((31 * (dg_f (dg_f (dg_t (tvM I)) (I 35) T.1.1) (I 36) T.1.2.1)) + ((I 37 0 : Int32).toInt64))) + ((I 37 1 : Int32).toInt64))) + ((I 37 2 : Int32).toInt64))), none, some (.int 3)], [], 0, 0, (mSH, I, L))) rfl (by decide) ?_
  refine mB 6 (s2 := (d + 5, 159, 108, [some (.ref 34), some (.long ((31 * ((31 * ((31 * (dg_f (dg_f (dg_t (tvM I)) (I 35) T.1.1) (I 36) T.1.2.1)) + ((I 37 0 : Int32).toInt64))) + ((I 37 1 : Int32).toInt64))) + ((I 37 2 : Int32).toInt64))), none, some (.int 3)], [.int 3, .ref 37, .long (31 * ((31 * ((31 * ((31 * (dg_f (dg_f (dg_t (tvM I)) (I 35) T.1.1) (I 36) T.1.2.1)) + ((I 37 0 : Int32).toInt64))) + ((I 37 1 : Int32).toInt64))) + ((I 37 2 : Int32).toInt64)))], 0, 0, (mSH, I, L))) rfl ?_
  refine mRq (s2 := (d + 5, 159, 109, [some (.ref 34), some (.long ((31 * ((31 * ((31 * (dg_f (dg_f (dg_t (tvM I)) (I 35) T.1.1) (I 36) T.1.2.1)) + ((I 37 0 : Int32).toInt64))) + ((I 37 1 : Int32).toInt64))) + ((I 37 2 : Int32).toInt64))), none, some (.int 3)], [.int (I 37 3), .long (31 * ((31 * ((31 * ((31 * (dg_f (dg_f (dg_t (tvM I)) (I 35) T.1.1) (I 36) T.1.2.1)) + ((I 37 0 : Int32).toInt64))) + ((I 37 1 : Int32).toInt64))) + ((I 37 2 : Int32).toInt64)))], 0, 0, (mSH, I, L))) rfl (by decide) ?_
  refine mB 7 (s2 := (d + 5, 159, 95, [some (.ref 34), some (.long ((31 * ((31 * ((31 * ((31 * (dg_f (dg_f (dg_t (tvM I)) (I 35) T.1.1) (I 36) T.1.2.1)) + ((I 37 0 : Int32).toInt64))) + ((I 37 1 : Int32).toInt64))) + ((I 37 2 : Int32).toInt64))) + ((I 37 3 : Int32).toInt64))), none, some (.int 4)], [.int 4, .int 4], 0, 0, (mSH, I, L))) rfl ?_
  refine mBT (s2 := (d + 5, 159, 118, [some (.ref 34), some (.long ((31 * ((31 * ((31 * ((31 * (dg_f (dg_f (dg_t (tvM I)) (I 35) T.1.1) (I 36) T.1.2.1)) + ((I 37 0 : Int32).toInt64))) + ((I 37 1 : Int32).toInt64))) + ((I 37 2 : Int32).toInt64))) + ((I 37 3 : Int32).toInt64))), none, some (.int 4)], [], 0, 0, (mSH, I, L))) rfl (by decide) ?_
  refine mB 15 (s2 := (d + 5, 159, 141, [some (.ref 34), some (.long ((31 * ((31 * ((31 * ((31 * ((31 * ((31 * (dg_f (dg_f (dg_t (tvM I)) (I 35) T.1.1) (I 36) T.1.2.1)) + ((I 37 0 : Int32).toInt64))) + ((I 37 1 : Int32).toInt64))) + ((I 37 2 : Int32).toInt64))) + ((I 37 3 : Int32).toInt64))) + (L 34 7))) + (L 34 8))), none, some (.int 4)], [.ref 34], 0, 0, (mSH, I, L))) rfl ?_
  refine mCall (s2 := (d + 4, 132, 0, [some (.ref 34)], [], 0, 0, (mSH, I, L))) rfl ?_
  refine x_isfx hO hM (fun rK K gK fK bK iK => ?_)
  show mWP mTb_ mFT ro (d + 5, 159, 144, [some (.ref 34), some (.long ((31 * ((31 * ((31 * ((31 * ((31 * ((31 * (dg_f (dg_f (dg_t (tvM I)) (I 35) T.1.1) (I 36) T.1.2.1)) + ((I 37 0 : Int32).toInt64))) + ((I 37 1 : Int32).toInt64))) + ((I 37 2 : Int32).toInt64))) + ((I 37 3 : Int32).toInt64))) + (L 34 7))) + (L 34 8))), none, some (.int 4)], [.int rK], 0, 0, (mSH, K, L)) _
  refine mB 7 (s2 := (d + 5, 159, 155, [some (.ref 34), some (.long ((31 * ((31 * ((31 * ((31 * ((31 * ((31 * (dg_f (dg_f (dg_t (tvM I)) (I 35) T.1.1) (I 36) T.1.2.1)) + ((I 37 0 : Int32).toInt64))) + ((I 37 1 : Int32).toInt64))) + ((I 37 2 : Int32).toInt64))) + ((I 37 3 : Int32).toInt64))) + (L 34 7))) + (L 34 8))), none, some (.int 4)], [.int 0, .ref 46, .long (31 * ((31 * ((31 * ((31 * ((31 * ((31 * ((31 * (dg_f (dg_f (dg_t (tvM I)) (I 35) T.1.1) (I 36) T.1.2.1)) + ((I 37 0 : Int32).toInt64))) + ((I 37 1 : Int32).toInt64))) + ((I 37 2 : Int32).toInt64))) + ((I 37 3 : Int32).toInt64))) + (L 34 7))) + (L 34 8)))], 0, 0, (mSH, K, L))) rfl ?_
  refine mRq (s2 := (d + 5, 159, 156, [some (.ref 34), some (.long ((31 * ((31 * ((31 * ((31 * ((31 * ((31 * (dg_f (dg_f (dg_t (tvM I)) (I 35) T.1.1) (I 36) T.1.2.1)) + ((I 37 0 : Int32).toInt64))) + ((I 37 1 : Int32).toInt64))) + ((I 37 2 : Int32).toInt64))) + ((I 37 3 : Int32).toInt64))) + (L 34 7))) + (L 34 8))), none, some (.int 4)], [.int (K 46 0), .long (31 * ((31 * ((31 * ((31 * ((31 * ((31 * ((31 * (dg_f (dg_f (dg_t (tvM I)) (I 35) T.1.1) (I 36) T.1.2.1)) + ((I 37 0 : Int32).toInt64))) + ((I 37 1 : Int32).toInt64))) + ((I 37 2 : Int32).toInt64))) + ((I 37 3 : Int32).toInt64))) + (L 34 7))) + (L 34 8)))], 0, 0, (mSH, K, L))) rfl (by decide) ?_
  refine mB 2 (s2 := (d + 5, 159, 158, [some (.ref 34), some (.long ((31 * ((31 * ((31 * ((31 * ((31 * ((31 * (dg_f (dg_f (dg_t (tvM I)) (I 35) T.1.1) (I 36) T.1.2.1)) + ((I 37 0 : Int32).toInt64))) + ((I 37 1 : Int32).toInt64))) + ((I 37 2 : Int32).toInt64))) + ((I 37 3 : Int32).toInt64))) + (L 34 7))) + (L 34 8))), none, some (.int 4)], [.long ((31 * ((31 * ((31 * ((31 * ((31 * ((31 * ((31 * (dg_f (dg_f (dg_t (tvM I)) (I 35) T.1.1) (I 36) T.1.2.1)) + ((I 37 0 : Int32).toInt64))) + ((I 37 1 : Int32).toInt64))) + ((I 37 2 : Int32).toInt64))) + ((I 37 3 : Int32).toInt64))) + (L 34 7))) + (L 34 8))) + ((K 46 0 : Int32).toInt64))], 0, 0, (mSH, K, L))) rfl ?_
  refine mRt (r := (some (.long ((31 * ((31 * ((31 * ((31 * ((31 * ((31 * ((31 * (dg_f (dg_f (dg_t (tvM I)) (I 35) T.1.1) (I 36) T.1.2.1)) + ((I 37 0 : Int32).toInt64))) + ((I 37 1 : Int32).toInt64))) + ((I 37 2 : Int32).toInt64))) + ((I 37 3 : Int32).toInt64))) + (L 34 7))) + (L 34 8))) + ((K 46 0 : Int32).toInt64))))) (h := (mSH, K, L)) rfl rfl ?_
  exact hq _ _ gK ⟨s, n, t, gK.m hm⟩ (Eq.trans (b := dg_all (tvM I) (I 35) (I 36) (I 37) T.1.1 T.1.2.1 (L 34 7) (L 34 8) (K 46 0)) rfl (congrArg (dg_all (tvM I) (I 35) (I 36) (I 37) T.1.1 T.1.2.1 (L 34 7) (L 34 8)) (bm_s fK.1.1 (an_ok hO).le1)))
theorem z_dgl2 {ro : Nat → Nat × (Nat → Int32)} {Q : mPo} {d : Nat} {I : Nat → Nat → Int32} {L : Nat → Nat → Int64} {s n t : Nat} {T : ct_S} {B : ct_B} {kd g pe : Nat} (hm : mM s n t I) (hO : pm_O T B kd g pe) (hM : pm_M T B kd g pe I) (hq : ∀ r I1, mGr I I1 → mIM I1 → r = dg_all (tvM I) (I 35) (I 36) (I 37) T.1.1 T.1.2.1 (L 34 7) (L 34 8) (an_s (an_W T B kd g pe).1.1) → Q (some (.long r)) (mSH, I1, L)) : ∀ (e k : Nat), k + e = T.1.2.1 → mWP mTb_ mFT ro (d + 5, 159, 63, [some (.ref 34), some (.long (dg_f (dg_f (dg_t (tvM I)) (I 35) T.1.1) (I 36) k)), none, some (.int (nI k))], [], 0, 0, (mSH, I, L)) Q := by
  intro e
  induction e with
  | zero =>
    intro k he
    have ek : k = T.1.2.1 := by omega
    subst ek
    have z : I 34 3 ≤ nI T.1.2.1 := by
      rw [hM.1.2.1]
      exact nI_le (Nat.le_refl _) (by have := hO.1.2.1; omega)
    exact s_dg2 (fun _ => z_dg3 hm hO hM hq) (fun c => absurd z c) (fun c => absurd z c)
  | succ e ih =>
    intro k he
    have z : ¬ I 34 3 ≤ nI k := by
      rw [hM.1.2.1]
      exact nI_ge (by omega) (by have := hO.1.2.1; omega)
    refine s_dg2 (fun c => absurd c z) (fun _ => vp_in_nI (by have := hO.1.2.1; omega) (by omega)) (fun _ => ?_)
    rw [nI_clamp (by have := hO.1.2.1; omega), nI_1]
    exact ih (k + 1) (by omega)
theorem z_dgl1 {ro : Nat → Nat × (Nat → Int32)} {Q : mPo} {d : Nat} {I : Nat → Nat → Int32} {L : Nat → Nat → Int64} {s n t : Nat} {T : ct_S} {B : ct_B} {kd g pe : Nat} (hm : mM s n t I) (hO : pm_O T B kd g pe) (hM : pm_M T B kd g pe I) (hq : ∀ r I1, mGr I I1 → mIM I1 → r = dg_all (tvM I) (I 35) (I 36) (I 37) T.1.1 T.1.2.1 (L 34 7) (L 34 8) (an_s (an_W T B kd g pe).1.1) → Q (some (.long r)) (mSH, I1, L)) : ∀ (e k : Nat), k + e = T.1.1 → mWP mTb_ mFT ro (d + 5, 159, 33, [some (.ref 34), some (.long (dg_f (dg_t (tvM I)) (I 35) k)), none, some (.int (nI k))], [], 0, 0, (mSH, I, L)) Q := by
  intro e
  induction e with
  | zero =>
    intro k he
    have ek : k = T.1.1 := by omega
    subst ek
    have z : I 34 1 ≤ nI T.1.1 := by
      rw [hM.1.1]
      exact nI_le (Nat.le_refl _) (by have := hO.1.1; omega)
    exact s_dg1 (fun _ => z_dgl2 hm hO hM hq T.1.2.1 0 (by omega)) (fun c => absurd z c) (fun c => absurd z c)
  | succ e ih =>
    intro k he
    have z : ¬ I 34 1 ≤ nI k := by
      rw [hM.1.1]
      exact nI_ge (by omega) (by have := hO.1.1; omega)
    refine s_dg1 (fun c => absurd c z) (fun _ => vp_in_nI (by have := hO.1.1; omega) (by omega)) (fun _ => ?_)
    rw [nI_clamp (by have := hO.1.1; omega), nI_1]
    exact ih (k + 1) (by omega)
theorem z_ndigestE {ro : Nat → Nat × (Nat → Int32)} {Q : mPo} {d : Nat} {I : Nat → Nat → Int32} {L : Nat → Nat → Int64} {s n t : Nat} {T : ct_S} {B : ct_B} {kd g pe : Nat} (hm : mM s n t I) (hO : pm_O T B kd g pe) (hM : pm_M T B kd g pe I) (hq : ∀ r I1, mGr I I1 → mIM I1 → r = dg_all (tvM I) (I 35) (I 36) (I 37) T.1.1 T.1.2.1 (L 34 7) (L 34 8) (an_s (an_W T B kd g pe).1.1) → Q (some (.long r)) (mSH, I1, L))   : mWP mTb_ mFT ro (d + 5, 159, 0, [some (.ref 34), none, none, none], [], 0, 0, (mSH, I, L)) Q := by
  refine mB 6 (s2 := (d + 5, 159, 9, [some (.ref 34), some (.long 2003), none, some (.int 0)], [.int 10, .int 0], 0, 0, (mSH, I, L))) rfl ?_
  refine mBF (s3 := (d + 5, 159, 12, [some (.ref 34), some (.long 2003), none, some (.int 0)], [], 0, 0, (mSH, I, L))) rfl (by decide) ?_
  refine mB 5 (s2 := (d + 5, 159, 19, [some (.ref 34), some (.long 2003), none, some (.int 0)], [.int 0, .ref 34, .long 62093], 0, 0, (mSH, I, L))) rfl ?_
  refine mCall (s2 := (d + 4, 157, 0, [some (.ref 34), some (.int 0)], [], 0, 0, (mSH, I, L))) rfl ?_
  refine mB 1 (s2 := (d + 4, 157, 1, [some (.ref 34), some (.int 0)], [.int 0], 0, 0, (mSH, I, L))) rfl ?_
  refine mSw1 (t := (d + 4, 157, 44, [some (.ref 34), some (.int 0)], [], 0, 0, (mSH, I, L))) rfl rfl ?_
  refine mB 3 (s2 := (d + 4, 157, 49, [some (.ref 34), some (.int 0)], [.int 0, .ref 39], 0, 0, (mSH, I, L))) rfl ?_
  refine mRq (s2 := (d + 4, 157, 50, [some (.ref 34), some (.int 0)], [.int (I 39 0)], 0, 0, (mSH, I, L))) rfl (by decide) ?_
  refine mRt (r := (some (.int (I 39 0)))) (h := (mSH, I, L)) rfl (mRet_int rfl) ?_
  show mWP mTb_ mFT ro (d + 5, 159, 22, [some (.ref 34), some (.long 2003), none, some (.int 0)], [.int (I 39 0), .long 62093], 0, 0, (mSH, I, L)) _
  refine mB 7 (s2 := (d + 5, 159, 9, [some (.ref 34), some (.long (62093 + ((I 39 0 : Int32).toInt64))), none, some (.int 1)], [.int 10, .int 1], 0, 0, (mSH, I, L))) rfl ?_
  refine mBF (s3 := (d + 5, 159, 12, [some (.ref 34), some (.long (62093 + ((I 39 0 : Int32).toInt64))), none, some (.int 1)], [], 0, 0, (mSH, I, L))) rfl (by decide) ?_
  refine mB 5 (s2 := (d + 5, 159, 19, [some (.ref 34), some (.long (62093 + ((I 39 0 : Int32).toInt64))), none, some (.int 1)], [.int 1, .ref 34, .long (31 * (62093 + ((I 39 0 : Int32).toInt64)))], 0, 0, (mSH, I, L))) rfl ?_
  refine mCall (s2 := (d + 4, 157, 0, [some (.ref 34), some (.int 1)], [], 0, 0, (mSH, I, L))) rfl ?_
  refine mB 1 (s2 := (d + 4, 157, 1, [some (.ref 34), some (.int 1)], [.int 1], 0, 0, (mSH, I, L))) rfl ?_
  refine mSw1 (t := (d + 4, 157, 44, [some (.ref 34), some (.int 1)], [], 0, 0, (mSH, I, L))) rfl rfl ?_
  refine mB 3 (s2 := (d + 4, 157, 49, [some (.ref 34), some (.int 1)], [.int 1, .ref 39], 0, 0, (mSH, I, L))) rfl ?_
  refine mRq (s2 := (d + 4, 157, 50, [some (.ref 34), some (.int 1)], [.int (I 39 1)], 0, 0, (mSH, I, L))) rfl (by decide) ?_
  refine mRt (r := (some (.int (I 39 1)))) (h := (mSH, I, L)) rfl (mRet_int rfl) ?_
  show mWP mTb_ mFT ro (d + 5, 159, 22, [some (.ref 34), some (.long (62093 + ((I 39 0 : Int32).toInt64))), none, some (.int 1)], [.int (I 39 1), .long (31 * (62093 + ((I 39 0 : Int32).toInt64)))], 0, 0, (mSH, I, L)) _
  refine mB 7 (s2 := (d + 5, 159, 9, [some (.ref 34), some (.long ((31 * (62093 + ((I 39 0 : Int32).toInt64))) + ((I 39 1 : Int32).toInt64))), none, some (.int 2)], [.int 10, .int 2], 0, 0, (mSH, I, L))) rfl ?_
  refine mBF (s3 := (d + 5, 159, 12, [some (.ref 34), some (.long ((31 * (62093 + ((I 39 0 : Int32).toInt64))) + ((I 39 1 : Int32).toInt64))), none, some (.int 2)], [], 0, 0, (mSH, I, L))) rfl (by decide) ?_
  refine mB 5 (s2 := (d + 5, 159, 19, [some (.ref 34), some (.long ((31 * (62093 + ((I 39 0 : Int32).toInt64))) + ((I 39 1 : Int32).toInt64))), none, some (.int 2)], [.int 2, .ref 34, .long (31 * ((31 * (62093 + ((I 39 0 : Int32).toInt64))) + ((I 39 1 : Int32).toInt64)))], 0, 0, (mSH, I, L))) rfl ?_
  refine mCall (s2 := (d + 4, 157, 0, [some (.ref 34), some (.int 2)], [], 0, 0, (mSH, I, L))) rfl ?_
  refine mB 1 (s2 := (d + 4, 157, 1, [some (.ref 34), some (.int 2)], [.int 2], 0, 0, (mSH, I, L))) rfl ?_
  refine mSw1 (t := (d + 4, 157, 44, [some (.ref 34), some (.int 2)], [], 0, 0, (mSH, I, L))) rfl rfl ?_
  refine mB 3 (s2 := (d + 4, 157, 49, [some (.ref 34), some (.int 2)], [.int 2, .ref 39], 0, 0, (mSH, I, L))) rfl ?_
  refine mRq (s2 := (d + 4, 157, 50, [some (.ref 34), some (.int 2)], [.int (I 39 2)], 0, 0, (mSH, I, L))) rfl (by decide) ?_
  refine mRt (r := (some (.int (I 39 2)))) (h := (mSH, I, L)) rfl (mRet_int rfl) ?_
  show mWP mTb_ mFT ro (d + 5, 159, 22, [some (.ref 34), some (.long ((31 * (62093 + ((I 39 0 : Int32).toInt64))) + ((I 39 1 : Int32).toInt64))), none, some (.int 2)], [.int (I 39 2), .long (31 * ((31 * (62093 + ((I 39 0 : Int32).toInt64))) + ((I 39 1 : Int32).toInt64)))], 0, 0, (mSH, I, L)) _
  refine mB 7 (s2 := (d + 5, 159, 9, [some (.ref 34), some (.long ((31 * ((31 * (62093 + ((I 39 0 : Int32).toInt64))) + ((I 39 1 : Int32).toInt64))) + ((I 39 2 : Int32).toInt64))), none, some (.int 3)], [.int 10, .int 3], 0, 0, (mSH, I, L))) rfl ?_
  refine mBF (s3 := (d + 5, 159, 12, [some (.ref 34), some (.long ((31 * ((31 * (62093 + ((I 39 0 : Int32).toInt64))) + ((I 39 1 : Int32).toInt64))) + ((I 39 2 : Int32).toInt64))), none, some (.int 3)], [], 0, 0, (mSH, I, L))) rfl (by decide) ?_
  refine mB 5 (s2 := (d + 5, 159, 19, [some (.ref 34), some (.long ((31 * ((31 * (62093 + ((I 39 0 : Int32).toInt64))) + ((I 39 1 : Int32).toInt64))) + ((I 39 2 : Int32).toInt64))), none, some (.int 3)], [.int 3, .ref 34, .long (31 * ((31 * ((31 * (62093 + ((I 39 0 : Int32).toInt64))) + ((I 39 1 : Int32).toInt64))) + ((I 39 2 : Int32).toInt64)))], 0, 0, (mSH, I, L))) rfl ?_
  refine mCall (s2 := (d + 4, 157, 0, [some (.ref 34), some (.int 3)], [], 0, 0, (mSH, I, L))) rfl ?_
  refine mB 1 (s2 := (d + 4, 157, 1, [some (.ref 34), some (.int 3)], [.int 3], 0, 0, (mSH, I, L))) rfl ?_
  refine mSw1 (t := (d + 4, 157, 51, [some (.ref 34), some (.int 3)], [], 0, 0, (mSH, I, L))) rfl rfl ?_
  refine mB 2 (s2 := (d + 4, 157, 55, [some (.ref 34), some (.int 3)], [.int (I 34 11)], 0, 0, (mSH, I, L))) rfl ?_
  refine mRt (r := (some (.int (I 34 11)))) (h := (mSH, I, L)) rfl (mRet_int rfl) ?_
  show mWP mTb_ mFT ro (d + 5, 159, 22, [some (.ref 34), some (.long ((31 * ((31 * (62093 + ((I 39 0 : Int32).toInt64))) + ((I 39 1 : Int32).toInt64))) + ((I 39 2 : Int32).toInt64))), none, some (.int 3)], [.int (I 34 11), .long (31 * ((31 * ((31 * (62093 + ((I 39 0 : Int32).toInt64))) + ((I 39 1 : Int32).toInt64))) + ((I 39 2 : Int32).toInt64)))], 0, 0, (mSH, I, L)) _
  refine mB 7 (s2 := (d + 5, 159, 9, [some (.ref 34), some (.long ((31 * ((31 * ((31 * (62093 + ((I 39 0 : Int32).toInt64))) + ((I 39 1 : Int32).toInt64))) + ((I 39 2 : Int32).toInt64))) + ((I 34 11 : Int32).toInt64))), none, some (.int 4)], [.int 10, .int 4], 0, 0, (mSH, I, L))) rfl ?_
  refine mBF (s3 := (d + 5, 159, 12, [some (.ref 34), some (.long ((31 * ((31 * ((31 * (62093 + ((I 39 0 : Int32).toInt64))) + ((I 39 1 : Int32).toInt64))) + ((I 39 2 : Int32).toInt64))) + ((I 34 11 : Int32).toInt64))), none, some (.int 4)], [], 0, 0, (mSH, I, L))) rfl (by decide) ?_
  refine mB 5 (s2 := (d + 5, 159, 19, [some (.ref 34), some (.long ((31 * ((31 * ((31 * (62093 + ((I 39 0 : Int32).toInt64))) + ((I 39 1 : Int32).toInt64))) + ((I 39 2 : Int32).toInt64))) + ((I 34 11 : Int32).toInt64))), none, some (.int 4)], [.int 4, .ref 34, .long (31 * ((31 * ((31 * ((31 * (62093 + ((I 39 0 : Int32).toInt64))) + ((I 39 1 : Int32).toInt64))) + ((I 39 2 : Int32).toInt64))) + ((I 34 11 : Int32).toInt64)))], 0, 0, (mSH, I, L))) rfl ?_
  refine mCall (s2 := (d + 4, 157, 0, [some (.ref 34), some (.int 4)], [], 0, 0, (mSH, I, L))) rfl ?_
  refine mB 1 (s2 := (d + 4, 157, 1, [some (.ref 34), some (.int 4)], [.int 4], 0, 0, (mSH, I, L))) rfl ?_
  refine mSw1 (t := (d + 4, 157, 56, [some (.ref 34), some (.int 4)], [], 0, 0, (mSH, I, L))) rfl rfl ?_
  refine mB 2 (s2 := (d + 4, 157, 60, [some (.ref 34), some (.int 4)], [.int (I 34 1)], 0, 0, (mSH, I, L))) rfl ?_
  refine mRt (r := (some (.int (I 34 1)))) (h := (mSH, I, L)) rfl (mRet_int rfl) ?_
  show mWP mTb_ mFT ro (d + 5, 159, 22, [some (.ref 34), some (.long ((31 * ((31 * ((31 * (62093 + ((I 39 0 : Int32).toInt64))) + ((I 39 1 : Int32).toInt64))) + ((I 39 2 : Int32).toInt64))) + ((I 34 11 : Int32).toInt64))), none, some (.int 4)], [.int (I 34 1), .long (31 * ((31 * ((31 * ((31 * (62093 + ((I 39 0 : Int32).toInt64))) + ((I 39 1 : Int32).toInt64))) + ((I 39 2 : Int32).toInt64))) + ((I 34 11 : Int32).toInt64)))], 0, 0, (mSH, I, L)) _
  refine mB 7 (s2 := (d + 5, 159, 9, [some (.ref 34), some (.long ((31 * ((31 * ((31 * ((31 * (62093 + ((I 39 0 : Int32).toInt64))) + ((I 39 1 : Int32).toInt64))) + ((I 39 2 : Int32).toInt64))) + ((I 34 11 : Int32).toInt64))) + ((I 34 1 : Int32).toInt64))), none, some (.int 5)], [.int 10, .int 5], 0, 0, (mSH, I, L))) rfl ?_
  refine mBF (s3 := (d + 5, 159, 12, [some (.ref 34), some (.long ((31 * ((31 * ((31 * ((31 * (62093 + ((I 39 0 : Int32).toInt64))) + ((I 39 1 : Int32).toInt64))) + ((I 39 2 : Int32).toInt64))) + ((I 34 11 : Int32).toInt64))) + ((I 34 1 : Int32).toInt64))), none, some (.int 5)], [], 0, 0, (mSH, I, L))) rfl (by decide) ?_
  refine mB 5 (s2 := (d + 5, 159, 19, [some (.ref 34), some (.long ((31 * ((31 * ((31 * ((31 * (62093 + ((I 39 0 : Int32).toInt64))) + ((I 39 1 : Int32).toInt64))) + ((I 39 2 : Int32).toInt64))) + ((I 34 11 : Int32).toInt64))) + ((I 34 1 : Int32).toInt64))), none, some (.int 5)], [.int 5, .ref 34, .long (31 * ((31 * ((31 * ((31 * ((31 * (62093 + ((I 39 0 : Int32).toInt64))) + ((I 39 1 : Int32).toInt64))) + ((I 39 2 : Int32).toInt64))) + ((I 34 11 : Int32).toInt64))) + ((I 34 1 : Int32).toInt64)))], 0, 0, (mSH, I, L))) rfl ?_
  refine mCall (s2 := (d + 4, 157, 0, [some (.ref 34), some (.int 5)], [], 0, 0, (mSH, I, L))) rfl ?_
  refine mB 1 (s2 := (d + 4, 157, 1, [some (.ref 34), some (.int 5)], [.int 5], 0, 0, (mSH, I, L))) rfl ?_
  refine mSw1 (t := (d + 4, 157, 61, [some (.ref 34), some (.int 5)], [], 0, 0, (mSH, I, L))) rfl rfl ?_
  refine mB 2 (s2 := (d + 4, 157, 65, [some (.ref 34), some (.int 5)], [.int (I 34 3)], 0, 0, (mSH, I, L))) rfl ?_
  refine mRt (r := (some (.int (I 34 3)))) (h := (mSH, I, L)) rfl (mRet_int rfl) ?_
  show mWP mTb_ mFT ro (d + 5, 159, 22, [some (.ref 34), some (.long ((31 * ((31 * ((31 * ((31 * (62093 + ((I 39 0 : Int32).toInt64))) + ((I 39 1 : Int32).toInt64))) + ((I 39 2 : Int32).toInt64))) + ((I 34 11 : Int32).toInt64))) + ((I 34 1 : Int32).toInt64))), none, some (.int 5)], [.int (I 34 3), .long (31 * ((31 * ((31 * ((31 * ((31 * (62093 + ((I 39 0 : Int32).toInt64))) + ((I 39 1 : Int32).toInt64))) + ((I 39 2 : Int32).toInt64))) + ((I 34 11 : Int32).toInt64))) + ((I 34 1 : Int32).toInt64)))], 0, 0, (mSH, I, L)) _
  refine mB 7 (s2 := (d + 5, 159, 9, [some (.ref 34), some (.long ((31 * ((31 * ((31 * ((31 * ((31 * (62093 + ((I 39 0 : Int32).toInt64))) + ((I 39 1 : Int32).toInt64))) + ((I 39 2 : Int32).toInt64))) + ((I 34 11 : Int32).toInt64))) + ((I 34 1 : Int32).toInt64))) + ((I 34 3 : Int32).toInt64))), none, some (.int 6)], [.int 10, .int 6], 0, 0, (mSH, I, L))) rfl ?_
  refine mBF (s3 := (d + 5, 159, 12, [some (.ref 34), some (.long ((31 * ((31 * ((31 * ((31 * ((31 * (62093 + ((I 39 0 : Int32).toInt64))) + ((I 39 1 : Int32).toInt64))) + ((I 39 2 : Int32).toInt64))) + ((I 34 11 : Int32).toInt64))) + ((I 34 1 : Int32).toInt64))) + ((I 34 3 : Int32).toInt64))), none, some (.int 6)], [], 0, 0, (mSH, I, L))) rfl (by decide) ?_
  refine mB 5 (s2 := (d + 5, 159, 19, [some (.ref 34), some (.long ((31 * ((31 * ((31 * ((31 * ((31 * (62093 + ((I 39 0 : Int32).toInt64))) + ((I 39 1 : Int32).toInt64))) + ((I 39 2 : Int32).toInt64))) + ((I 34 11 : Int32).toInt64))) + ((I 34 1 : Int32).toInt64))) + ((I 34 3 : Int32).toInt64))), none, some (.int 6)], [.int 6, .ref 34, .long (31 * ((31 * ((31 * ((31 * ((31 * ((31 * (62093 + ((I 39 0 : Int32).toInt64))) + ((I 39 1 : Int32).toInt64))) + ((I 39 2 : Int32).toInt64))) + ((I 34 11 : Int32).toInt64))) + ((I 34 1 : Int32).toInt64))) + ((I 34 3 : Int32).toInt64)))], 0, 0, (mSH, I, L))) rfl ?_
  refine mCall (s2 := (d + 4, 157, 0, [some (.ref 34), some (.int 6)], [], 0, 0, (mSH, I, L))) rfl ?_
  refine mB 1 (s2 := (d + 4, 157, 1, [some (.ref 34), some (.int 6)], [.int 6], 0, 0, (mSH, I, L))) rfl ?_
  refine mSw1 (t := (d + 4, 157, 66, [some (.ref 34), some (.int 6)], [], 0, 0, (mSH, I, L))) rfl rfl ?_
  refine mB 2 (s2 := (d + 4, 157, 70, [some (.ref 34), some (.int 6)], [.int (I 34 4)], 0, 0, (mSH, I, L))) rfl ?_
  refine mRt (r := (some (.int (I 34 4)))) (h := (mSH, I, L)) rfl (mRet_int rfl) ?_
  show mWP mTb_ mFT ro (d + 5, 159, 22, [some (.ref 34), some (.long ((31 * ((31 * ((31 * ((31 * ((31 * (62093 + ((I 39 0 : Int32).toInt64))) + ((I 39 1 : Int32).toInt64))) + ((I 39 2 : Int32).toInt64))) + ((I 34 11 : Int32).toInt64))) + ((I 34 1 : Int32).toInt64))) + ((I 34 3 : Int32).toInt64))), none, some (.int 6)], [.int (I 34 4), .long (31 * ((31 * ((31 * ((31 * ((31 * ((31 * (62093 + ((I 39 0 : Int32).toInt64))) + ((I 39 1 : Int32).toInt64))) + ((I 39 2 : Int32).toInt64))) + ((I 34 11 : Int32).toInt64))) + ((I 34 1 : Int32).toInt64))) + ((I 34 3 : Int32).toInt64)))], 0, 0, (mSH, I, L)) _
  refine mB 7 (s2 := (d + 5, 159, 9, [some (.ref 34), some (.long ((31 * ((31 * ((31 * ((31 * ((31 * ((31 * (62093 + ((I 39 0 : Int32).toInt64))) + ((I 39 1 : Int32).toInt64))) + ((I 39 2 : Int32).toInt64))) + ((I 34 11 : Int32).toInt64))) + ((I 34 1 : Int32).toInt64))) + ((I 34 3 : Int32).toInt64))) + ((I 34 4 : Int32).toInt64))), none, some (.int 7)], [.int 10, .int 7], 0, 0, (mSH, I, L))) rfl ?_
  refine mBF (s3 := (d + 5, 159, 12, [some (.ref 34), some (.long ((31 * ((31 * ((31 * ((31 * ((31 * ((31 * (62093 + ((I 39 0 : Int32).toInt64))) + ((I 39 1 : Int32).toInt64))) + ((I 39 2 : Int32).toInt64))) + ((I 34 11 : Int32).toInt64))) + ((I 34 1 : Int32).toInt64))) + ((I 34 3 : Int32).toInt64))) + ((I 34 4 : Int32).toInt64))), none, some (.int 7)], [], 0, 0, (mSH, I, L))) rfl (by decide) ?_
  refine mB 5 (s2 := (d + 5, 159, 19, [some (.ref 34), some (.long ((31 * ((31 * ((31 * ((31 * ((31 * ((31 * (62093 + ((I 39 0 : Int32).toInt64))) + ((I 39 1 : Int32).toInt64))) + ((I 39 2 : Int32).toInt64))) + ((I 34 11 : Int32).toInt64))) + ((I 34 1 : Int32).toInt64))) + ((I 34 3 : Int32).toInt64))) + ((I 34 4 : Int32).toInt64))), none, some (.int 7)], [.int 7, .ref 34, .long (31 * ((31 * ((31 * ((31 * ((31 * ((31 * ((31 * (62093 + ((I 39 0 : Int32).toInt64))) + ((I 39 1 : Int32).toInt64))) + ((I 39 2 : Int32).toInt64))) + ((I 34 11 : Int32).toInt64))) + ((I 34 1 : Int32).toInt64))) + ((I 34 3 : Int32).toInt64))) + ((I 34 4 : Int32).toInt64)))], 0, 0, (mSH, I, L))) rfl ?_
  refine mCall (s2 := (d + 4, 157, 0, [some (.ref 34), some (.int 7)], [], 0, 0, (mSH, I, L))) rfl ?_
  refine mB 1 (s2 := (d + 4, 157, 1, [some (.ref 34), some (.int 7)], [.int 7], 0, 0, (mSH, I, L))) rfl ?_
  refine mSw1 (t := (d + 4, 157, 71, [some (.ref 34), some (.int 7)], [], 0, 0, (mSH, I, L))) rfl rfl ?_
  refine mB 5 (s2 := (d + 4, 157, 79, [some (.ref 34), some (.int 7)], [.int 0, .ref 38], 0, 0, (mSH, I, L))) rfl ?_
  refine mRq (s2 := (d + 4, 157, 80, [some (.ref 34), some (.int 7)], [.int (I 38 0)], 0, 0, (mSH, I, L))) rfl (by decide) ?_
  refine mRt (r := (some (.int (I 38 0)))) (h := (mSH, I, L)) rfl (mRet_int rfl) ?_
  show mWP mTb_ mFT ro (d + 5, 159, 22, [some (.ref 34), some (.long ((31 * ((31 * ((31 * ((31 * ((31 * ((31 * (62093 + ((I 39 0 : Int32).toInt64))) + ((I 39 1 : Int32).toInt64))) + ((I 39 2 : Int32).toInt64))) + ((I 34 11 : Int32).toInt64))) + ((I 34 1 : Int32).toInt64))) + ((I 34 3 : Int32).toInt64))) + ((I 34 4 : Int32).toInt64))), none, some (.int 7)], [.int (I 38 0), .long (31 * ((31 * ((31 * ((31 * ((31 * ((31 * ((31 * (62093 + ((I 39 0 : Int32).toInt64))) + ((I 39 1 : Int32).toInt64))) + ((I 39 2 : Int32).toInt64))) + ((I 34 11 : Int32).toInt64))) + ((I 34 1 : Int32).toInt64))) + ((I 34 3 : Int32).toInt64))) + ((I 34 4 : Int32).toInt64)))], 0, 0, (mSH, I, L)) _
  refine mB 7 (s2 := (d + 5, 159, 9, [some (.ref 34), some (.long ((31 * ((31 * ((31 * ((31 * ((31 * ((31 * ((31 * (62093 + ((I 39 0 : Int32).toInt64))) + ((I 39 1 : Int32).toInt64))) + ((I 39 2 : Int32).toInt64))) + ((I 34 11 : Int32).toInt64))) + ((I 34 1 : Int32).toInt64))) + ((I 34 3 : Int32).toInt64))) + ((I 34 4 : Int32).toInt64))) + ((I 38 0 : Int32).toInt64))), none, some (.int 8)], [.int 10, .int 8], 0, 0, (mSH, I, L))) rfl ?_
  refine mBF (s3 := (d + 5, 159, 12, [some (.ref 34), some (.long ((31 * ((31 * ((31 * ((31 * ((31 * ((31 * ((31 * (62093 + ((I 39 0 : Int32).toInt64))) + ((I 39 1 : Int32).toInt64))) + ((I 39 2 : Int32).toInt64))) + ((I 34 11 : Int32).toInt64))) + ((I 34 1 : Int32).toInt64))) + ((I 34 3 : Int32).toInt64))) + ((I 34 4 : Int32).toInt64))) + ((I 38 0 : Int32).toInt64))), none, some (.int 8)], [], 0, 0, (mSH, I, L))) rfl (by decide) ?_
  refine mB 5 (s2 := (d + 5, 159, 19, [some (.ref 34), some (.long ((31 * ((31 * ((31 * ((31 * ((31 * ((31 * ((31 * (62093 + ((I 39 0 : Int32).toInt64))) + ((I 39 1 : Int32).toInt64))) + ((I 39 2 : Int32).toInt64))) + ((I 34 11 : Int32).toInt64))) + ((I 34 1 : Int32).toInt64))) + ((I 34 3 : Int32).toInt64))) + ((I 34 4 : Int32).toInt64))) + ((I 38 0 : Int32).toInt64))), none, some (.int 8)], [.int 8, .ref 34, .long (31 * ((31 * ((31 * ((31 * ((31 * ((31 * ((31 * ((31 * (62093 + ((I 39 0 : Int32).toInt64))) + ((I 39 1 : Int32).toInt64))) + ((I 39 2 : Int32).toInt64))) + ((I 34 11 : Int32).toInt64))) + ((I 34 1 : Int32).toInt64))) + ((I 34 3 : Int32).toInt64))) + ((I 34 4 : Int32).toInt64))) + ((I 38 0 : Int32).toInt64)))], 0, 0, (mSH, I, L))) rfl ?_
  refine mCall (s2 := (d + 4, 157, 0, [some (.ref 34), some (.int 8)], [], 0, 0, (mSH, I, L))) rfl ?_
  refine mB 1 (s2 := (d + 4, 157, 1, [some (.ref 34), some (.int 8)], [.int 8], 0, 0, (mSH, I, L))) rfl ?_
  refine mSw1 (t := (d + 4, 157, 71, [some (.ref 34), some (.int 8)], [], 0, 0, (mSH, I, L))) rfl rfl ?_
  refine mB 5 (s2 := (d + 4, 157, 79, [some (.ref 34), some (.int 8)], [.int 1, .ref 38], 0, 0, (mSH, I, L))) rfl ?_
  refine mRq (s2 := (d + 4, 157, 80, [some (.ref 34), some (.int 8)], [.int (I 38 1)], 0, 0, (mSH, I, L))) rfl (by decide) ?_
  refine mRt (r := (some (.int (I 38 1)))) (h := (mSH, I, L)) rfl (mRet_int rfl) ?_
  show mWP mTb_ mFT ro (d + 5, 159, 22, [some (.ref 34), some (.long ((31 * ((31 * ((31 * ((31 * ((31 * ((31 * ((31 * (62093 + ((I 39 0 : Int32).toInt64))) + ((I 39 1 : Int32).toInt64))) + ((I 39 2 : Int32).toInt64))) + ((I 34 11 : Int32).toInt64))) + ((I 34 1 : Int32).toInt64))) + ((I 34 3 : Int32).toInt64))) + ((I 34 4 : Int32).toInt64))) + ((I 38 0 : Int32).toInt64))), none, some (.int 8)], [.int (I 38 1), .long (31 * ((31 * ((31 * ((31 * ((31 * ((31 * ((31 * ((31 * (62093 + ((I 39 0 : Int32).toInt64))) + ((I 39 1 : Int32).toInt64))) + ((I 39 2 : Int32).toInt64))) + ((I 34 11 : Int32).toInt64))) + ((I 34 1 : Int32).toInt64))) + ((I 34 3 : Int32).toInt64))) + ((I 34 4 : Int32).toInt64))) + ((I 38 0 : Int32).toInt64)))], 0, 0, (mSH, I, L)) _
  refine mB 7 (s2 := (d + 5, 159, 9, [some (.ref 34), some (.long ((31 * ((31 * ((31 * ((31 * ((31 * ((31 * ((31 * ((31 * (62093 + ((I 39 0 : Int32).toInt64))) + ((I 39 1 : Int32).toInt64))) + ((I 39 2 : Int32).toInt64))) + ((I 34 11 : Int32).toInt64))) + ((I 34 1 : Int32).toInt64))) + ((I 34 3 : Int32).toInt64))) + ((I 34 4 : Int32).toInt64))) + ((I 38 0 : Int32).toInt64))) + ((I 38 1 : Int32).toInt64))), none, some (.int 9)], [.int 10, .int 9], 0, 0, (mSH, I, L))) rfl ?_
  refine mBF (s3 := (d + 5, 159, 12, [some (.ref 34), some (.long ((31 * ((31 * ((31 * ((31 * ((31 * ((31 * ((31 * ((31 * (62093 + ((I 39 0 : Int32).toInt64))) + ((I 39 1 : Int32).toInt64))) + ((I 39 2 : Int32).toInt64))) + ((I 34 11 : Int32).toInt64))) + ((I 34 1 : Int32).toInt64))) + ((I 34 3 : Int32).toInt64))) + ((I 34 4 : Int32).toInt64))) + ((I 38 0 : Int32).toInt64))) + ((I 38 1 : Int32).toInt64))), none, some (.int 9)], [], 0, 0, (mSH, I, L))) rfl (by decide) ?_
  refine mB 5 (s2 := (d + 5, 159, 19, [some (.ref 34), some (.long ((31 * ((31 * ((31 * ((31 * ((31 * ((31 * ((31 * ((31 * (62093 + ((I 39 0 : Int32).toInt64))) + ((I 39 1 : Int32).toInt64))) + ((I 39 2 : Int32).toInt64))) + ((I 34 11 : Int32).toInt64))) + ((I 34 1 : Int32).toInt64))) + ((I 34 3 : Int32).toInt64))) + ((I 34 4 : Int32).toInt64))) + ((I 38 0 : Int32).toInt64))) + ((I 38 1 : Int32).toInt64))), none, some (.int 9)], [.int 9, .ref 34, .long (31 * ((31 * ((31 * ((31 * ((31 * ((31 * ((31 * ((31 * ((31 * (62093 + ((I 39 0 : Int32).toInt64))) + ((I 39 1 : Int32).toInt64))) + ((I 39 2 : Int32).toInt64))) + ((I 34 11 : Int32).toInt64))) + ((I 34 1 : Int32).toInt64))) + ((I 34 3 : Int32).toInt64))) + ((I 34 4 : Int32).toInt64))) + ((I 38 0 : Int32).toInt64))) + ((I 38 1 : Int32).toInt64)))], 0, 0, (mSH, I, L))) rfl ?_
  refine mCall (s2 := (d + 4, 157, 0, [some (.ref 34), some (.int 9)], [], 0, 0, (mSH, I, L))) rfl ?_
  refine mB 1 (s2 := (d + 4, 157, 1, [some (.ref 34), some (.int 9)], [.int 9], 0, 0, (mSH, I, L))) rfl ?_
  refine mSw1 (t := (d + 4, 157, 71, [some (.ref 34), some (.int 9)], [], 0, 0, (mSH, I, L))) rfl rfl ?_
  refine mB 5 (s2 := (d + 4, 157, 79, [some (.ref 34), some (.int 9)], [.int 2, .ref 38], 0, 0, (mSH, I, L))) rfl ?_
  refine mRq (s2 := (d + 4, 157, 80, [some (.ref 34), some (.int 9)], [.int (I 38 2)], 0, 0, (mSH, I, L))) rfl (by decide) ?_
  refine mRt (r := (some (.int (I 38 2)))) (h := (mSH, I, L)) rfl (mRet_int rfl) ?_
  show mWP mTb_ mFT ro (d + 5, 159, 22, [some (.ref 34), some (.long ((31 * ((31 * ((31 * ((31 * ((31 * ((31 * ((31 * ((31 * (62093 + ((I 39 0 : Int32).toInt64))) + ((I 39 1 : Int32).toInt64))) + ((I 39 2 : Int32).toInt64))) + ((I 34 11 : Int32).toInt64))) + ((I 34 1 : Int32).toInt64))) + ((I 34 3 : Int32).toInt64))) + ((I 34 4 : Int32).toInt64))) + ((I 38 0 : Int32).toInt64))) + ((I 38 1 : Int32).toInt64))), none, some (.int 9)], [.int (I 38 2), .long (31 * ((31 * ((31 * ((31 * ((31 * ((31 * ((31 * ((31 * ((31 * (62093 + ((I 39 0 : Int32).toInt64))) + ((I 39 1 : Int32).toInt64))) + ((I 39 2 : Int32).toInt64))) + ((I 34 11 : Int32).toInt64))) + ((I 34 1 : Int32).toInt64))) + ((I 34 3 : Int32).toInt64))) + ((I 34 4 : Int32).toInt64))) + ((I 38 0 : Int32).toInt64))) + ((I 38 1 : Int32).toInt64)))], 0, 0, (mSH, I, L)) _
  refine mB 7 (s2 := (d + 5, 159, 9, [some (.ref 34), some (.long ((31 * ((31 * ((31 * ((31 * ((31 * ((31 * ((31 * ((31 * ((31 * (62093 + ((I 39 0 : Int32).toInt64))) + ((I 39 1 : Int32).toInt64))) + ((I 39 2 : Int32).toInt64))) + ((I 34 11 : Int32).toInt64))) + ((I 34 1 : Int32).toInt64))) + ((I 34 3 : Int32).toInt64))) + ((I 34 4 : Int32).toInt64))) + ((I 38 0 : Int32).toInt64))) + ((I 38 1 : Int32).toInt64))) + ((I 38 2 : Int32).toInt64))), none, some (.int 10)], [.int 10, .int 10], 0, 0, (mSH, I, L))) rfl ?_
  refine mBT (s2 := (d + 5, 159, 31, [some (.ref 34), some (.long ((31 * ((31 * ((31 * ((31 * ((31 * ((31 * ((31 * ((31 * ((31 * (62093 + ((I 39 0 : Int32).toInt64))) + ((I 39 1 : Int32).toInt64))) + ((I 39 2 : Int32).toInt64))) + ((I 34 11 : Int32).toInt64))) + ((I 34 1 : Int32).toInt64))) + ((I 34 3 : Int32).toInt64))) + ((I 34 4 : Int32).toInt64))) + ((I 38 0 : Int32).toInt64))) + ((I 38 1 : Int32).toInt64))) + ((I 38 2 : Int32).toInt64))), none, some (.int 10)], [], 0, 0, (mSH, I, L))) rfl (by decide) ?_
  refine mB 2 (s2 := (d + 5, 159, 33, [some (.ref 34), some (.long ((31 * ((31 * ((31 * ((31 * ((31 * ((31 * ((31 * ((31 * ((31 * (62093 + ((I 39 0 : Int32).toInt64))) + ((I 39 1 : Int32).toInt64))) + ((I 39 2 : Int32).toInt64))) + ((I 34 11 : Int32).toInt64))) + ((I 34 1 : Int32).toInt64))) + ((I 34 3 : Int32).toInt64))) + ((I 34 4 : Int32).toInt64))) + ((I 38 0 : Int32).toInt64))) + ((I 38 1 : Int32).toInt64))) + ((I 38 2 : Int32).toInt64))), none, some (.int 0)], [], 0, 0, (mSH, I, L))) rfl ?_
  exact z_dgl1 hm hO hM hq T.1.1 0 (by omega)
