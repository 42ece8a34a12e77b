/-! What may change, and what always holds, of the two objects' cells. -/
def mMem : List Nat → Nat → Bool
  | [], _ => false
  | a :: r, x => bif Nat.beq a x then true else mMem r x
/-- the cells of S from K, the others from I -/
def mMix (S : List Nat) (I K : Nat → Nat → Int32) : Nat → Nat → Int32 := fun r j => bif mMem S r then K r j else I r j
theorem mMix_in {S : List Nat} {I K : Nat → Nat → Int32} {r : Nat} (h : mMem S r = true) : mMix S I K r = K r := by
  funext j
  unfold mMix
  rw [h]
  rfl
theorem mMix_out {S : List Nat} {I K : Nat → Nat → Int32} {r : Nat} (h : mMem S r = false) : mMix S I K r = I r := by
  funext j
  unfold mMix
  rw [h]
  rfl
/-- outside S nothing has changed -/
def mFr (S : List Nat) (I I' : Nat → Nat → Int32) : Prop := ∀ c, mMem S c = false → I' c = I c
theorem mFr.rf {S : List Nat} {I : Nat → Nat → Int32} : mFr S I I := fun _ _ => rfl
theorem mMem_ne {S : List Nat} {c r : Nat} (hc : mMem S c = false) (hr : mMem S r = true) : c ≠ r := fun e => by
  subst e
  rw [hc] at hr
  cases hr
theorem mFr.up {S : List Nat} {I I' : Nat → Nat → Int32} {r j : Nat} {v : Int32} (hr : mMem S r = true) (h : mFr S I I') : mFr S I (mUp I' r j v) := fun c hc => by
  rw [mUp_row (mMem_ne hc hr)]
  exact h c hc
theorem mFr.fl {S : List Nat} {I I' : Nat → Nat → Int32} {r n : Nat} {v : Int32} (hr : mMem S r = true) (h : mFr S I I') : mFr S I (mFl I' r n v) := fun c hc => by
  have := mMem_ne hc hr
  rw [← h c hc]
  funext j
  unfold mFl
  rw [if_neg this]
theorem mMem_sub {S S' : List Nat} (h : S'.all (mMem S) = true) {c : Nat} (hc : mMem S c = false) : mMem S' c = false := by
  induction S' with
  | nil => rfl
  | cons a r ih =>
    rw [List.all_cons, Bool.and_eq_true] at h
    unfold mMem
    cases e : Nat.beq a c with
    | true =>
      have e := Nat.eq_of_beq_eq_true e
      subst e
      rw [hc] at h
      cases h.1
    | false => exact ih h.2
theorem mFr.mix {S S' : List Nat} {I I' K : Nat → Nat → Int32} (hs : S'.all (mMem S) = true) (h : mFr S I I') : mFr S I (mMix S' I' K) := fun c hc => by
  rw [mMix_out (mMem_sub hs hc)]
  exact h c hc
theorem mFr.eq {S : List Nat} {I I' : Nat → Nat → Int32} (h : mFr S I I') : mMix S I I' = I' := by
  funext c
  cases e : mMem S c with
  | true => rw [mMix_in e]
  | false => rw [mMix_out e, h c e]
/-- a count of a row -/
def mCn (I : Nat → Nat → Int32) (q n : Nat) : Prop := 0 ≤ (I q 1).toInt ∧ (I q 1).toInt ≤ n
theorem mCn.hi {I : Nat → Nat → Int32} {q n : Nat} (h : mCn I q n) : (I q 1).toInt ≤ n := h.2
theorem mCn.nat {I : Nat → Nat → Int32} {q n : Nat} (h : mCn I q n) (hn : n < 2 ^ 31) : ∃ k : Nat, k ≤ n ∧ I q 1 = nI k := by
  obtain ⟨h1, h2⟩ := h
  refine ⟨(I q 1).toInt.toNat, by omega, ?_⟩
  apply Int32.toInt_inj.mp
  rw [nI_toInt (by omega)]
  omega
theorem mCn.of {I : Nat → Nat → Int32} {q n k : Nat} (e : I q 1 = nI k) (hk : k ≤ n) (hn : n < 2 ^ 31) : mCn I q n := by
  unfold mCn
  rw [e, nI_toInt (by omega)]
  omega
theorem mCn_0 {I : Nat → Nat → Int32} {q n : Nat} : mCn (mUp I q 1 0) q n := by
  have e : mUp I q 1 0 q 1 = 0 := by simp [mUp]
  unfold mCn
  rw [e]
  exact ⟨by decide, by rw [show (0 : Int32).toInt = 0 from rfl]; omega⟩
/-- the ranks of the search are 0 and 1 -/
theorem mVl {x : Int32} {n : Nat} (h : vp_in x n) : x.toNatClampNeg < n := Nat.lt_of_not_le (fun z => (show ¬ (x < 0 ∨ n ≤ x.toNatClampNeg) from h) (Or.inr z))
def mRk (I : Nat → Nat → Int32) : Prop := ∀ j, j < 154 → (I 18 j = 0 ∨ I 18 j = 1) ∧ (I 19 j = 0 ∨ I 19 j = 1)
abbrev mSS : List Nat := [12, 13, 15, 16, 18, 19, 20, 21]
abbrev mSM : List Nat := [22, 23, 24]
abbrev mSR : List Nat := [28, 29, 30, 31, 32, 33]
abbrev mCL : List Nat := [0, 1, 2, 3, 4, 5, 6, 7, 8, 9, 10, 11, 12, 13, 14, 15, 16, 17, 18, 19, 20, 21, 22, 23, 24, 25, 26, 27, 28, 29, 30, 31, 32, 33]
abbrev mML : List Nat := [34, 35, 36, 37, 38, 39, 40, 41, 42, 43, 44, 45, 46, 47]
def mIC (I : Nat → Nat → Int32) : Prop := mCn I 2 16 ∧ mCn I 4 8 ∧ mCn I 23 8 ∧ mCn I 26 120 ∧ mCn I 30 16 ∧ mCn I 32 8 ∧ mRk I
theorem mVpI {x y : Int32} {n : Nat} (h0 : ¬ x < 0) (h1 : ¬ y ≤ x) (hy : y.toInt ≤ n) : vp_in x n := by
  rw [vp_in_iff]
  simp only [Int32.lt_iff_toInt_lt, Int32.le_iff_toInt_le] at h0 h1
  have e : (0 : Int32).toInt = 0 := rfl
  omega
theorem mVpC {I : Nat → Nat → Int32} {q n : Nat} (h : mCn I q n) {m : Int32} (hm : I q 1 < m) (e : m.toInt = n) : vp_in (I q 1) n := by
  rw [vp_in_iff]
  simp only [Int32.lt_iff_toInt_lt] at hm
  have := h.1
  omega
theorem mVp_nI {x : Int32} {k n : Nat} (e : x = nI k) (h : k < n) (hn : n < 2 ^ 31) : vp_in x n := by
  rw [e]
  exact vp_in_nI h (by omega)
