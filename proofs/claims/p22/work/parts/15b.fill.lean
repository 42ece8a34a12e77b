/-! Arrays.fill: its loop. -/
def mFl (I : Nat → Nat → Int32) (a n : Nat) (v : Int32) : Nat → Nat → Int32 := fun r j => if r = a then (if j < n then v else I r j) else I r j
theorem mFl_up {I : Nat → Nat → Int32} {a n : Nat} {v : Int32} : mUp (mFl I a n v) a n v = mFl I a (n + 1) v := by
  funext r j
  unfold mUp mFl
  by_cases h1 : r = a
  · by_cases h2 : j = n
    · subst h2
      simp [h1]
    · by_cases h3 : j < n
      · simp [h1, h2, h3, Nat.lt_succ_of_lt h3]
      · simp [h1, h2, h3, show ¬ j < n + 1 by omega]
  · simp [h1]
theorem mFl_0 {I : Nat → Nat → Int32} {a : Nat} {v : Int32} : mFl I a 0 v = I := by
  funext r j
  simp [mFl]
