/-! The two objects as their constructors leave them. -/
def mSH : List mSC := [(8, 0, [some 1, some 6, some 7, some 8, some 10, some 22, some 25, some 26, some 28, none, none, none]), (7, 0, [some 2, some 4, none]), (5, 0, [some 3, none]), (20, 16, []), (5, 0, [some 5, none]), (20, 8, []), (0, 0, [none, none, none, none]), (0, 0, [none, none, none, none]), (2, 0, [some 9]), (20, 3, []), (6, 0, [some 1, some 8, some 11, some 14, some 17, some 20, some 21]), (22, 2, [some 12, some 13]), (20, 154, []), (20, 154, []), (22, 2, [some 15, some 16]), (20, 154, []), (20, 154, []), (22, 2, [some 18, some 19]), (20, 154, []), (20, 154, []), (20, 154, []), (20, 154, []), (3, 0, [some 1, some 23, none, none]), (5, 0, [some 24, none]), (20, 8, []), (1, 0, [none, none]), (5, 0, [some 27, none]), (20, 120, []), (4, 0, [some 26, some 29, none]), (7, 0, [some 30, some 32, none]), (5, 0, [some 31, none]), (20, 16, []), (5, 0, [some 33, none]), (20, 8, []), (9, 0, [some 35, none, some 36, none, none, some 37, some 38, none, none, some 39, some 40, none, none, none, some 41, some 42, some 43, some 44, some 45, some 46, none, none, none, some 47]), (20, 16, []), (20, 8, []), (20, 4, []), (20, 3, []), (20, 3, []), (20, 120, []), (21, 23, []), (20, 16, []), (20, 8, []), (20, 9, []), (20, 9, []), (20, 20, []), (20, 9, [])]
abbrev mI0 : Nat → Nat → Int32 := fun _ _ => 0
abbrev mL0 : Nat → Nat → Int64 := fun _ _ => 0
abbrev mRo0 : Nat → Nat × (Nat → Int32) := fun _ => (0, fun _ => 0)
def mRA : Option (Option Value × mHp) := mRun mTb_ mFT mRo0 200 (10, 75, 0, [some (.ref 0)], [], 0, 0, ([(8, 0, mRange 12)], mI0, mL0))
theorem mRA_ok : (match mRA with
  | some (none, h) => decide (h.1 = mSH.take 34) && (decide (h.2.1 9 2 = 5) && decide (h.2.1 6 2 = 99))
  | _ => false) = true := by decide +kernel
