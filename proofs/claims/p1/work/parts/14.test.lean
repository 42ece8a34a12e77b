theorem tt_row (ro : Nat → Nat × (Nat → Int32)) (I : Nat → Nat → Int32) (L : Nat → Nat → Int64) (Q : mPo) (hq : ∀ I', Q none ([(5, 0, [some 1, none]), (20, 16, [])], I', L)) : mWP mTb_ mFT ro (5, 38, 0, [some (.ref 0), some (.int 16)], [], 0, 0, ([(5, 0, [none, none])], I, L)) Q := by
  refine mU.wp 12 _ _ ?_
  refine And.intro (by decide) ?_
  refine And.intro trivial ?_
  exact hq _
