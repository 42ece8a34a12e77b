/-! p1: one call on the fresh objects; written by a program (wip/mk_p1.py). -/
def mFF (I : Nat → Nat → Int32) (L : Nat → Nat → Int64) : Prop := I 0 9 = 0 ∧ I 0 10 = 0 ∧ I 0 11 = 0 ∧ I 1 2 = 0 ∧ I 2 1 = 0 ∧ I 4 1 = 0 ∧ I 6 0 = 0 ∧ I 6 1 = 1 ∧ I 6 2 = 99 ∧ I 6 3 = 1 ∧ I 7 0 = 0 ∧ I 7 1 = 1 ∧ I 7 2 = 99 ∧ I 7 3 = 1 ∧ I 9 0 = 0 ∧ I 9 1 = 1 ∧ I 9 2 = 5 ∧ I 25 0 = 0 ∧ I 25 1 = 1 ∧ I 26 1 = 0 ∧ I 30 1 = 0 ∧ I 32 1 = 0 ∧ I 34 1 = 0 ∧ I 34 3 = 0 ∧ I 34 4 = 0 ∧ I 34 11 = 0 ∧ I 37 0 = 0 ∧ I 37 1 = 1 ∧ I 37 2 = 99 ∧ I 37 3 = 1 ∧ I 38 0 = 0 ∧ I 38 1 = 1 ∧ I 38 2 = 5 ∧ I 39 0 = 0 ∧ I 39 1 = 0 ∧ I 39 2 = 0 ∧ I 41 0 = 121 ∧ I 41 1 = 101 ∧ I 41 2 = 97 ∧ I 41 3 = 114 ∧ I 41 4 = 115 ∧ I 41 5 = 32 ∧ L 34 7 = 0 ∧ L 34 8 = 1
def mRO (ro : Nat → Nat × (Nat → Int32)) : Prop := (ro 0).1 = 4 ∧ (ro 1).1 = 3 ∧ (ro 1).2 0 = 0 ∧ (ro 1).2 1 = 1 ∧ (ro 1).2 2 = 0 ∧ (ro 2).1 = 3 ∧ (ro 2).2 0 = 3 ∧ (ro 2).2 1 = 9 ∧ (ro 2).2 2 = 99 ∧ (ro 13).1 = 5
theorem mTn0 : (0 : Int32).toNatClampNeg = 0 := rfl
theorem mTn1 : (1 : Int32).toNatClampNeg = 1 := rfl
theorem mTn2 : (2 : Int32).toNatClampNeg = 2 := rfl
theorem mTs7 : ((7 : Int32) - 7).toNatClampNeg = 0 := rfl
theorem mTs8 : ((8 : Int32) - 7).toNatClampNeg = 1 := rfl
theorem mTs9 : ((9 : Int32) - 7).toNatClampNeg = 2 := rfl
theorem mTn10 : (10 : Int32).toNatClampNeg = 10 := rfl
theorem mLi0 : (0 : Int32).toInt = 0 := rfl
theorem mLi1 : (1 : Int32).toInt = 1 := rfl
theorem mLi2 : (2 : Int32).toInt = 2 := rfl
theorem mLi3 : (3 : Int32).toInt = 3 := rfl
theorem mLi4 : (4 : Int32).toInt = 4 := rfl
theorem mLi5 : (5 : Int32).toInt = 5 := rfl
theorem mLi6 : (6 : Int32).toInt = 6 := rfl
theorem mLi7 : (7 : Int32).toInt = 7 := rfl
theorem mLi8 : (8 : Int32).toInt = 8 := rfl
theorem mLi9 : (9 : Int32).toInt = 9 := rfl
theorem mLi16 : (16 : Int32).toInt = 16 := rfl
theorem mLi99 : (99 : Int32).toInt = 99 := rfl
theorem mLi120 : (120 : Int32).toInt = 120 := rfl
theorem mLi127 : (127 : Int32).toInt = 127 := rfl
theorem mLi1584 : (1584 : Int32).toInt = 1584 := rfl
theorem mLi999999 : (999999 : Int32).toInt = 999999 := rfl
theorem mLim : ((0 : Int32) - 1).toInt = -1 := rfl
theorem mTI {x y : Int32} {k : Int} (h : x.toInt = k) (hy : y.toInt = k) : x = y := Int32.toInt_inj.mp (h.trans hy.symm)
