theorem mUw0 : u_ws mR0 mT0 4 = [1078, 1080, 1082, 1084].filterMap (fun p => (mTabN (p / 1000))[p % 1000]?) := by decide +kernel
theorem mUs0 : (u_ws mR0 mT0 4).all mStab = true := by decide +kernel
theorem mUw1 : u_ws mR1 mT1 2 = [1162, 1164].filterMap (fun p => (mTabN (p / 1000))[p % 1000]?) := by decide +kernel
theorem mUs1 : (u_ws mR1 mT1 2).all mStab = true := by decide +kernel
theorem mUw2 : u_ws mR2 mT2 1 = [1094].filterMap (fun p => (mTabN (p / 1000))[p % 1000]?) := by decide +kernel
theorem mUs2 : (u_ws mR2 mT2 1).all mStab = true := by decide +kernel
theorem mUw3 : u_ws mR3 mT3 4 = [1143, 1145, 1147, 1149].filterMap (fun p => (mTabN (p / 1000))[p % 1000]?) := by decide +kernel
theorem mUs3 : (u_ws mR3 mT3 4).all mStab = true := by decide +kernel
theorem mUw4 : u_ws mR4 mT4 3 = [1182, 1184, 1186].filterMap (fun p => (mTabN (p / 1000))[p % 1000]?) := by decide +kernel
theorem mUs4 : (u_ws mR4 mT4 3).all mStab = true := by decide +kernel
theorem mUw5 : u_ws mR5 mT5 2 = [1042, 1044].filterMap (fun p => (mTabN (p / 1000))[p % 1000]?) := by decide +kernel
theorem mUs5 : (u_ws mR5 mT5 2).all mStab = true := by decide +kernel
theorem mUw6 : u_ws mR6 mT6 7 = [1112, 1114, 1116, 1118, 1120, 1122, 1124].filterMap (fun p => (mTabN (p / 1000))[p % 1000]?) := by decide +kernel
theorem mUs6 : (u_ws mR6 mT6 7).all mStab = true := by decide +kernel
theorem mUw7 : u_ws mR7 mT7 3 = [1061, 1063, 1065].filterMap (fun p => (mTabN (p / 1000))[p % 1000]?) := by decide +kernel
theorem mUs7 : (u_ws mR7 mT7 3).all mStab = true := by decide +kernel
theorem mUw8 : u_ws mR8 mT8 12 = [1201, 1203, 1205, 1207, 1209, 1211, 1213, 1215, 1217, 1219, 1221, 1223].filterMap (fun p => (mTabN (p / 1000))[p % 1000]?) := by decide +kernel
theorem mUs8 : (u_ws mR8 mT8 12).all mStab = true := by decide +kernel
theorem mUw9 : u_ws mR9 mT9 24 = [4047, 4049, 4051, 4053, 4055, 4057, 4059, 4061, 4063, 4065, 4067, 4069, 4071, 4073, 4075, 4077, 4079, 4081, 4083, 4085, 4087, 4089, 4091, 4093].filterMap (fun p => (mTabN (p / 1000))[p % 1000]?) := by decide +kernel
theorem mUs9 : (u_ws mR9 mT9 24).all mStab = true := by decide +kernel
theorem mUw_ok {C : String} {T : u_T} {N : Nat} {ps : List Nat} (h : u_ws C T N = ps.filterMap (fun p => (mTabN (p / 1000))[p % 1000]?)) (hs : (u_ws C T N).all mStab = true) : ∀ w ∈ u_ws C T N, w ∈ mTs := by
  intro w hw
  have h1 := List.all_eq_true.mp hs w hw
  rw [h] at hw
  obtain ⟨i, -, hi⟩ := List.mem_filterMap.mp hw
  exact List.mem_filter.mpr ⟨mTabN_mem hi, h1⟩
/-- what the tables say of a class: its field words, its fields' types and names, the kinds of its fields -/
def mClOk (a : Nat) (q : vw_C) : Prop := (∀ w ∈ u_ws q.1 q.2.1 q.2.2, w ∈ mTs) ∧ (∃ ty : Nat → FieldType, (∀ k, k < q.2.2 → parseFieldDescriptor (q.2.1 k).2.2.1 = some (ty k)) ∧ ∀ k, k < q.2.2 → (mTyOf mFT a k = 0 ∧ ty k = .int) ∨ (mTyOf mFT a k = 1 ∧ ty k = .long) ∨ (mTyOf mFT a k = 2 ∧ ((∃ n, ty k = .object n) ∨ ∃ t, ty k = .array t))) ∧ (∀ x, x < q.2.2 → ∀ y, y < q.2.2 → x ≠ y → (q.2.1 x).2.1 ≠ (q.2.1 y).2.1) ∧ (mFT.getD a []).length = q.2.2
theorem mClOk0 : mClOk 0 (mR0, mT0, 4) := ⟨mUw_ok mUw0 mUs0, ⟨mY0, mY0_ok, fun k hk => by
  have hk : k < 4 := hk
  rcases (show k = 0 ∨ k = 1 ∨ k = 2 ∨ k = 3 by omega) with rfl | rfl | rfl | rfl
  · exact Or.inl ⟨rfl, rfl⟩
  · exact Or.inl ⟨rfl, rfl⟩
  · exact Or.inl ⟨rfl, rfl⟩
  · exact Or.inl ⟨rfl, rfl⟩⟩, mN0_ok, by decide⟩
theorem mClOk1 : mClOk 1 (mR1, mT1, 2) := ⟨mUw_ok mUw1 mUs1, ⟨mY1, mY1_ok, fun k hk => by
  have hk : k < 2 := hk
  rcases (show k = 0 ∨ k = 1 by omega) with rfl | rfl
  · exact Or.inl ⟨rfl, rfl⟩
  · exact Or.inl ⟨rfl, rfl⟩⟩, mN1_ok, by decide⟩
theorem mClOk2 : mClOk 2 (mR2, mT2, 1) := ⟨mUw_ok mUw2 mUs2, ⟨mY2, mY2_ok, fun k hk => by
  have hk : k < 1 := hk
  rcases (show k = 0 by omega) with rfl
  · exact Or.inr (Or.inr ⟨rfl, Or.inr ⟨_, rfl⟩⟩)⟩, mN2_ok, by decide⟩
theorem mClOk3 : mClOk 3 (mR3, mT3, 4) := ⟨mUw_ok mUw3 mUs3, ⟨mY3, mY3_ok, fun k hk => by
  have hk : k < 4 := hk
  rcases (show k = 0 ∨ k = 1 ∨ k = 2 ∨ k = 3 by omega) with rfl | rfl | rfl | rfl
  · exact Or.inr (Or.inr ⟨rfl, Or.inl ⟨_, rfl⟩⟩)
  · exact Or.inr (Or.inr ⟨rfl, Or.inl ⟨_, rfl⟩⟩)
  · exact Or.inl ⟨rfl, rfl⟩
  · exact Or.inl ⟨rfl, rfl⟩⟩, mN3_ok, by decide⟩
theorem mClOk4 : mClOk 4 (mR4, mT4, 3) := ⟨mUw_ok mUw4 mUs4, ⟨mY4, mY4_ok, fun k hk => by
  have hk : k < 3 := hk
  rcases (show k = 0 ∨ k = 1 ∨ k = 2 by omega) with rfl | rfl | rfl
  · exact Or.inr (Or.inr ⟨rfl, Or.inl ⟨_, rfl⟩⟩)
  · exact Or.inr (Or.inr ⟨rfl, Or.inl ⟨_, rfl⟩⟩)
  · exact Or.inl ⟨rfl, rfl⟩⟩, mN4_ok, by decide⟩
theorem mClOk5 : mClOk 5 (mR5, mT5, 2) := ⟨mUw_ok mUw5 mUs5, ⟨mY5, mY5_ok, fun k hk => by
  have hk : k < 2 := hk
  rcases (show k = 0 ∨ k = 1 by omega) with rfl | rfl
  · exact Or.inr (Or.inr ⟨rfl, Or.inr ⟨_, rfl⟩⟩)
  · exact Or.inl ⟨rfl, rfl⟩⟩, mN5_ok, by decide⟩
theorem mClOk6 : mClOk 6 (mR6, mT6, 7) := ⟨mUw_ok mUw6 mUs6, ⟨mY6, mY6_ok, fun k hk => by
  have hk : k < 7 := hk
  rcases (show k = 0 ∨ k = 1 ∨ k = 2 ∨ k = 3 ∨ k = 4 ∨ k = 5 ∨ k = 6 by omega) with rfl | rfl | rfl | rfl | rfl | rfl | rfl
  · exact Or.inr (Or.inr ⟨rfl, Or.inl ⟨_, rfl⟩⟩)
  · exact Or.inr (Or.inr ⟨rfl, Or.inl ⟨_, rfl⟩⟩)
  · exact Or.inr (Or.inr ⟨rfl, Or.inr ⟨_, rfl⟩⟩)
  · exact Or.inr (Or.inr ⟨rfl, Or.inr ⟨_, rfl⟩⟩)
  · exact Or.inr (Or.inr ⟨rfl, Or.inr ⟨_, rfl⟩⟩)
  · exact Or.inr (Or.inr ⟨rfl, Or.inr ⟨_, rfl⟩⟩)
  · exact Or.inr (Or.inr ⟨rfl, Or.inr ⟨_, rfl⟩⟩)⟩, mN6_ok, by decide⟩
theorem mClOk7 : mClOk 7 (mR7, mT7, 3) := ⟨mUw_ok mUw7 mUs7, ⟨mY7, mY7_ok, fun k hk => by
  have hk : k < 3 := hk
  rcases (show k = 0 ∨ k = 1 ∨ k = 2 by omega) with rfl | rfl | rfl
  · exact Or.inr (Or.inr ⟨rfl, Or.inl ⟨_, rfl⟩⟩)
  · exact Or.inr (Or.inr ⟨rfl, Or.inl ⟨_, rfl⟩⟩)
  · exact Or.inl ⟨rfl, rfl⟩⟩, mN7_ok, by decide⟩
theorem mClOk8 : mClOk 8 (mR8, mT8, 12) := ⟨mUw_ok mUw8 mUs8, ⟨mY8, mY8_ok, fun k hk => by
  have hk : k < 12 := hk
  rcases (show k = 0 ∨ k = 1 ∨ k = 2 ∨ k = 3 ∨ k = 4 ∨ k = 5 ∨ k = 6 ∨ k = 7 ∨ k = 8 ∨ k = 9 ∨ k = 10 ∨ k = 11 by omega) with rfl | rfl | rfl | rfl | rfl | rfl | rfl | rfl | rfl | rfl | rfl | rfl
  · exact Or.inr (Or.inr ⟨rfl, Or.inl ⟨_, rfl⟩⟩)
  · exact Or.inr (Or.inr ⟨rfl, Or.inl ⟨_, rfl⟩⟩)
  · exact Or.inr (Or.inr ⟨rfl, Or.inl ⟨_, rfl⟩⟩)
  · exact Or.inr (Or.inr ⟨rfl, Or.inl ⟨_, rfl⟩⟩)
  · exact Or.inr (Or.inr ⟨rfl, Or.inl ⟨_, rfl⟩⟩)
  · exact Or.inr (Or.inr ⟨rfl, Or.inl ⟨_, rfl⟩⟩)
  · exact Or.inr (Or.inr ⟨rfl, Or.inl ⟨_, rfl⟩⟩)
  · exact Or.inr (Or.inr ⟨rfl, Or.inl ⟨_, rfl⟩⟩)
  · exact Or.inr (Or.inr ⟨rfl, Or.inl ⟨_, rfl⟩⟩)
  · exact Or.inl ⟨rfl, rfl⟩
  · exact Or.inl ⟨rfl, rfl⟩
  · exact Or.inl ⟨rfl, rfl⟩⟩, mN8_ok, by decide⟩
theorem mClOk9 : mClOk 9 (mR9, mT9, 24) := ⟨mUw_ok mUw9 mUs9, ⟨mY9, mY9_ok, fun k hk => by
  have hk : k < 24 := hk
  rcases (show k = 0 ∨ k = 1 ∨ k = 2 ∨ k = 3 ∨ k = 4 ∨ k = 5 ∨ k = 6 ∨ k = 7 ∨ k = 8 ∨ k = 9 ∨ k = 10 ∨ k = 11 ∨ k = 12 ∨ k = 13 ∨ k = 14 ∨ k = 15 ∨ k = 16 ∨ k = 17 ∨ k = 18 ∨ k = 19 ∨ k = 20 ∨ k = 21 ∨ k = 22 ∨ k = 23 by omega) with rfl | rfl | rfl | rfl | rfl | rfl | rfl | rfl | rfl | rfl | rfl | rfl | rfl | rfl | rfl | rfl | rfl | rfl | rfl | rfl | rfl | rfl | rfl | rfl
  · exact Or.inr (Or.inr ⟨rfl, Or.inr ⟨_, rfl⟩⟩)
  · exact Or.inl ⟨rfl, rfl⟩
  · exact Or.inr (Or.inr ⟨rfl, Or.inr ⟨_, rfl⟩⟩)
  · exact Or.inl ⟨rfl, rfl⟩
  · exact Or.inl ⟨rfl, rfl⟩
  · exact Or.inr (Or.inr ⟨rfl, Or.inr ⟨_, rfl⟩⟩)
  · exact Or.inr (Or.inr ⟨rfl, Or.inr ⟨_, rfl⟩⟩)
  · exact Or.inr (Or.inl ⟨rfl, rfl⟩)
  · exact Or.inr (Or.inl ⟨rfl, rfl⟩)
  · exact Or.inr (Or.inr ⟨rfl, Or.inr ⟨_, rfl⟩⟩)
  · exact Or.inr (Or.inr ⟨rfl, Or.inr ⟨_, rfl⟩⟩)
  · exact Or.inl ⟨rfl, rfl⟩
  · exact Or.inl ⟨rfl, rfl⟩
  · exact Or.inl ⟨rfl, rfl⟩
  · exact Or.inr (Or.inr ⟨rfl, Or.inr ⟨_, rfl⟩⟩)
  · exact Or.inr (Or.inr ⟨rfl, Or.inr ⟨_, rfl⟩⟩)
  · exact Or.inr (Or.inr ⟨rfl, Or.inr ⟨_, rfl⟩⟩)
  · exact Or.inr (Or.inr ⟨rfl, Or.inr ⟨_, rfl⟩⟩)
  · exact Or.inr (Or.inr ⟨rfl, Or.inr ⟨_, rfl⟩⟩)
  · exact Or.inr (Or.inr ⟨rfl, Or.inr ⟨_, rfl⟩⟩)
  · exact Or.inl ⟨rfl, rfl⟩
  · exact Or.inl ⟨rfl, rfl⟩
  · exact Or.inl ⟨rfl, rfl⟩
  · exact Or.inr (Or.inr ⟨rfl, Or.inr ⟨_, rfl⟩⟩)⟩, mN9_ok, by decide⟩
theorem mClOk_all : ∀ (a : Nat) (q : vw_C), mCl[a]? = some q → mClOk a q := by
  intro a q h
  match a, h with
  | 0, h => cases h; exact mClOk0
  | 1, h => cases h; exact mClOk1
  | 2, h => cases h; exact mClOk2
  | 3, h => cases h; exact mClOk3
  | 4, h => cases h; exact mClOk4
  | 5, h => cases h; exact mClOk5
  | 6, h => cases h; exact mClOk6
  | 7, h => cases h; exact mClOk7
  | 8, h => cases h; exact mClOk8
  | 9, h => cases h; exact mClOk9
  | a + 10, h => simp at h
