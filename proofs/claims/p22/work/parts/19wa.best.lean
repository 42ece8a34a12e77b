/-! All matches of a core, as lists; the best two of a list, how many there are, how many are as good. Pure. -/
abbrev bt_E := Nat × List Nat
abbrev bt_T := bt_E × bt_E × Nat × Nat
def bt_U : Nat := 1000000000
def bt_0 : bt_T := ((bt_U, []), (bt_U, []), 0, 0)
def bt_of (b : bt_E × bt_E) (x : bt_E) : bt_E × bt_E := if x.1 < b.1.1 then (x, b.1) else if x.1 < b.2.1 then (b.1, x) else b
def bt_lw (s k v m : Nat) : Nat := if v < s then m else if v = s then k + m else k
def bt_ins (t : bt_T) (x : bt_E) : bt_T := ((bt_of (t.1, t.2.1) x).1, (bt_of (t.1, t.2.1) x).2, t.2.2.1 + 1, bt_lw t.1.1 t.2.2.2 x.1 1)
def bt_j2 (f : bt_E → bt_E) (b : bt_E × bt_E) (u : bt_T) : bt_E × bt_E := if u.2.1.1 = bt_U then bt_of b (f u.1) else bt_of (bt_of b (f u.1)) (f u.2.1)
def bt_jn (f : bt_E → bt_E) (t u : bt_T) : bt_T := if u.1.1 = bt_U then t else ((bt_j2 f (t.1, t.2.1) u).1, (bt_j2 f (t.1, t.2.1) u).2, t.2.2.1 + u.2.2.1, bt_lw t.1.1 t.2.2.2 (f u.1).1 u.2.2.2)
/-- in order; by v less than the bound -/
def bt_ok (v : Nat) (t : bt_T) : Prop := t.1.1 ≤ t.2.1.1 ∧ (t.1.1 = bt_U ∨ v + t.1.1 < bt_U) ∧ (t.2.1.1 = bt_U ∨ v + t.2.1.1 < bt_U) ∧ (t.1.1 = bt_U → t.2.2.1 = 0 ∧ t.2.2.2 = 0)
theorem bt_0ok {v : Nat} : bt_ok v bt_0 := ⟨Nat.le_refl _, Or.inl rfl, Or.inl rfl, fun _ => ⟨rfl, rfl⟩⟩
theorem bt_of1 {b : bt_E × bt_E} {x : bt_E} (h : x.1 < b.1.1) : bt_of b x = (x, b.1) := if_pos h
theorem bt_of2 {b : bt_E × bt_E} {x : bt_E} (h : ¬ x.1 < b.1.1) (g : x.1 < b.2.1) : bt_of b x = (b.1, x) := (if_neg h).trans (if_pos g)
theorem bt_of3 {b : bt_E × bt_E} {x : bt_E} (h : ¬ x.1 < b.1.1) (g : ¬ x.1 < b.2.1) : bt_of b x = b := (if_neg h).trans (if_neg g)
theorem bt_ofo {b : bt_E × bt_E} {x : bt_E} (h : b.1.1 ≤ b.2.1) : (bt_of b x).1.1 ≤ (bt_of b x).2.1 := by
  unfold bt_of
  by_cases c : x.1 < b.1.1
  · rw [if_pos c]; exact Nat.le_of_lt c
  · rw [if_neg c]
    by_cases g : x.1 < b.2.1
    · rw [if_pos g]; exact Nat.le_of_not_lt c
    · rw [if_neg g]; exact h
theorem bt_ofm (b : bt_E × bt_E) (x : bt_E) : (bt_of b x).1.1 = if x.1 < b.1.1 then x.1 else b.1.1 := by
  unfold bt_of
  by_cases c : x.1 < b.1.1
  · rw [if_pos c, if_pos c]
  · rw [if_neg c, if_neg c]
    by_cases g : x.1 < b.2.1
    · rw [if_pos g]
    · rw [if_neg g]
/-- what is third goes -/
theorem bt_third {b : bt_E × bt_E} {x y z : bt_E} (ho : b.1.1 ≤ b.2.1) (h1 : x.1 ≤ y.1) (h2 : x.1 ≤ z.1) (h3 : y.1 ≤ z.1) : bt_of (bt_of (bt_of b x) y) z = bt_of (bt_of b x) y := by
  by_cases c1 : x.1 < b.1.1
  · rw [bt_of1 c1]
    by_cases c2 : y.1 < b.1.1
    · rw [bt_of2 (b := (x, b.1)) (x := y) (Nat.not_lt.mpr h1) c2, bt_of3 (b := (x, y)) (x := z) (Nat.not_lt.mpr h2) (Nat.not_lt.mpr h3)]
    · rw [bt_of3 (b := (x, b.1)) (x := y) (Nat.not_lt.mpr h1) c2, bt_of3 (b := (x, b.1)) (x := z) (Nat.not_lt.mpr h2) (by show ¬ z.1 < b.1.1; omega)]
  · by_cases c2 : x.1 < b.2.1
    · rw [bt_of2 c1 c2, bt_of3 (b := (b.1, x)) (x := y) (by show ¬ y.1 < b.1.1; omega) (Nat.not_lt.mpr h1), bt_of3 (b := (b.1, x)) (x := z) (by show ¬ z.1 < b.1.1; omega) (Nat.not_lt.mpr h2)]
    · rw [bt_of3 c1 c2, bt_of3 (b := b) (x := y) (by omega) (by omega), bt_of3 (b := b) (x := z) (by omega) (by omega)]
theorem bt_comm {b : bt_E × bt_E} {x y : bt_E} (ho : b.1.1 ≤ b.2.1) (h : x.1 < y.1) : bt_of (bt_of b y) x = bt_of (bt_of b x) y := by
  by_cases c1 : y.1 < b.1.1
  · rw [bt_of1 c1, bt_of1 (b := (y, b.1)) (x := x) h, bt_of1 (b := b) (x := x) (by omega), bt_of2 (b := (x, b.1)) (x := y) (by show ¬ y.1 < x.1; omega) c1]
  · by_cases c2 : x.1 < b.1.1
    · rw [bt_of1 (b := b) (x := x) c2, bt_of3 (b := (x, b.1)) (x := y) (by show ¬ y.1 < x.1; omega) c1]
      by_cases c3 : y.1 < b.2.1
      · rw [bt_of2 (b := b) (x := y) c1 c3, bt_of1 (b := (b.1, y)) (x := x) c2]
      · rw [bt_of3 (b := b) (x := y) c1 c3, bt_of1 (b := b) (x := x) c2]
    · by_cases c3 : y.1 < b.2.1
      · rw [bt_of2 (b := b) (x := y) c1 c3, bt_of2 (b := (b.1, y)) (x := x) c2 h, bt_of2 (b := b) (x := x) c2 (by omega), bt_of3 (b := (b.1, x)) (x := y) c1 (by show ¬ y.1 < x.1; omega)]
      · rw [bt_of3 (b := b) (x := y) c1 c3]
        by_cases c4 : x.1 < b.2.1
        · rw [bt_of2 (b := b) (x := x) c2 c4, bt_of3 (b := (b.1, x)) (x := y) c1 (by show ¬ y.1 < x.1; omega)]
        · rw [bt_of3 (b := b) (x := x) c2 c4, bt_of3 (b := b) (x := y) c1 c3]
section BJ
variable {f : bt_E → bt_E} {v : Nat}
theorem bt_lw_c {s k a b m : Nat} (h : a = b) : bt_lw s k a m = bt_lw s k b m := by rw [h]
/-- the pair -/
theorem bt_j2_ins {b : bt_E × bt_E} {u : bt_T} {x : bt_E} (hf : ∀ y, (f y).1 = v + y.1) (ho : b.1.1 ≤ b.2.1) (hu : bt_ok v u) (hn : ¬ u.1.1 = bt_U) (hx : v + x.1 < bt_U) : bt_of (bt_j2 f b u) (f x) = bt_j2 f b (bt_ins u x) := by
  obtain ⟨u1, u2, u3, u4⟩ := hu
  have e1 := hf u.1
  have e2 := hf u.2.1
  have e3 := hf x
  unfold bt_j2 bt_ins
  by_cases c1 : x.1 < u.1.1
  · rw [bt_of1 (b := (u.1, u.2.1)) (x := x) c1]
    show bt_of (if u.2.1.1 = bt_U then _ else _) (f x) = if u.1.1 = bt_U then bt_of b (f x) else bt_of (bt_of b (f x)) (f u.1)
    rw [if_neg hn]
    by_cases c2 : u.2.1.1 = bt_U
    · rw [if_pos c2]
      exact bt_comm ho (by omega)
    · rw [if_neg c2, bt_comm (b := bt_of b (f u.1)) (x := f x) (y := f u.2.1) (bt_ofo ho) (by omega), bt_comm (b := b) (x := f x) (y := f u.1) ho (by omega)]
      exact bt_third ho (by omega) (by omega) (by omega)
  · by_cases c2 : x.1 < u.2.1.1
    · rw [bt_of2 (b := (u.1, u.2.1)) (x := x) c1 c2]
      show bt_of (if u.2.1.1 = bt_U then _ else _) (f x) = if x.1 = bt_U then bt_of b (f u.1) else bt_of (bt_of b (f u.1)) (f x)
      rw [if_neg (show ¬ x.1 = bt_U by omega)]
      by_cases c3 : u.2.1.1 = bt_U
      · rw [if_pos c3]
      · rw [if_neg c3, bt_comm (b := bt_of b (f u.1)) (x := f x) (y := f u.2.1) (bt_ofo ho) (by omega), bt_third ho (by omega) (by omega) (by omega)]
    · rw [bt_of3 (b := (u.1, u.2.1)) (x := x) c1 c2]
      show bt_of (if u.2.1.1 = bt_U then _ else _) (f x) = if u.2.1.1 = bt_U then bt_of b (f u.1) else bt_of (bt_of b (f u.1)) (f u.2.1)
      have c3 : ¬ u.2.1.1 = bt_U := by omega
      rw [if_neg c3, bt_third ho (by omega) (by omega) (by omega)]
theorem bt_j2m {b : bt_E × bt_E} {u : bt_T} (hf : ∀ y, (f y).1 = v + y.1) (hu : u.1.1 ≤ u.2.1.1) : (bt_j2 f b u).1.1 = if v + u.1.1 < b.1.1 then v + u.1.1 else b.1.1 := by
  have e1 := hf u.1
  have e2 := hf u.2.1
  unfold bt_j2
  by_cases c : u.2.1.1 = bt_U
  · rw [if_pos c, bt_ofm, e1]
  · rw [if_neg c, bt_ofm, bt_ofm, e1, e2]
    by_cases g : v + u.1.1 < b.1.1
    · rw [if_pos g, if_neg (by omega)]
    · rw [if_neg g, if_neg (by omega)]
theorem bt_jn_ins {t u : bt_T} {x : bt_E} (hf : ∀ y, (f y).1 = v + y.1) (ho : t.1.1 ≤ t.2.1.1) (hu : bt_ok v u) (hx : v + x.1 < bt_U) : bt_ins (bt_jn f t u) (f x) = bt_jn f t (bt_ins u x) := by
  have e1 := hf u.1
  have e3 := hf x
  by_cases hn : u.1.1 = bt_U
  · have z := hu.2.2.2 hn
    have c1 : x.1 < u.1.1 := by omega
    have hb : bt_of (u.1, u.2.1) x = (x, u.1) := bt_of1 c1
    unfold bt_jn
    rw [if_pos hn]
    unfold bt_ins
    rw [hb]
    show _ = if x.1 = bt_U then t else _
    rw [if_neg (by omega)]
    have j2 : bt_j2 f (t.1, t.2.1) (x, u.1, u.2.2.1 + 1, bt_lw u.1.1 u.2.2.2 x.1 1) = bt_of (t.1, t.2.1) (f x) := if_pos hn
    rw [j2]
    show _ = ((bt_of (t.1, t.2.1) (f x)).1, (bt_of (t.1, t.2.1) (f x)).2, t.2.2.1 + (u.2.2.1 + 1), bt_lw t.1.1 t.2.2.2 (f x).1 (bt_lw u.1.1 u.2.2.2 x.1 1))
    rw [z.1, show bt_lw u.1.1 u.2.2.2 x.1 1 = 1 from if_pos c1]
  · have p := bt_j2_ins (b := (t.1, t.2.1)) hf ho hu hn hx
    have m := bt_j2m (b := (t.1, t.2.1)) (u := u) hf hu.1
    have n1 : ¬ (bt_ins u x).1.1 = bt_U := by
      show ¬ (bt_of (u.1, u.2.1) x).1.1 = bt_U
      rw [bt_ofm]
      show ¬ (if x.1 < u.1.1 then x.1 else u.1.1) = bt_U
      by_cases c : x.1 < u.1.1
      · rw [if_pos c]; omega
      · rw [if_neg c]; exact hn
    have m2 : (f (bt_ins u x).1).1 = v + (if x.1 < u.1.1 then x.1 else u.1.1) := by
      rw [hf]
      show v + (bt_of (u.1, u.2.1) x).1.1 = _
      rw [bt_ofm]
    unfold bt_jn
    rw [if_neg hn, if_neg n1, ← p, m2]
    show (_, _, t.2.2.1 + u.2.2.1 + 1, bt_lw (bt_j2 f (t.1, t.2.1) u).1.1 (bt_lw t.1.1 t.2.2.2 (f u.1).1 u.2.2.2) (f x).1 1) = (_, _, t.2.2.1 + (u.2.2.1 + 1), bt_lw t.1.1 t.2.2.2 _ (bt_lw u.1.1 u.2.2.2 x.1 1))
    rw [m, e1, e3, Nat.add_assoc]
    have q : bt_lw (if v + u.1.1 < t.1.1 then v + u.1.1 else t.1.1) (bt_lw t.1.1 t.2.2.2 (v + u.1.1) u.2.2.2) (v + x.1) 1 = bt_lw t.1.1 t.2.2.2 (v + if x.1 < u.1.1 then x.1 else u.1.1) (bt_lw u.1.1 u.2.2.2 x.1 1) := by
      unfold bt_lw
      generalize u.1.1 = a
      generalize t.1.1 = b
      generalize u.2.2.2 = k
      generalize t.2.2.2 = l
      generalize x.1 = c
      repeat' split
      all_goals omega
    rw [q]
theorem bt_insok {t : bt_T} {x : bt_E} (ht : bt_ok v t) (hx : v + x.1 < bt_U) : bt_ok v (bt_ins t x) := by
  obtain ⟨u1, u2, u3, u4⟩ := ht
  unfold bt_ins bt_of
  by_cases c1 : x.1 < t.1.1
  · rw [if_pos c1]
    exact ⟨Nat.le_of_lt c1, Or.inr hx, u2, fun z => by have z : x.1 = bt_U := z; omega⟩
  · rw [if_neg c1]
    have : ¬ t.1.1 = bt_U := by omega
    by_cases c2 : x.1 < t.2.1.1
    · rw [if_pos c2]
      exact ⟨Nat.le_of_not_lt c1, u2, Or.inr hx, fun z => absurd z this⟩
    · rw [if_neg c2]
      exact ⟨u1, u2, u3, fun z => absurd z this⟩
theorem bt_fold {t : bt_T} (hf : ∀ y, (f y).1 = v + y.1) (ho : t.1.1 ≤ t.2.1.1) : ∀ (X : List bt_E) (u : bt_T), bt_ok v u → (∀ x, x ∈ X → v + x.1 < bt_U) → (X.map f).foldl bt_ins (bt_jn f t u) = bt_jn f t (X.foldl bt_ins u)
  | [], u, _, _ => rfl
  | x :: X, u, hu, hX => by
    have hx := hX x (List.mem_cons_self ..)
    show (X.map f).foldl bt_ins (bt_ins (bt_jn f t u) (f x)) = bt_jn f t (X.foldl bt_ins (bt_ins u x))
    rw [bt_jn_ins hf ho hu hx]
    exact bt_fold hf ho X _ (bt_insok hu hx) (fun y hy => hX y (List.mem_cons_of_mem _ hy))
def bt_top (X : List bt_E) : bt_T := X.foldl bt_ins bt_0
/-- only the best two of a list matter -/
theorem bt_join {t : bt_T} (hf : ∀ y, (f y).1 = v + y.1) (ho : t.1.1 ≤ t.2.1.1) {X : List bt_E} (hX : ∀ x, x ∈ X → v + x.1 < bt_U) : (X.map f).foldl bt_ins t = bt_jn f t (bt_top X) := bt_fold hf ho X bt_0 bt_0ok hX
theorem bt_topok {X : List bt_E} (hX : ∀ x, x ∈ X → v + x.1 < bt_U) : bt_ok v (bt_top X) := by
  have h : ∀ (X : List bt_E) (t : bt_T), bt_ok v t → (∀ x, x ∈ X → v + x.1 < bt_U) → bt_ok v (X.foldl bt_ins t) := by
    intro X
    induction X with
    | nil => exact fun t ht _ => ht
    | cons x X ih => exact fun t ht hX => ih _ (bt_insok ht (hX x (List.mem_cons_self ..))) (fun y hy => hX y (List.mem_cons_of_mem _ hy))
  exact h X bt_0 bt_0ok hX
end BJ
/-- empty: none is best -/
theorem bt_top_e {X : List bt_E} (hX : ∀ x, x ∈ X → x.1 < bt_U) : (bt_top X).1.1 = bt_U ↔ X = [] := by
  constructor
  · intro h
    have key : ∀ (X : List bt_E) (t : bt_T), t.1.1 < bt_U → (∀ x, x ∈ X → x.1 < bt_U) → (X.foldl bt_ins t).1.1 < bt_U := by
      intro X
      induction X with
      | nil => exact fun t ht _ => ht
      | cons x X ih =>
        refine fun t ht hX => ih _ ?_ (fun y hy => hX y (List.mem_cons_of_mem _ hy))
        show (bt_of (t.1, t.2.1) x).1.1 < bt_U
        rw [bt_ofm]
        have := hX x (List.mem_cons_self ..)
        show (if x.1 < t.1.1 then x.1 else t.1.1) < bt_U
        split <;> omega
    cases X with
    | nil => rfl
    | cons x X =>
      have z := key X (bt_ins bt_0 x) (by
        show (bt_of (bt_0.1, bt_0.2.1) x).1.1 < bt_U
        rw [bt_ofm]
        have := hX x (List.mem_cons_self ..)
        show (if x.1 < bt_U then x.1 else bt_U) < bt_U
        rw [if_pos this]
        exact this) (fun y hy => hX y (List.mem_cons_of_mem _ hy))
      have h : (X.foldl bt_ins (bt_ins bt_0 x)).1.1 = bt_U := h
      omega
  · intro h
    subst h
    rfl
theorem bt_top_w (X : List bt_E) : (bt_top X).2.2.1 = X.length := by
  have h : ∀ (X : List bt_E) (t : bt_T), (X.foldl bt_ins t).2.2.1 = t.2.2.1 + X.length := by
    intro X
    induction X with
    | nil => exact fun t => rfl
    | cons x X ih =>
      intro t
      show (X.foldl bt_ins (bt_ins t x)).2.2.1 = _
      rw [ih, List.length_cons]
      show t.2.2.1 + 1 + X.length = _
      omega
  rw [bt_top, h]
  show 0 + X.length = _
  omega
theorem bt_top_lw (X : List bt_E) : (bt_top X).2.2.2 ≤ X.length := by
  have h : ∀ (X : List bt_E) (t : bt_T) (k : Nat), t.2.2.2 ≤ k → (X.foldl bt_ins t).2.2.2 ≤ k + X.length := by
    intro X
    induction X with
    | nil => exact fun t k h => h
    | cons x X ih =>
      intro t k h
      have z := ih (bt_ins t x) (k + 1) (by
        show bt_lw t.1.1 t.2.2.2 x.1 1 ≤ k + 1
        unfold bt_lw
        repeat' split
        all_goals omega)
      rw [List.length_cons]
      show (X.foldl bt_ins (bt_ins t x)).2.2.2 ≤ _
      omega
  have := h X bt_0 0 (Nat.le_refl 0)
  rw [bt_top]
  omega
-- ---- the matches
def bt_pre (a v : Nat) (x : bt_E) : bt_E := (v + x.1, a :: x.2)
section AL
variable (c : Nat → Nat → Nat → Option Nat)
def bt_one (L : Nat → Nat → List bt_E) (j i p : Nat) : List bt_E := match c j i p with
  | none => []
  | some v => (L (j + 1) (i + (2 * p + 1))).map (bt_pre p v)
def bt_rst (L : Nat → Nat → List bt_E) (j i : Nat) : Nat → Nat → List bt_E
  | 0, _ => []
  | g + 1, p => bt_one c L j i p ++ bt_rst L j i g (p + 1)
/-- all matches of the last r layers, from layer j, span i on -/
def bt_al : Nat → Nat → Nat → List bt_E
  | 0, _, _ => [(0, [])]
  | r + 1, j, i => bt_rst c (bt_al r) j i 3 0
/-- all matches of n layers with a first span below k -/
def bt_rt (n : Nat) : Nat → List bt_E
  | 0 => []
  | k + 1 => bt_rt n k ++ (bt_al c n 0 k).map (bt_pre k 0)
end AL
section AL2
variable {c : Nat → Nat → Nat → Option Nat} {V : Nat}
theorem bt_one_n {L : Nat → Nat → List bt_E} {j i p : Nat} (h : c j i p = none) : bt_one c L j i p = [] := by
  unfold bt_one
  rw [h]
theorem bt_one_s {L : Nat → Nat → List bt_E} {j i p v : Nat} (h : c j i p = some v) : bt_one c L j i p = (L (j + 1) (i + (2 * p + 1))).map (bt_pre p v) := by
  unfold bt_one
  rw [h]
theorem bt_al_b (hV : ∀ j i p v, c j i p = some v → v ≤ V) : ∀ (r j i : Nat) (x : bt_E), x ∈ bt_al c r j i → x.1 ≤ r * V ∧ x.2.length = r
  | 0, j, i, x, h => by
    have h : x ∈ [(0, [])] := h
    rw [List.mem_singleton] at h
    subst h
    exact ⟨Nat.zero_le _, rfl⟩
  | r + 1, j, i, x, h => by
    have one : ∀ p x, x ∈ bt_one c (bt_al c r) j i p → x.1 ≤ (r + 1) * V ∧ x.2.length = r + 1 := fun p x hx => by
      cases e : c j i p with
      | none =>
        rw [bt_one_n e] at hx
        cases hx
      | some v =>
        rw [bt_one_s e, List.mem_map] at hx
        obtain ⟨y, hy, ex⟩ := hx
        have z := bt_al_b hV r _ _ y hy
        have w := hV j i p v e
        subst ex
        refine ⟨?_, ?_⟩
        · show v + y.1 ≤ (r + 1) * V
          rw [Nat.succ_mul]
          omega
        · show (p :: y.2).length = r + 1
          rw [List.length_cons, z.2]
    have rst : ∀ g p x, x ∈ bt_rst c (bt_al c r) j i g p → x.1 ≤ (r + 1) * V ∧ x.2.length = r + 1 := by
      intro g
      induction g with
      | zero => exact fun p x hx => by cases hx
      | succ g ih =>
        intro p x hx
        have hx : x ∈ bt_one c (bt_al c r) j i p ++ bt_rst c (bt_al c r) j i g (p + 1) := hx
        rw [List.mem_append] at hx
        rcases hx with hx | hx
        · exact one p x hx
        · exact ih (p + 1) x hx
    exact rst 3 0 x h
theorem bt_rt_b (hV : ∀ j i p v, c j i p = some v → v ≤ V) {n : Nat} : ∀ (k : Nat) (x : bt_E), x ∈ bt_rt c n k → x.1 ≤ n * V ∧ ∃ i ps, i < k ∧ ps.length = n ∧ x.2 = i :: ps
  | 0, x, h => by cases h
  | k + 1, x, h => by
    have h : x ∈ bt_rt c n k ++ (bt_al c n 0 k).map (bt_pre k 0) := h
    rw [List.mem_append] at h
    rcases h with h | h
    · obtain ⟨a, i, ps, b1, b2, b3⟩ := bt_rt_b hV k x h
      exact ⟨a, i, ps, by omega, b2, b3⟩
    · rw [List.mem_map] at h
      obtain ⟨y, hy, ex⟩ := h
      have z := bt_al_b hV n _ _ y hy
      subst ex
      refine ⟨?_, k, y.2, by omega, z.2, rfl⟩
      show 0 + y.1 ≤ n * V
      omega
/-- one more block of the cell -/
def bt_cp (c : Nat → Nat → Nat → Option Nat) (r j i : Nat) (t : bt_T) (p : Nat) : bt_T := match c j i p with
  | none => t
  | some v => bt_jn (bt_pre p v) t (bt_top (bt_al c r (j + 1) (i + (2 * p + 1))))
theorem bt_cp_e (hV : ∀ j i p v, c j i p = some v → v ≤ V) {r j i p : Nat} {t : bt_T} (hr : (r + 1) * V < bt_U) (ho : t.1.1 ≤ t.2.1.1) : (bt_one c (bt_al c r) j i p).foldl bt_ins t = bt_cp c r j i t p := by
  unfold bt_cp
  cases e : c j i p with
  | none =>
    rw [bt_one_n e]
    rfl
  | some v =>
    rw [bt_one_s e]
    refine bt_join (v := v) (fun y => rfl) ho (fun x hx => ?_)
    have z := (bt_al_b hV r _ _ x hx).1
    have w := hV j i p v e
    rw [Nat.succ_mul] at hr
    omega
theorem bt_foldo : ∀ (X : List bt_E) (t : bt_T), t.1.1 ≤ t.2.1.1 → (X.foldl bt_ins t).1.1 ≤ (X.foldl bt_ins t).2.1.1
  | [], _, h => h
  | x :: X, t, h => bt_foldo X (bt_ins t x) (bt_ofo (b := (t.1, t.2.1)) h)
theorem bt_cpo (hV : ∀ j i p v, c j i p = some v → v ≤ V) {r j i p : Nat} {t : bt_T} (hr : (r + 1) * V < bt_U) (ho : t.1.1 ≤ t.2.1.1) : (bt_cp c r j i t p).1.1 ≤ (bt_cp c r j i t p).2.1.1 := by
  rw [← bt_cp_e hV hr ho]
  exact bt_foldo _ _ ho
/-- a cell of the search -/
theorem bt_cell (hV : ∀ j i p v, c j i p = some v → v ≤ V) {r j i : Nat} (hr : (r + 1) * V < bt_U) : bt_top (bt_al c (r + 1) j i) = bt_cp c r j i (bt_cp c r j i (bt_cp c r j i bt_0 0) 1) 2 := by
  have o0 : bt_0.1.1 ≤ bt_0.2.1.1 := Nat.le_refl _
  have o1 := bt_cpo (j := j) (i := i) (p := 0) hV hr o0
  have o2 := bt_cpo (j := j) (i := i) (p := 1) hV hr o1
  show (bt_one c (bt_al c r) j i 0 ++ (bt_one c (bt_al c r) j i 1 ++ (bt_one c (bt_al c r) j i 2 ++ []))).foldl bt_ins bt_0 = _
  rw [List.append_nil, List.foldl_append, List.foldl_append, bt_cp_e hV hr o0, bt_cp_e hV hr o1, bt_cp_e hV hr o2]
/-- the root of the search -/
theorem bt_root (hV : ∀ j i p v, c j i p = some v → v ≤ V) {n k : Nat} (hr : n * V < bt_U) : bt_top (bt_rt c n (k + 1)) = bt_jn (bt_pre k 0) (bt_top (bt_rt c n k)) (bt_top (bt_al c n 0 k)) := by
  show (bt_rt c n k ++ (bt_al c n 0 k).map (bt_pre k 0)).foldl bt_ins bt_0 = _
  rw [List.foldl_append]
  refine bt_join (v := 0) (fun y => rfl) (bt_foldo _ bt_0 (Nat.le_refl _)) (fun x hx => ?_)
  have z := (bt_al_b hV n _ _ x hx).1
  omega
end AL2
