/-! How THE TEXT is read, as functions: the class's way and the reference's way, and that they take the same texts. -/
section KP
variable (b : Nat → Int32) (t : Nat)
def kSk : Nat → Nat → Nat
  | 0, a => a
  | m + 1, a => if a < t ∧ b a = 32 then kSk m (a + 1) else a
def kFg : Nat → Nat → Nat
  | 0, a => a
  | m + 1, a => if a < t ∧ ¬ b a < 48 ∧ ¬ (57 : Int32) < b a then kFg m (a + 1) else a
abbrev kIsL (c : Int32) : Prop := (¬ c < 97 ∧ c ≤ 122) ∨ (¬ c < 65 ∧ ¬ (90 : Int32) < c)
def kLe : Nat → Nat → Nat
  | 0, a => a
  | m + 1, a => if a < t ∧ kIsL (b a) then kLe m (a + 1) else a
end KP
theorem kS_ex : ∃ f : (Nat → Int32) → Nat → Nat → Nat, ∀ b t a, f b t a = kSk b t 200 a := ⟨fun b t a => kSk b t 200 a, fun _ _ _ => rfl⟩
/-- behind the blanks; a name that does not unfold -/
noncomputable def kS : (Nat → Int32) → Nat → Nat → Nat := Classical.choose kS_ex
theorem kS_e (b : Nat → Int32) (t a : Nat) : kS b t a = kSk b t 200 a := Classical.choose_spec kS_ex b t a
section KP2
variable (b : Nat → Int32) (t : Nat)
/-- a word, the class's way -/
noncomputable def kWdC (w : List Int32) (a : Nat) : Option Nat := if kLe b t 200 (kS b t a) = kS b t a + w.length ∧ ∀ k, k < w.length → b (kS b t a + k) = w.getD k 0 then some (kS b t a + w.length) else none
/-- .. the reference's way -/
noncomputable def kWdM (w : List Int32) (a : Nat) : Option Nat := if (∀ k, k < w.length → kS b t a + k < t ∧ b (kS b t a + k) = w.getD k 0) ∧ ¬ (kS b t a + w.length < t ∧ ¬ b (kS b t a + w.length) < 97 ∧ ¬ (122 : Int32) < b (kS b t a + w.length)) then some (kS b t a + w.length) else none
def kVal (a f : Nat) : Int32 := if f = 1 then 10 * 0 + b a - 48 else 10 * (10 * 0 + b a - 48) + b (a + 1) - 48
/-- a number -/
def kNum (a : Nat) : Option (Int32 × Nat) := if (kFg b t 200 a = a + 1 ∨ kFg b t 200 a = a + 2) ∧ ¬ kVal b a (kFg b t 200 a - a) = 0 then some (kVal b a (kFg b t 200 a - a), kFg b t 200 a) else none
/-- numbers to the sign behind them -/
noncomputable def kNums (most : Nat) : Nat → Nat → List Int32 → Option (List Int32 × Nat)
  | 0, _, _ => none
  | m + 1, a, l => if 0 < l.length ∧ kS b t a < t ∧ b (kS b t a) = 59 then some (l, kS b t a + 1) else if l.length = most then none else match kNum b t (kS b t a) with
    | none => none
    | some (v, e) => kNums most m e (l ++ [v])
end KP2
abbrev kW0 : List Int32 := [121, 101, 97, 114, 115]
abbrev kW1 : List Int32 := [99, 111, 114, 101]
abbrev kW2 : List Int32 := [110, 111, 114, 116, 104]
abbrev kW3 : List Int32 := [115, 111, 117, 116, 104]
section KQ
variable {b : Nat → Int32} {t : Nat}
theorem kSk_ge : ∀ (m a : Nat), a ≤ kSk b t m a
  | 0, a => Nat.le_refl a
  | m + 1, a => by
    unfold kSk
    split
    · have := kSk_ge m (a + 1)
      omega
    · exact Nat.le_refl a
theorem kLe_ge : ∀ (m a : Nat), a ≤ kLe b t m a
  | 0, a => Nat.le_refl a
  | m + 1, a => by
    unfold kLe
    split
    · have := kLe_ge m (a + 1)
      omega
    · exact Nat.le_refl a
theorem kFg_ge : ∀ (m a : Nat), a ≤ kFg b t m a
  | 0, a => Nat.le_refl a
  | m + 1, a => by
    unfold kFg
    split
    · have := kFg_ge m (a + 1)
      omega
    · exact Nat.le_refl a
theorem kSk_le : ∀ (m a : Nat), kSk b t m a ≤ a ∨ kSk b t m a ≤ t
  | 0, a => Or.inl (Nat.le_refl a)
  | m + 1, a => by
    unfold kSk
    split
    · rename_i h
      rcases kSk_le m (a + 1) with g | g
      · exact Or.inr (by omega)
      · exact Or.inr g
    · exact Or.inl (Nat.le_refl a)
theorem kLe_le : ∀ (m a : Nat), kLe b t m a ≤ a ∨ kLe b t m a ≤ t
  | 0, a => Or.inl (Nat.le_refl a)
  | m + 1, a => by
    unfold kLe
    split
    · rename_i h
      rcases kLe_le m (a + 1) with g | g
      · exact Or.inr (by omega)
      · exact Or.inr g
    · exact Or.inl (Nat.le_refl a)
theorem kFg_le : ∀ (m a : Nat), kFg b t m a ≤ a ∨ kFg b t m a ≤ t
  | 0, a => Or.inl (Nat.le_refl a)
  | m + 1, a => by
    unfold kFg
    split
    · rename_i h
      rcases kFg_le m (a + 1) with g | g
      · exact Or.inr (by omega)
      · exact Or.inr g
    · exact Or.inl (Nat.le_refl a)
/-- where it stops no blank is -/
theorem kSk_stop : ∀ (m a : Nat), t ≤ a + m → ¬ (kSk b t m a < t ∧ b (kSk b t m a) = 32)
  | 0, a, h => fun z => by
    have z1 : a < t := z.1
    omega
  | m + 1, a, h => by
    unfold kSk
    split
    · exact kSk_stop m (a + 1) (by omega)
    · assumption
theorem kSk_fix {m a : Nat} (h : ¬ (a < t ∧ b a = 32)) : kSk b t m a = a := by
  cases m with
  | zero => rfl
  | succ m =>
    unfold kSk
    rw [if_neg h]
theorem kS_idem {a : Nat} (h : t ≤ a + 200) : kS b t (kS b t a) = kS b t a := by
  rw [kS_e b t (kS b t a)]
  refine kSk_fix ?_
  rw [kS_e b t a]
  exact kSk_stop 200 a h
/-- the end of a run of letters: letters ahead, none there -/
theorem kLe_run : ∀ (m a : Nat), t ≤ a + m → (∀ k, a ≤ k → k < kLe b t m a → k < t ∧ kIsL (b k)) ∧ ¬ (kLe b t m a < t ∧ kIsL (b (kLe b t m a)))
  | 0, a, h => ⟨fun k h1 h2 => by
      have h2 : k < a := h2
      omega, fun z => by
      have z1 : a < t := z.1
      omega⟩
  | m + 1, a, h => by
    unfold kLe
    split
    · rename_i g
      obtain ⟨r1, r2⟩ := kLe_run m (a + 1) (by omega)
      refine ⟨fun k h1 h2 => ?_, r2⟩
      rcases Nat.lt_or_ge a k with z | z
      · exact r1 k z h2
      · have e : k = a := by omega
        rw [e]
        exact g
    · rename_i g
      exact ⟨fun k h1 h2 => by omega, g⟩
/-- a run that is known ends where it ends -/
theorem kLe_eq : ∀ (m a n : Nat), n ≤ m → (∀ k, k < n → a + k < t ∧ kIsL (b (a + k))) → ¬ (a + n < t ∧ kIsL (b (a + n))) → kLe b t m a = a + n
  | m, a, 0, _, _, h => by
    cases m with
    | zero => rfl
    | succ m =>
      unfold kLe
      rw [if_neg (show ¬ (a < t ∧ kIsL (b a)) from h)]
      rfl
  | 0, a, n + 1, hm, _, _ => absurd hm (by omega)
  | m + 1, a, n + 1, hm, h1, h2 => by
    unfold kLe
    rw [if_pos (show a < t ∧ kIsL (b a) from h1 0 (by omega))]
    have e := kLe_eq m (a + 1) n (by omega) (fun k hk => by
      have z := h1 (k + 1) (by omega)
      rw [show a + (k + 1) = a + 1 + k by omega] at z
      exact z) (by rw [show a + 1 + n = a + (n + 1) by omega]; exact h2)
    rw [e]
    omega
/-- small letters -/
def kSm (w : List Int32) : Prop := ∀ k, k < w.length → ¬ w.getD k 0 < 97 ∧ w.getD k 0 ≤ 122
theorem kUp {c : Int32} (h1 : kIsL c) (h2 : ¬ (¬ c < 97 ∧ ¬ (122 : Int32) < c)) : ¬ c < 65 ∧ ¬ (90 : Int32) < c := by
  rcases h1 with h | h
  · exact absurd ⟨h.1, fun z => by
      have a := h.2
      rw [Int32.le_iff_toInt_le] at a
      rw [Int32.lt_iff_toInt_lt] at z
      omega⟩ h2
  · exact h
/-- the reference takes a word that the class doesn't only ahead of a capital letter -/
theorem kWd_mc {w : List Int32} {a : Nat} (hw : kSm w) (hn : w.length ≤ 200) (ht : t ≤ a + 200) : kWdM b t w a = kWdC b t w a ∨ (kWdC b t w a = none ∧ ∃ e, kWdM b t w a = some e ∧ e < t ∧ ¬ b e < 65 ∧ ¬ (90 : Int32) < b e) := by
  have hs : a ≤ kS b t a := by
    rw [kS_e b t a]
    exact kSk_ge 200 a
  have lt3 : ∀ c : Int32, (¬ c < 97 ∧ c ≤ 122) ↔ (¬ c < 97 ∧ ¬ (122 : Int32) < c) := fun c => by
    rw [Int32.le_iff_toInt_le, Int32.lt_iff_toInt_lt, Int32.lt_iff_toInt_lt]
    omega
  unfold kWdM kWdC
  generalize hse : kS b t a = s at hs ⊢
  by_cases hm : (∀ k, k < w.length → s + k < t ∧ b (s + k) = w.getD k 0) ∧ ¬ (s + w.length < t ∧ ¬ b (s + w.length) < 97 ∧ ¬ (122 : Int32) < b (s + w.length))
  · rw [if_pos hm]
    by_cases hu : s + w.length < t ∧ kIsL (b (s + w.length))
    · refine Or.inr ⟨?_, s + w.length, rfl, hu.1, kUp hu.2 (fun z => hm.2 ⟨hu.1, z⟩)⟩
      rw [if_neg]
      intro z
      have r := (kLe_run (b := b) (t := t) 200 s (by omega)).2
      rw [z.1] at r
      exact r hu
    · left
      have e := kLe_eq (b := b) (t := t) 200 s w.length hn (fun k hk => ⟨(hm.1 k hk).1, by
        rw [(hm.1 k hk).2]
        exact Or.inl (hw k hk)⟩) hu
      rw [if_pos ⟨e, fun k hk => (hm.1 k hk).2⟩]
  · left
    rw [if_neg hm, if_neg]
    intro z
    apply hm
    have r := kLe_run (b := b) (t := t) 200 s (by omega)
    refine ⟨fun k hk => ⟨(r.1 (s + k) (by omega) (by omega)).1, z.2 k hk⟩, fun y => ?_⟩
    apply r.2
    rw [z.1]
    exact ⟨y.1, Or.inl ((lt3 _).mpr y.2)⟩
/-- at a capital letter there is no number, no sign, no word -/
theorem kCap_s {e : Nat} (h2 : ¬ b e < 65) (h3 : ¬ (90 : Int32) < b e) : kS b t e = e := by
  rw [kS_e b t e]
  refine kSk_fix (fun z => ?_)
  rw [z.2] at h2
  exact h2 (by decide)
theorem kCap_n {e most : Nat} {m : Nat} (h2 : ¬ b e < 65) (h3 : ¬ (90 : Int32) < b e) : kNums b t most m e [] = none := by
  cases m with
  | zero => rfl
  | succ m =>
    unfold kNums
    rw [kCap_s h2 h3, if_neg (fun z => Nat.lt_irrefl 0 z.1)]
    split
    · rfl
    · have f : kFg b t 200 e = e := by
        unfold kFg
        rw [if_neg]
        intro z
        have a := z.2.2
        rw [Int32.lt_iff_toInt_lt] at h2 a
        have e1 : (65 : Int32).toInt = 65 := rfl
        have e2 : (57 : Int32).toInt = 57 := rfl
        omega
      have k : kNum b t e = none := by
        unfold kNum
        rw [f, if_neg]
        intro z
        omega
      rw [k]
theorem kCap_w {e : Nat} {w : List Int32} (hw : kSm w) (hl : 0 < w.length) (h2 : ¬ b e < 65) (h3 : ¬ (90 : Int32) < b e) : kWdM b t w e = none := by
  unfold kWdM
  rw [kCap_s h2 h3, if_neg]
  intro z
  have z0 := (z.1 0 hl).2
  have w0 := (hw 0 hl).1
  rw [← z0] at w0
  rw [Int32.lt_iff_toInt_lt] at h3 w0
  have e1 : (90 : Int32).toInt = 90 := rfl
  have e2 : (97 : Int32).toInt = 97 := rfl
  rw [show e + 0 = e from rfl] at w0
  omega
end KQ
noncomputable def kPt (wd : List Int32 → Nat → Option Nat) (b : Nat → Int32) (t a : Nat) : Option (Int32 × Nat) := match wd kW2 a with
  | some a4 => some (0, a4)
  | none => match wd kW3 (kS b t a) with
    | some a4 => some (1, a4)
    | none => none
/-- all of it -/
noncomputable def kAll (wd : List Int32 → Nat → Option Nat) (b : Nat → Int32) (t : Nat) : Option (List Int32 × Int32 × List Int32) :=
  match wd kW0 0 with
  | none => none
  | some a1 => match kNums b t 16 17 a1 [] with
    | none => none
    | some (ys, a2) => match wd kW1 a2 with
      | none => none
      | some a3 => match kPt wd b t a3 with
        | none => none
        | some (so, a4) => match kNums b t 8 17 a4 [] with
          | none => none
          | some (ls, a5) => if kS b t a5 < t then none else some (ys, so, ls)
theorem kSm0 : kSm kW0 := by unfold kSm; decide
theorem kSm1 : kSm kW1 := by unfold kSm; decide
theorem kSm2 : kSm kW2 := by unfold kSm; decide
theorem kSm3 : kSm kW3 := by unfold kSm; decide
theorem kNum_e {b : Nat → Int32} {t a e : Nat} {v : Int32} (h : kNum b t a = some (v, e)) : e ≤ a + 2 := by
  unfold kNum at h
  split at h
  · rename_i g
    cases h
    omega
  · cases h
theorem kCap_p {b : Nat → Int32} {t e : Nat} (h2 : ¬ b e < 65) (h3 : ¬ (90 : Int32) < b e) : kPt (kWdM b t) b t e = none := by
  have w2 := kCap_w (b := b) (t := t) kSm2 (by decide) h2 h3
  have w3 := kCap_w (b := b) (t := t) kSm3 (by decide) h2 h3
  unfold kPt
  rw [w2, kCap_s h2 h3, w3]
/-- the two ways take the same texts -/
theorem kPt_mc {b : Nat → Int32} {t a : Nat} (ht : t ≤ 120) : kPt (kWdM b t) b t a = kPt (kWdC b t) b t a ∨ (kPt (kWdC b t) b t a = none ∧ ∃ so e, kPt (kWdM b t) b t a = some (so, e) ∧ ¬ b e < 65 ∧ ¬ (90 : Int32) < b e) := by
  rcases kWd_mc (b := b) (t := t) (w := kW2) (a := a) kSm2 (by decide) (by omega) with h | ⟨h0, e, h1, -, h2, h3⟩
  · cases hc : kWdC b t kW2 a with
    | some z =>
      left
      simp only [kPt, h, hc]
    | none =>
      rcases kWd_mc (b := b) (t := t) (w := kW3) (a := kS b t a) kSm3 (by decide) (by omega) with g | ⟨g0, e, g1, -, g2, g3⟩
      · left
        simp only [kPt, h, hc, g]
      · exact Or.inr ⟨by simp only [kPt, hc, g0], 1, e, by simp only [kPt, h, hc, g1], g2, g3⟩
  · have n0 : b (kS b t a) = 110 := by
      have k := h1
      unfold kWdM at k
      split at k
      · rename_i g
        exact (g.1 0 (by decide)).2
      · cases k
    have k3 : kWdC b t kW3 (kS b t a) = none := by
      unfold kWdC
      rw [kS_idem (by omega), if_neg]
      intro z
      have s0 : b (kS b t a) = 115 := z.2 0 (by decide)
      rw [n0] at s0
      exact absurd s0 (by decide)
    exact Or.inr ⟨by simp only [kPt, h0, k3], 0, e, by simp only [kPt, h1], h2, h3⟩
theorem kAll_mc {b : Nat → Int32} {t : Nat} (ht : t ≤ 120) : kAll (kWdM b t) b t = kAll (kWdC b t) b t := by
  rcases kWd_mc (b := b) (t := t) (w := kW0) (a := 0) kSm0 (by decide) (by omega) with h | ⟨h0, e, h1, -, h2, h3⟩
  · cases hc : kWdC b t kW0 0 with
    | none => simp only [kAll, h, hc]
    | some a1 =>
      cases hn : kNums b t 16 17 a1 [] with
      | none => simp only [kAll, h, hc, hn]
      | some p =>
        obtain ⟨ys, a2⟩ := p
        rcases kWd_mc (b := b) (t := t) (w := kW1) (a := a2) kSm1 (by decide) (by omega) with g | ⟨g0, e, g1, -, g2, g3⟩
        · cases hd : kWdC b t kW1 a2 with
          | none => simp only [kAll, h, hc, hn, g, hd]
          | some a3 =>
            rcases kPt_mc (b := b) (t := t) (a := a3) ht with k | ⟨k0, so, e, k1, k2, k3⟩
            · simp only [kAll, h, hc, hn, g, hd, k]
            · simp only [kAll, h, hc, hn, g, hd, k0, k1, kCap_n k2 k3]
        · simp only [kAll, h, hc, hn, g0, g1, kCap_p g2 g3]
  · simp only [kAll, h0, h1, kCap_n h2 h3]
/-! Only the bytes of THE TEXT count. -/
section KC
variable {b c : Nat → Int32} {t : Nat}
theorem kSk_c (h : ∀ j, j < t → b j = c j) : ∀ (m a : Nat), kSk b t m a = kSk c t m a
  | 0, a => rfl
  | m + 1, a => by
    unfold kSk
    by_cases g : a < t
    · rw [h a g, kSk_c h m (a + 1)]
    · rw [if_neg (fun z => g z.1), if_neg (fun z => g z.1)]
theorem kFg_c (h : ∀ j, j < t → b j = c j) : ∀ (m a : Nat), kFg b t m a = kFg c t m a
  | 0, a => rfl
  | m + 1, a => by
    unfold kFg
    by_cases g : a < t
    · rw [h a g, kFg_c h m (a + 1)]
    · rw [if_neg (fun z => g z.1), if_neg (fun z => g z.1)]
theorem kNum_c (h : ∀ j, j < t → b j = c j) (a : Nat) : kNum b t a = kNum c t a := by
  unfold kNum
  rw [kFg_c h]
  by_cases g : kFg c t 200 a = a + 1 ∨ kFg c t 200 a = a + 2
  · have le := kFg_le (b := c) (t := t) 200 a
    have v : kVal b a (kFg c t 200 a - a) = kVal c a (kFg c t 200 a - a) := by
      unfold kVal
      rcases g with g | g
      · rw [if_pos (by omega), if_pos (by omega), h a (by omega)]
      · rw [if_neg (by omega), if_neg (by omega), h a (by omega), h (a + 1) (by omega)]
    rw [v]
  · rw [if_neg (fun z => g z.1), if_neg (fun z => g z.1)]
theorem kNums_c (h : ∀ j, j < t → b j = c j) (most : Nat) : ∀ (m a : Nat) (l : List Int32), kNums b t most m a l = kNums c t most m a l
  | 0, a, l => rfl
  | m + 1, a, l => by
    unfold kNums
    have e : kS b t a = kS c t a := by rw [kS_e b t a, kS_e c t a, kSk_c h 200 a]
    rw [e, kNum_c h]
    by_cases g : kS c t a < t
    · rw [h _ g]
      split
      · rfl
      · split
        · rfl
        · cases kNum c t (kS c t a) with
          | none => rfl
          | some p => exact kNums_c h most m p.2 (l ++ [p.1])
    · have n1 : ¬ (0 < l.length ∧ kS c t a < t ∧ b (kS c t a) = 59) := fun z => g z.2.1
      have n2 : ¬ (0 < l.length ∧ kS c t a < t ∧ c (kS c t a) = 59) := fun z => g z.2.1
      rw [if_neg n1, if_neg n2]
      split
      · rfl
      · cases kNum c t (kS c t a) with
        | none => rfl
        | some p => exact kNums_c h most m p.2 (l ++ [p.1])
theorem kWdM_c (h : ∀ j, j < t → b j = c j) (w : List Int32) (a : Nat) : kWdM b t w a = kWdM c t w a := by
  unfold kWdM
  have e : kS b t a = kS c t a := by rw [kS_e b t a, kS_e c t a, kSk_c h 200 a]
  rw [e]
  have i1 : (∀ k, k < w.length → kS c t a + k < t ∧ b (kS c t a + k) = w.getD k 0) ↔ (∀ k, k < w.length → kS c t a + k < t ∧ c (kS c t a + k) = w.getD k 0) := by
    constructor
    · exact fun z k hk => ⟨(z k hk).1, by rw [← h _ (z k hk).1]; exact (z k hk).2⟩
    · exact fun z k hk => ⟨(z k hk).1, by rw [h _ (z k hk).1]; exact (z k hk).2⟩
  have i2 : (kS c t a + w.length < t ∧ ¬ b (kS c t a + w.length) < 97 ∧ ¬ (122 : Int32) < b (kS c t a + w.length)) ↔ (kS c t a + w.length < t ∧ ¬ c (kS c t a + w.length) < 97 ∧ ¬ (122 : Int32) < c (kS c t a + w.length)) := by
    constructor
    · intro z
      rw [← h _ z.1]
      exact z
    · intro z
      rw [h _ z.1]
      exact z
  simp only [i1, i2]
theorem kAll_c (h : ∀ j, j < t → b j = c j) : kAll (kWdM b t) b t = kAll (kWdM c t) c t := by
  have e0 : kWdM b t = kWdM c t := by
    funext w a
    exact kWdM_c h w a
  have e1 : ∀ most m a l, kNums b t most m a l = kNums c t most m a l := fun most m a l => kNums_c h most m a l
  have e2 : ∀ a, kS b t a = kS c t a := fun a => by rw [kS_e b t a, kS_e c t a, kSk_c h 200 a]
  have e3 : ∀ a, kPt (kWdM c t) b t a = kPt (kWdM c t) c t a := fun a => by
    unfold kPt
    rw [e2]
  unfold kAll
  simp only [e0, e1, e2, e3]
end KC
