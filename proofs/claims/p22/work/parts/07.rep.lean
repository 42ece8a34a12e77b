/-! What the small heap says of the machine's heap. -/
theorem mTabN_mem {k i : Nat} {w : Jvm.Cond} (h : (mTabN k)[i]? = some w) : w ∈ lw_tbl := by
  have hm := List.mem_of_getElem? h
  unfold mTabN at hm
  unfold lw_tbl tables_1
  split at hm <;> simp [hm]
def mTs : List Jvm.Cond := lw_tbl.filter mStab
theorem mW_mem {p : Nat} {w : Jvm.Cond} (h : mW p w = true) : w ∈ mTs := by
  simp only [mW, Bool.and_eq_true, decide_eq_true_eq] at h
  exact List.mem_filter.mpr ⟨mTabN_mem h.1, h.2⟩
def mTW (U : State) : Prop := ∀ w ∈ mTs, ∀ A : Array Value, w.before A U = true
theorem mAO_moved {u U : State} (hvm : u.vm.Alike U.vm) {A B : Array Value} (h : (Jvm.Cond.arrayOver (.array .int)).before A u = true) : (Jvm.Cond.arrayOver (.array .int)).before B U = true := by
  obtain ⟨comp, c, k, h1, h2, h3, h4, h5⟩ := arrayOverA_spec h
  obtain ⟨k', hk', he⟩ := hvm.2.2 _ _ h3
  have e1 := va_idx_bare U.vm comp
  have e2 := va_idx_bare u.vm comp
  have hbr : U.vm.bare = u.vm.bare := by first | exact hvm.bare_eq | exact hvm.bare_eq.symm
  rw [hbr] at e1
  have hi := e1.symm.trans (e2.trans h2)
  have hkind : k'.kind = .array comp (.array .int) := by rw [he]; exact h4
  have f1 : U.vm.findClass (FieldType.array .int).toString = some comp := by rw [hvm.findClass]; exact h1
  have f2 : U.vm.findClass ("[" ++ (FieldType.array .int).toString) = some c := by rw [hvm.findClass]; exact h5
  unfold Cond.before Cond.holds
  simp only [Cond.value]
  rw [f1, Option.bind_some]
  refine (congrArg (fun o : Option Nat => (o.bind (fun c => (U.vm.classes[c]?).map fun (k : Class) => match k.kind with | .array _ ty => decide (ty = FieldType.array .int) && decide (U.vm.findClass ("[" ++ (FieldType.array .int).toString) = some c) | _ => false) == some true)) hi).trans ?_
  simp [hk', hkind, f2]
theorem mTW.warm {s U : State} (hW : s.WarmedH U.vm) (h : mTW s) : mTW U := by
  intro w hw A
  have hs := (List.mem_filter.mp hw).2
  have h0 := h w hw
  unfold mStab at hs
  rcases (Bool.or_eq_true _ _).mp hs with g | g
  · exact word_at hW (good_of_word g) (h0 #[])
  · cases w with
    | fieldLinkNest a i b n d z => exact va_Nw.use rfl (va_Nw.warmF hW (va_Nw.of rfl (h0 #[])))
    | methodLinkNest a i x z => exact va_Nw.use rfl (va_Nw.warmM hW (va_Nw.of rfl (h0 #[])))
    | arrayOver ty =>
      have e : ty = .array .int := by simpa using g
      subst e
      exact mAO_moved hW.alike (h0 #[])
    | _ => simp at g
def mAd (N0 : Nat) (ra : Nat → Nat) (i : Nat) : Nat := if i < 1000 then N0 + i else ra (i - 1000)
def mCv (N0 : Nat) (ra : Nat → Nat) : Value → Value
  | .ref i => .ref (mAd N0 ra i)
  | v => v
theorem mCv_cat (N0 : Nat) (ra : Nat → Nat) (v : Value) : (mCv N0 ra v).category = v.category := by cases v <;> rfl
def mA (N0 : Nat) : Nat → Prop := fun q => N0 ≤ q
def mFv (N0 : Nat) (ra : Nat → Nat) (k : Nat) (rs : List (Option Nat)) (f : Nat → Int32) (g : Nat → Int64) (j : Nat) : Value := match mTyOf mFT k j with
  | 0 => .int (f j)
  | 1 => .long (g j)
  | _ => va_rf ((rs.getD j none).map (mAd N0 ra))
def mFs (N0 : Nat) (ra : Nat → Nat) (k : Nat) (rs : List (Option Nat)) (f : Nat → Int32) (g : Nat → Int64) : List Value := (List.range (mFT.getD k []).length).map (mFv N0 ra k rs f g)
def mEn1 (N0 : Nat) (ra : Nat → Nat) (cI cC cQ : ClassId) (c : mSC) (f : Nat → Int32) (g : Nat → Int64) : va_E :=
  if c.1 < 20 then .inr (c.1, mFs N0 ra c.1 c.2.2 f g) else if c.1 = 20 then .inl (cI, c.2.1, .inl f) else if c.1 = 21 then .inl (cC, c.2.1, .inl f) else .inl (cQ, c.2.1, .inr (.inr (.inr (.inr (fun j => (c.2.2.getD j none).map (mAd N0 ra))))))
def mEnt (N0 : Nat) (ra : Nat → Nat) (cI cC cQ : ClassId) (h : mHp) (i : Nat) : va_E := mEn1 N0 ra cI cC cQ (h.1.getD i (0, 0, [])) (h.2.1 i) (h.2.2 i)
def mWs (N0 : Nat) (ra : Nat → Nat) (cI cC cQ : ClassId) (h : mHp) : va_W := (List.range h.1.length).map (fun i => (N0 + i, mEnt N0 ra cI cC cQ h i))
theorem mWs_get {N0 : Nat} {ra : Nat → Nat} {cI cC cQ : ClassId} {h : mHp} {r : Nat} (hr : r < h.1.length) : (mWs N0 ra cI cC cQ h)[r]? = some (N0 + r, mEnt N0 ra cI cC cQ h r) := by
  unfold mWs
  rw [List.getElem?_map, List.getElem?_range hr]
  rfl
theorem mWs_len {N0 : Nat} {ra : Nat → Nat} {cI cC cQ : ClassId} {h : mHp} : (mWs N0 ra cI cC cQ h).length = h.1.length := by simp [mWs]
theorem mWs_D {N0 : Nat} {ra : Nat → Nat} {cI cC cQ : ClassId} {h : mHp} : va_D (mA N0) (mWs N0 ra cI cC cQ h) := by
  have key : ∀ (k : Nat) (q : Nat × va_E), (mWs N0 ra cI cC cQ h)[k]? = some q → q.1 = N0 + k := by
    intro k q hk
    have hl : k < h.1.length := by
      have := (List.getElem?_eq_some_iff.mp hk).1
      rw [mWs_len] at this
      exact this
    rw [mWs_get hl] at hk
    cases hk
    rfl
  refine ⟨fun i j x y hi hj hxy => ?_, fun k q hk => ?_⟩
  · have := key i x hi
    have := key j y hj
    omega
  · have := key k q hk
    show N0 ≤ q.1
    omega
/-- one cell has changed -/
theorem mWs_set {N0 : Nat} {ra : Nat → Nat} {cI cC cQ : ClassId} {h h' : mHp} {r : Nat} (hl : h'.1.length = h.1.length) (ho : ∀ i, i ≠ r → mEnt N0 ra cI cC cQ h' i = mEnt N0 ra cI cC cQ h i) : (mWs N0 ra cI cC cQ h).set r (N0 + r, mEnt N0 ra cI cC cQ h' r) = mWs N0 ra cI cC cQ h' := by
  apply List.ext_getElem?
  intro i
  by_cases hr : i < h.1.length
  · rw [mWs_get (h := h') (by omega)]
    by_cases e : i = r
    · subst e
      rw [List.getElem?_set_self (by rw [mWs_len]; exact hr)]
    · rw [List.getElem?_set_ne (Ne.symm e), mWs_get hr, ho i e]
  · rw [List.getElem?_eq_none (by rw [List.length_set, mWs_len]; omega), List.getElem?_eq_none (by rw [mWs_len]; omega)]
theorem mUp_row {I : Nat → Nat → Int32} {r j : Nat} {v : Int32} {i : Nat} (h : i ≠ r) : mUp I r j v i = I i := by
  funext k
  simp [mUp, h]
theorem mUp_self {I : Nat → Nat → Int32} {r j : Nat} {v : Int32} : mUp I r j v r = upd (I r) j v := by
  funext k
  simp [mUp, upd]
theorem mUpL_row {I : Nat → Nat → Int64} {r j : Nat} {v : Int64} {i : Nat} (h : i ≠ r) : mUpL I r j v i = I i := by
  funext k
  simp [mUpL, h]
theorem mUpL_self {I : Nat → Nat → Int64} {r j : Nat} {v : Int64} : mUpL I r j v r = vp_updL (I r) j v := by
  funext k
  simp [mUpL, vp_updL]
theorem mFs_get {N0 : Nat} {ra : Nat → Nat} {k : Nat} {rs : List (Option Nat)} {f : Nat → Int32} {g : Nat → Int64} {j : Nat} (hj : j < (mFT.getD k []).length) : (mFs N0 ra k rs f g)[j]? = some (mFv N0 ra k rs f g j) := by
  unfold mFs
  rw [List.getElem?_map, List.getElem?_range hj]
  rfl
theorem mFs_len {N0 : Nat} {ra : Nat → Nat} {k : Nat} {rs : List (Option Nat)} {f : Nat → Int32} {g : Nat → Int64} : (mFs N0 ra k rs f g).length = (mFT.getD k []).length := by simp [mFs]
theorem mFs_set {N0 : Nat} {ra : Nat → Nat} {k : Nat} {rs rs' : List (Option Nat)} {f f' : Nat → Int32} {g g' : Nat → Int64} {j : Nat} {v : Value} (hj : j < (mFT.getD k []).length) (hv : mFv N0 ra k rs' f' g' j = v) (ho : ∀ i, i ≠ j → mFv N0 ra k rs' f' g' i = mFv N0 ra k rs f g i) : (mFs N0 ra k rs f g).set j v = mFs N0 ra k rs' f' g' := by
  apply List.ext_getElem?
  intro i
  by_cases hr : i < (mFT.getD k []).length
  · rw [mFs_get (rs := rs') (f := f') (g := g') hr]
    by_cases e : i = j
    · subst e
      rw [List.getElem?_set_self (by rw [mFs_len]; exact hr), hv]
    · rw [List.getElem?_set_ne (Ne.symm e), mFs_get hr, ho i e]
  · rw [List.getElem?_eq_none (by rw [List.length_set, mFs_len]; omega), List.getElem?_eq_none (by rw [mFs_len]; omega)]
/-- new cells behind the others -/
theorem mWs_app {N0 : Nat} {ra : Nat → Nat} {cI cC cQ : ClassId} {h h' : mHp} {n : Nat} (hl : h'.1.length = h.1.length + n) (ho : ∀ i, i < h.1.length → mEnt N0 ra cI cC cQ h' i = mEnt N0 ra cI cC cQ h i) : mWs N0 ra cI cC cQ h' = mWs N0 ra cI cC cQ h ++ (List.range n).map (fun i => (N0 + (h.1.length + i), mEnt N0 ra cI cC cQ h' (h.1.length + i))) := by
  apply List.ext_getElem?
  intro i
  by_cases h1 : i < h.1.length
  · rw [List.getElem?_append_left (by rw [mWs_len]; exact h1), mWs_get h1, mWs_get (h := h') (by omega), ho i h1]
  · rw [List.getElem?_append_right (by rw [mWs_len]; omega), mWs_len]
    by_cases h2 : i < h'.1.length
    · rw [mWs_get h2, List.getElem?_map, List.getElem?_range (by omega)]
      show _ = some (N0 + (h.1.length + (i - h.1.length)), _)
      rw [show h.1.length + (i - h.1.length) = i by omega]
    · rw [List.getElem?_eq_none (by rw [mWs_len]; omega), List.getElem?_eq_none (by simp; omega)]
/-- the locals -/
def mLV (N0 : Nat) (ra : Nat → Nat) (ls : Array Slot) (nL : Nat) (ml : List (Option Value)) : Prop := ls.size = nL ∧ lv_wf ls ∧ ∀ (i : Nat) (v : Value), ml.getD i none = some v → ls[i]? = some (.val (mCv N0 ra v))
def mAs (N0 : Nat) (ra : Nat → Nat) (ml : List (Option Value)) : List (Nat × Value) := (List.range ml.length).filterMap (fun k => (ml.getD k none).map (fun v => (k, mCv N0 ra v)))
theorem mAs_mem {N0 : Nat} {ra : Nat → Nat} {ml : List (Option Value)} {q : Nat × Value} : q ∈ mAs N0 ra ml ↔ ∃ v, ml.getD q.1 none = some v ∧ q.2 = mCv N0 ra v := by
  unfold mAs
  rw [List.mem_filterMap]
  constructor
  · rintro ⟨k, -, hk⟩
    cases hv : ml.getD k none with
    | none => rw [hv] at hk; cases hk
    | some v => rw [hv] at hk; cases hk; exact ⟨v, hv, rfl⟩
  · rintro ⟨v, hv, e⟩
    have hl : q.1 < ml.length := by
      rcases Nat.lt_or_ge q.1 ml.length with g | g
      · exact g
      · rw [List.getD_eq_getElem?_getD, List.getElem?_eq_none g] at hv
        cases hv
    refine ⟨q.1, List.mem_range.mpr hl, ?_⟩
    rw [hv]
    show some (q.1, mCv N0 ra v) = some q
    rw [← e]
theorem mLV.has {N0 : Nat} {ra : Nat → Nat} {ls : Array Slot} {nL : Nat} {ml : List (Option Value)} (h : mLV N0 ra ls nL ml) : lv_has ls nL (mAs N0 ra ml) := ⟨h.1, h.2.1, fun q hq => by
  obtain ⟨v, h1, h2⟩ := mAs_mem.mp hq
  rw [h2]
  exact h.2.2 _ _ h1⟩
theorem getD_set_self {ml : List (Option Value)} {i : Nat} {x w : Option Value} (h : (ml.set i x).getD i none = w) : w = x ∨ w = none := by
  rw [List.getD_eq_getElem?_getD] at h
  by_cases hl : i < ml.length
  · rw [List.getElem?_set_self hl] at h
    exact Or.inl h.symm
  · rw [List.getElem?_eq_none (by rw [List.length_set]; omega)] at h
    exact Or.inr h.symm
theorem getD_set_ne {ml : List (Option Value)} {i j : Nat} {x : Option Value} (h : j ≠ i) : (ml.set i x).getD j none = ml.getD j none := by
  rw [List.getD_eq_getElem?_getD, List.getD_eq_getElem?_getD, List.getElem?_set_ne (Ne.symm h)]
theorem mKill_get {ml : List (Option Value)} {i j : Nat} {w : Value} (h : (mKill ml i).getD j none = some w) : ml.getD j none = some w ∧ ¬ (j + 1 = i ∧ w.category = 2) := by
  cases i with
  | zero => exact ⟨h, fun q => by omega⟩
  | succ k =>
    simp only [mKill] at h
    cases hv : ml.getD k none with
    | none =>
      rw [hv] at h
      refine ⟨h, fun q => ?_⟩
      have e : j = k := by omega
      subst e
      change ml.getD j none = some w at h
      rw [hv] at h
      cases h
    | some v =>
      rw [hv] at h
      cases hc : Nat.beq v.category 2 with
      | true =>
        simp only [hc, cond_true] at h
        by_cases e : j = k
        · subst e
          rcases getD_set_self h with g | g <;> cases g
        · rw [getD_set_ne e] at h
          exact ⟨h, fun q => e (by omega)⟩
      | false =>
        simp only [hc, cond_false] at h
        refine ⟨h, fun q => ?_⟩
        have e : j = k := by omega
        subst e
        rw [hv] at h
        cases h
        rw [q.2] at hc
        cases hc
theorem mLV.store1 {N0 : Nat} {ra : Nat → Nat} {ls' : Array Slot} {nL i : Nat} {ml : List (Option Value)} {v : Value} (h : lv_has ls' nL ((i, mCv N0 ra v) :: (mAs N0 ra ml).filter (fun q => !(q.1 == i) && !(q.1 + 1 == i && q.2.category == 2)))) : mLV N0 ra ls' nL (mSet1 ml i v) := by
  refine ⟨h.1, h.2.1, fun j w hw => ?_⟩
  unfold mSet1 at hw
  by_cases e : j = i
  · subst e
    rcases getD_set_self hw with g | g
    · cases g
      exact h.2.2 _ List.mem_cons_self
    · cases g
  · rw [getD_set_ne e] at hw
    obtain ⟨h1, h2⟩ := mKill_get hw
    refine h.2.2 (j, mCv N0 ra w) (List.mem_cons_of_mem _ (List.mem_filter.mpr ⟨mAs_mem.mpr ⟨w, h1, rfl⟩, ?_⟩))
    simp only [mCv_cat]
    by_cases q : j + 1 = i <;> by_cases z : w.category = 2 <;> simp_all
theorem mLV.store2 {N0 : Nat} {ra : Nat → Nat} {ls' : Array Slot} {nL i : Nat} {ml : List (Option Value)} {v : Value} (h : lv_has ls' nL ((i, mCv N0 ra v) :: (mAs N0 ra ml).filter (fun q => !(q.1 == i) && (!(q.1 == i + 1) && !(q.1 + 1 == i && q.2.category == 2))))) : mLV N0 ra ls' nL (mSet2 ml i v) := by
  refine ⟨h.1, h.2.1, fun j w hw => ?_⟩
  unfold mSet2 at hw
  by_cases e2 : j = i + 1
  · subst e2
    rcases getD_set_self hw with g | g <;> cases g
  · rw [getD_set_ne e2] at hw
    by_cases e : j = i
    · subst e
      rcases getD_set_self hw with g | g
      · cases g
        exact h.2.2 _ List.mem_cons_self
      · cases g
    · rw [getD_set_ne e] at hw
      obtain ⟨h1, h2⟩ := mKill_get hw
      refine h.2.2 (j, mCv N0 ra w) (List.mem_cons_of_mem _ (List.mem_filter.mpr ⟨mAs_mem.mpr ⟨w, h1, rfl⟩, ?_⟩))
      simp only [mCv_cat]
      by_cases q : j + 1 = i <;> by_cases z : w.category = 2 <;> simp_all
/-- the locals at the entry -/
theorem mArg_len {vs : List Value} : (mArg vs).length = (lg_sl vs).length := by
  induction vs with
  | nil => rfl
  | cons v r ih =>
    unfold mArg
    cases hc : Nat.beq v.category 2 with
    | true =>
      have e : v.category = 2 := Nat.eq_of_beq_eq_true hc
      simp [lg_sl, e] at ih ⊢
      omega
    | false =>
      have e : ¬ v.category = 2 := fun q => by rw [q] at hc; cases hc
      simp [lg_sl, e] at ih ⊢
      omega
theorem lg_sl_len {N0 : Nat} {ra : Nat → Nat} {vs : List Value} : (lg_sl (vs.map (mCv N0 ra))).length = (lg_sl vs).length := by
  induction vs with
  | nil => rfl
  | cons v r ih =>
    by_cases e : v.category = 2
    · simp [lg_sl, mCv_cat, e] at ih ⊢
      omega
    · simp [lg_sl, mCv_cat, e] at ih ⊢
      omega
theorem mPad_get : ∀ (n : Nat) (l : List (Option Value)) (i : Nat), (mPad l n).getD i none = l.getD i none
  | 0, l, i => by unfold mPad; rfl
  | n + 1, [], i => by
    unfold mPad
    cases i with
    | zero => rfl
    | succ i => exact mPad_get n [] i
  | n + 1, x :: l, i => by
    unfold mPad
    cases i with
    | zero => rfl
    | succ i => exact mPad_get n l i
theorem mArg_get {N0 : Nat} {ra : Nat → Nat} : ∀ (vs : List Value) (b i : Nat) (v : Value), (mArg vs).getD i none = some v → (b + i, mCv N0 ra v) ∈ lv_args b (vs.map (mCv N0 ra))
  | [], b, i, v, h => by simp [mArg] at h
  | w :: vs, b, i, v, h => by
    unfold mArg at h
    rw [List.map_cons, lv_args, mCv_cat]
    cases hc : Nat.beq w.category 2 with
    | true =>
      have e : w.category = 2 := Nat.eq_of_beq_eq_true hc
      rw [if_pos e]
      simp only [hc, cond_true] at h
      cases i with
      | zero => cases h; exact List.mem_cons_self
      | succ i => cases i with
        | zero => cases h
        | succ i =>
          have := mArg_get (N0 := N0) (ra := ra) vs (b + 2) i v h
          rw [show b + 2 + i = b + (i + 1 + 1) by omega] at this
          exact List.mem_cons_of_mem _ this
    | false =>
      have e : ¬ w.category = 2 := fun q => by rw [q] at hc; cases hc
      rw [if_neg e]
      simp only [hc, cond_false] at h
      cases i with
      | zero => cases h; exact List.mem_cons_self
      | succ i =>
        have := mArg_get (N0 := N0) (ra := ra) vs (b + 1) i v h
        rw [show b + 1 + i = b + (i + 1) by omega] at this
        exact List.mem_cons_of_mem _ this
theorem mLV.entry {N0 : Nat} {ra : Nat → Nat} {vs : List Value} {n : Nat} (h : (mArg vs).length ≤ n) : mLV N0 ra ((lg_sl (vs.map (mCv N0 ra)) ++ List.replicate (n - (lg_sl (vs.map (mCv N0 ra))).length) Slot.unset).toArray) n (mPad (mArg vs) n) := by
  have h0 := lv_entry (vs.map (mCv N0 ra)) (n := n) (by rw [lg_sl_len, ← mArg_len]; exact h)
  refine ⟨h0.1, h0.2.1, fun i v hv => ?_⟩
  rw [mPad_get] at hv
  have h1 := mArg_get (N0 := N0) (ra := ra) vs 0 i v hv
  rw [Nat.zero_add] at h1
  exact h0.2.2 _ h1
