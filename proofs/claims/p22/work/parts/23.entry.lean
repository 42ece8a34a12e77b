/-! The law's entry: what the tables and the start say, for the small machine. -/
theorem mTW_of {s : State} {A0 : Array Value} (h : ∀ w ∈ lw_tbl, w.before A0 s = true) : mTW s := by
  intro w hw A
  obtain ⟨hm, hs⟩ := List.mem_filter.mp hw
  have h0 := h w hm
  have hW := State.WarmedH.refl s
  unfold mStab at hs
  rcases (Bool.or_eq_true _ _).mp hs with g | g
  · exact word_at hW (good_of_word g) h0
  · cases w with
    | fieldLinkNest a i b n d z => exact va_Nw.use rfl (va_Nw.warmF hW (va_Nw.of rfl h0))
    | methodLinkNest a i x z => exact va_Nw.use rfl (va_Nw.warmM hW (va_Nw.of rfl h0))
    | arrayOver ty =>
      have e : ty = .array .int := by simpa using g
      subst e
      exact mAO_moved hW.alike h0
    | _ => simp at g
theorem mInst : ∀ (a : Nat) (q : vw_C), mCl[a]? = some q → ∃ n, Jvm.Cond.instantiable q.1 n ∈ lw_tbl := by
  intro a q h
  match a, h with
  | 0, h => cases h; exact ⟨4, mTabN_mem (k := 1) (i := 69) (by decide +kernel)⟩
  | 1, h => cases h; exact ⟨2, mTabN_mem (k := 1) (i := 153) (by decide +kernel)⟩
  | 2, h => cases h; exact ⟨1, mTabN_mem (k := 1) (i := 88) (by decide +kernel)⟩
  | 3, h => cases h; exact ⟨4, mTabN_mem (k := 1) (i := 128) (by decide +kernel)⟩
  | 4, h => cases h; exact ⟨3, mTabN_mem (k := 1) (i := 170) (by decide +kernel)⟩
  | 5, h => cases h; exact ⟨2, mTabN_mem (k := 1) (i := 32) (by decide +kernel)⟩
  | 6, h => cases h; exact ⟨7, mTabN_mem (k := 1) (i := 98) (by decide +kernel)⟩
  | 7, h => cases h; exact ⟨3, mTabN_mem (k := 1) (i := 26) (by decide +kernel)⟩
  | 8, h => cases h; exact ⟨12, mTabN_mem (k := 1) (i := 18) (by decide +kernel)⟩
  | 9, h => cases h; exact ⟨24, mTabN_mem (k := 4) (i := 18) (by decide +kernel)⟩
  | a + 10, h => simp at h
theorem mKn {s : State} {A0 : Array Value} (h : ∀ w ∈ lw_tbl, w.before A0 s = true) : ∃ D : va_G, ∀ (c : Nat) (q : vw_C), mCl[c]? = some q → u_Kn s q.1 q.2.1 q.2.2 (D.1 c) (D.2 c) := by
  have key : ∀ c : Nat, ∃ z : ClassId × (Nat → Nat), ∀ q : vw_C, mCl[c]? = some q → u_Kn s q.1 q.2.1 q.2.2 z.1 z.2 := by
    intro c
    cases hc : mCl[c]? with
    | none => exact ⟨(0, fun _ => 0), fun q hq => by cases hq⟩
    | some q =>
      have hin := (mClOk_all c q hc).1
      obtain ⟨n, hn⟩ := mInst c q hc
      obtain ⟨cC, iS, hk⟩ := u_known (ws := mTs) (fun w hw => h w (List.mem_filter.mp hw).1) hin (h _ hn)
      exact ⟨(cC, iS), fun q' hq => by cases hq; exact hk⟩
  obtain ⟨f, hf⟩ := Classical.axiomOfChoice key
  exact ⟨(fun c => (f c).1, fun c => (f c).2), fun c q hq => hf c q hq⟩
def mLe (j : Nat) : Int32 := ([0, 1, 0] : List Int32).getD j 0
def mMo (j : Nat) : Int32 := ([3, 9, 99] : List Int32).getD j 0
def mRa (b t1 t2 fz : Nat) (k v : Nat → Nat) (i : Nat) : Nat := if i = 0 then b else if i = 1 then t1 else if i = 2 then t2 else if i = 7 then fz else if i < 13 then k (i - 3) else v (i - 13)
def mRoS (L : Nat) (xs : Nat → Int32) (z : Nat) (i : Nat) : Nat × (Nat → Int32) := if i = 0 then (L, xs) else if i = 1 then (3, mLe) else if i = 2 then (3, mMo) else if i = 7 then (z, fun _ => 0) else (mSln.getD (i - 13) 0, fun j => (mSby.getD (i - 13) []).getD j 0)
theorem mRJ_S {L z : Nat} {xs : Nat → Int32} : mRJ (mRoS L xs z) := ⟨rfl, rfl, rfl, rfl, rfl, rfl, rfl, rfl⟩
theorem mRB_S {L z : Nat} {xs : Nat → Int32} : mRB (mRoS L xs z) := by
  intro i hi
  match i, hi with
  | 0, _ => exact ⟨rfl, fun _ => rfl⟩
  | 1, _ => exact ⟨rfl, fun _ => rfl⟩
  | 2, _ => exact ⟨rfl, fun _ => rfl⟩
  | 3, _ => exact ⟨rfl, fun _ => rfl⟩
  | i + 4, hi => exact absurd hi (by omega)
theorem mSt_LEAST {s : State} {A0 : Array Value} (h : ∀ w ∈ lw_tbl, w.before A0 s = true) (hs : ∀ w ∈ flatC (Jvm.Cond.and given_1 narrow_1), w.before A0 s = true) : ∃ t : Nat, va_Z "PoleRecords$Judge" "LEAST" "[I" (.ref t) (mA s.heap.size) s s.heap ∧ va_T .int t 3 (fun j => .int (mLe j)) (mA s.heap.size) s s.heap := by
  have hA : ∀ a : Nat, a < s.heap.size → ¬ mA s.heap.size a := fun a g k => by
    unfold mA at k
    omega
  have hel : ∀ j : Nat, j < 3 → (Jvm.Cond.eq (.elem (.static "PoleRecords$Judge" "LEAST" "[I") (.int (Int32.ofNat j))) (.int (mLe j))).before A0 s = true := by
    intro j hj
    match j, hj with
    | 0, _ => exact hs _ (by decide +kernel)
    | 1, _ => exact hs _ (by decide +kernel)
    | 2, _ => exact hs _ (by decide +kernel)
    | j + 3, hj => exact absurd hj (by omega)
  obtain ⟨t, ht, hT⟩ := va_Tof (tm := (.static "PoleRecords$Judge" "LEAST" "[I")) (ty := .int) (N := 3) (f := fun j => .int (mLe j)) (A := mA s.heap.size) (args := A0) (s := s) (by decide) (hs _ (by decide +kernel)) (va_eqt (hs _ (by decide +kernel))) (fun j hj => va_eqt (hel j hj)) hA
  exact ⟨t, va_Zref (h _ (mTabN_mem (k := 2) (i := 111) (by decide +kernel))) (h _ (mTabN_mem (k := 1) (i := 6) (by decide +kernel))) ht hA, hT⟩
theorem mSt_MOST {s : State} {A0 : Array Value} (h : ∀ w ∈ lw_tbl, w.before A0 s = true) (hs : ∀ w ∈ flatC (Jvm.Cond.and given_1 narrow_1), w.before A0 s = true) : ∃ t : Nat, va_Z "PoleRecords$Judge" "MOST" "[I" (.ref t) (mA s.heap.size) s s.heap ∧ va_T .int t 3 (fun j => .int (mMo j)) (mA s.heap.size) s s.heap := by
  have hA : ∀ a : Nat, a < s.heap.size → ¬ mA s.heap.size a := fun a g k => by
    unfold mA at k
    omega
  have hel : ∀ j : Nat, j < 3 → (Jvm.Cond.eq (.elem (.static "PoleRecords$Judge" "MOST" "[I") (.int (Int32.ofNat j))) (.int (mMo j))).before A0 s = true := by
    intro j hj
    match j, hj with
    | 0, _ => exact hs _ (by decide +kernel)
    | 1, _ => exact hs _ (by decide +kernel)
    | 2, _ => exact hs _ (by decide +kernel)
    | j + 3, hj => exact absurd hj (by omega)
  obtain ⟨t, ht, hT⟩ := va_Tof (tm := (.static "PoleRecords$Judge" "MOST" "[I")) (ty := .int) (N := 3) (f := fun j => .int (mMo j)) (A := mA s.heap.size) (args := A0) (s := s) (by decide) (hs _ (by decide +kernel)) (va_eqt (hs _ (by decide +kernel))) (fun j hj => va_eqt (hel j hj)) hA
  exact ⟨t, va_Zref (h _ (mTabN_mem (k := 2) (i := 113) (by decide +kernel))) (h _ (mTabN_mem (k := 1) (i := 6) (by decide +kernel))) ht hA, hT⟩
theorem mStrs {s : State} {A0 : Array Value} (h : ∀ w ∈ lw_tbl, w.before A0 s = true) (hs : ∀ w ∈ flatC (Jvm.Cond.and given_1 narrow_1), w.before A0 s = true) : ∃ k v : Nat → Nat, vk_S 4 mSln mSby k v (mA s.heap.size) s s.heap ∧ ∀ i, i < 4 → vk_R "PoleRecords$Reader" (mStrIx (1003 + i)) (mStx i) (k i) s := by
  have hA : ∀ a : Nat, a < s.heap.size → ¬ mA s.heap.size a := fun a g k => by
    unfold mA at k
    omega
  have hN : ∀ i : Nat, i < 4 → mSln.getD i 0 < 2 ^ 31 := by decide
  have hex : ∀ i : Nat, i < 4 → (Jvm.Cond.exactly (.string "PoleRecords$Reader" (mStrIx (1003 + i))) "java/lang/String").before A0 s = true := by
    intro i hi
    match i, hi with
    | 0, _ => exact hs _ (by decide +kernel)
    | 1, _ => exact hs _ (by decide +kernel)
    | 2, _ => exact hs _ (by decide +kernel)
    | 3, _ => exact hs _ (by decide +kernel)
    | i + 4, hi => exact absurd hi (by omega)
  have hco : ∀ i : Nat, i < 4 → (Jvm.Cond.eq (.field (.string "PoleRecords$Reader" (mStrIx (1003 + i))) "java/lang/String" "coder" "B") (.int 0)).before A0 s = true := by
    intro i hi
    match i, hi with
    | 0, _ => exact hs _ (by decide +kernel)
    | 1, _ => exact hs _ (by decide +kernel)
    | 2, _ => exact hs _ (by decide +kernel)
    | 3, _ => exact hs _ (by decide +kernel)
    | i + 4, hi => exact absurd hi (by omega)
  have har : ∀ i : Nat, i < 4 → (Jvm.Cond.arrayOf (.field (.string "PoleRecords$Reader" (mStrIx (1003 + i))) "java/lang/String" "value" "[B") .byte).before A0 s = true := by
    intro i hi
    match i, hi with
    | 0, _ => exact hs _ (by decide +kernel)
    | 1, _ => exact hs _ (by decide +kernel)
    | 2, _ => exact hs _ (by decide +kernel)
    | 3, _ => exact hs _ (by decide +kernel)
    | i + 4, hi => exact absurd hi (by omega)
  have hle : ∀ i : Nat, i < 4 → (Jvm.Cond.eq (.length (.field (.string "PoleRecords$Reader" (mStrIx (1003 + i))) "java/lang/String" "value" "[B")) (.int (Int32.ofNat (mSln.getD i 0)))).before A0 s = true := by
    intro i hi
    match i, hi with
    | 0, _ => exact hs _ (by decide +kernel)
    | 1, _ => exact hs _ (by decide +kernel)
    | 2, _ => exact hs _ (by decide +kernel)
    | 3, _ => exact hs _ (by decide +kernel)
    | i + 4, hi => exact absurd hi (by omega)
  have hel : ∀ i : Nat, i < 4 → ∀ j : Nat, j < mSln.getD i 0 → (Jvm.Cond.eq (.elem (.field (.string "PoleRecords$Reader" (mStrIx (1003 + i))) "java/lang/String" "value" "[B") (.int (Int32.ofNat j))) (.int ((mSby.getD i []).getD j 0))).before A0 s = true := by
    intro i hi
    match i, hi with
    | 0, _ =>
      intro j hj
      have hj : j < 5 := hj
      match j, hj with
      | 0, _ => exact hs _ (by decide +kernel)
      | 1, _ => exact hs _ (by decide +kernel)
      | 2, _ => exact hs _ (by decide +kernel)
      | 3, _ => exact hs _ (by decide +kernel)
      | 4, _ => exact hs _ (by decide +kernel)
      | j + 5, hj => exact absurd hj (by omega)
    | 1, _ =>
      intro j hj
      have hj : j < 4 := hj
      match j, hj with
      | 0, _ => exact hs _ (by decide +kernel)
      | 1, _ => exact hs _ (by decide +kernel)
      | 2, _ => exact hs _ (by decide +kernel)
      | 3, _ => exact hs _ (by decide +kernel)
      | j + 4, hj => exact absurd hj (by omega)
    | 2, _ =>
      intro j hj
      have hj : j < 5 := hj
      match j, hj with
      | 0, _ => exact hs _ (by decide +kernel)
      | 1, _ => exact hs _ (by decide +kernel)
      | 2, _ => exact hs _ (by decide +kernel)
      | 3, _ => exact hs _ (by decide +kernel)
      | 4, _ => exact hs _ (by decide +kernel)
      | j + 5, hj => exact absurd hj (by omega)
    | 3, _ =>
      intro j hj
      have hj : j < 5 := hj
      match j, hj with
      | 0, _ => exact hs _ (by decide +kernel)
      | 1, _ => exact hs _ (by decide +kernel)
      | 2, _ => exact hs _ (by decide +kernel)
      | 3, _ => exact hs _ (by decide +kernel)
      | 4, _ => exact hs _ (by decide +kernel)
      | j + 5, hj => exact absurd hj (by omega)
    | i + 4, hi => exact absurd hi (by omega)
  have hne : ∀ i j : Nat, i < 4 → j < 4 → i ≠ j → (Jvm.Cond.not (Jvm.Cond.eq (.string "PoleRecords$Reader" (mStrIx (1003 + i))) (.string "PoleRecords$Reader" (mStrIx (1003 + j))))).before A0 s = true ∨ (Jvm.Cond.not (Jvm.Cond.eq (.string "PoleRecords$Reader" (mStrIx (1003 + j))) (.string "PoleRecords$Reader" (mStrIx (1003 + i))))).before A0 s = true := by
    intro i j hi hj
    match i, hi with
    | 0, _ =>
      match j, hj with
      | 0, _ => exact fun hn => absurd rfl hn
      | 1, _ => exact fun hn => Or.inl (hs _ (by decide +kernel))
      | 2, _ => exact fun hn => Or.inl (hs _ (by decide +kernel))
      | 3, _ => exact fun hn => Or.inl (hs _ (by decide +kernel))
      | j + 4, hj => exact absurd hj (by omega)
    | 1, _ =>
      match j, hj with
      | 0, _ => exact fun hn => Or.inr (hs _ (by decide +kernel))
      | 1, _ => exact fun hn => absurd rfl hn
      | 2, _ => exact fun hn => Or.inl (hs _ (by decide +kernel))
      | 3, _ => exact fun hn => Or.inl (hs _ (by decide +kernel))
      | j + 4, hj => exact absurd hj (by omega)
    | 2, _ =>
      match j, hj with
      | 0, _ => exact fun hn => Or.inr (hs _ (by decide +kernel))
      | 1, _ => exact fun hn => Or.inr (hs _ (by decide +kernel))
      | 2, _ => exact fun hn => absurd rfl hn
      | 3, _ => exact fun hn => Or.inl (hs _ (by decide +kernel))
      | j + 4, hj => exact absurd hj (by omega)
    | 3, _ =>
      match j, hj with
      | 0, _ => exact fun hn => Or.inr (hs _ (by decide +kernel))
      | 1, _ => exact fun hn => Or.inr (hs _ (by decide +kernel))
      | 2, _ => exact fun hn => Or.inr (hs _ (by decide +kernel))
      | 3, _ => exact fun hn => absurd rfl hn
      | j + 4, hj => exact absurd hj (by omega)
    | i + 4, hi => exact absurd hi (by omega)
  obtain ⟨k, v, hS, hK⟩ := vk_Sof (args := A0) (s := s) (N := 4) (tm := fun i => .string "PoleRecords$Reader" (mStrIx (1003 + i))) (len := mSln) (byt := mSby) (A := mA s.heap.size) hN hex hco har hle hel hne hA
  refine ⟨k, v, hS, fun i hi => ?_⟩
  have hsr : (Jvm.Cond.stringRef "PoleRecords$Reader" (mStrIx (1003 + i)) (mStx i)).before A0 s = true := by
    match i, hi with
    | 0, _ => exact h _ (mTabN_mem (k := 3) (i := 129) (by decide +kernel))
    | 1, _ => exact h _ (mTabN_mem (k := 3) (i := 209) (by decide +kernel))
    | 2, _ => exact h _ (mTabN_mem (k := 3) (i := 214) (by decide +kernel))
    | 3, _ => exact h _ (mTabN_mem (k := 3) (i := 215) (by decide +kernel))
    | i + 4, hi => exact absurd hi (by omega)
  exact vk_R.of hsr (hK i hi)
theorem mArrI {s : State} {A0 : Array Value} {ty : FieldType} (h : (Jvm.Cond.arrayClass ty).before A0 s = true) : ∃ cA : ClassId, ArrOfT s cA ty ∧ s.vm.findClass ("[" ++ ty.toString) = some cA := by
  obtain ⟨c, k, comp, h1, h2, h3⟩ := Cond.arrayClass_spec h
  exact ⟨c, fun n z => ⟨fun k h => (by cases h), k, h2, comp, h3⟩, h1⟩
theorem mArrQ {s : State} {A0 : Array Value} (h : (Jvm.Cond.arrayOver (.array .int)).before A0 s = true) : ∃ cA : ClassId, ArrOfT s cA (.array .int) ∧ s.vm.findClass ("[" ++ (FieldType.array .int).toString) = some cA := by
  obtain ⟨comp, c, k, h1, h2, h3, h4, h5⟩ := arrayOverA_spec h
  exact ⟨c, fun n z => ⟨fun k h => (by cases h), k, h3, comp, h4⟩, h5⟩
theorem mKX_start {s : State} {A0 : Array Value} {b L : Nat} {xs : Nat → Int32} (h : ∀ w ∈ lw_tbl, w.before A0 s = true) (hX : va_X b L xs s s.heap) (hb : b < s.heap.size) (hg : (Jvm.Cond.and given_1 narrow_1).before A0 s = true) : ∃ (D : va_G) (ra : Nat → Nat) (cI cC cQ : ClassId) (z : Nat), mKX D s.heap.size ra (mRoS L xs z) cI cC cQ s ∧ ra 0 = b := by
  have hs := flat_of_before _ hg
  have hA : ∀ a : Nat, a < s.heap.size → ¬ mA s.heap.size a := fun a g k => by
    unfold mA at k
    omega
  obtain ⟨D, hD⟩ := mKn h
  obtain ⟨t1, z1, T1⟩ := mSt_LEAST h hs
  obtain ⟨t2, z2, T2⟩ := mSt_MOST h hs
  obtain ⟨k, v, hS, hR⟩ := mStrs h hs
  obtain ⟨cI, i1, i2⟩ := mArrI (h (.arrayClass .int) (mTabN_mem (k := 1) (i := 47) (by decide +kernel)))
  obtain ⟨cC, c1, c2⟩ := mArrI (h (.arrayClass .char) (mTabN_mem (k := 4) (i := 96) (by decide +kernel)))
  obtain ⟨cQ, q1, q2⟩ := mArrQ (h (.arrayOver (.array .int)) (mTabN_mem (k := 1) (i := 104) (by decide +kernel)))
  have hZ : va_Z "java/lang/String" "COMPACT_STRINGS" "Z" (.int 1) (mA s.heap.size) s s.heap := va_Zof (args := A0) (h _ (mTabN_mem (k := 3) (i := 156) (by decide +kernel))) (h _ (mTabN_mem (k := 1) (i := 13) (by decide +kernel))) (va_eqt (hs _ (by decide +kernel))) hA
  have hY : va_Zq "jdk/internal/util/Preconditions" "SIOOBE_FORMATTER" "Ljava/util/function/BiFunction;" (mA s.heap.size) s s.heap := va_Zqof (args := A0) (h _ (mTabN_mem (k := 3) (i := 172) (by decide +kernel))) (h _ (mTabN_mem (k := 1) (i := 15) (by decide +kernel))) (hs _ (by decide +kernel)) hA
  have hY : ∃ z fz : Nat, (Nat.beq z 0 = true ∧ va_Z "jdk/internal/util/Preconditions" "SIOOBE_FORMATTER" "Ljava/util/function/BiFunction;" .null (mA s.heap.size) s s.heap) ∨ (Nat.beq z 0 = false ∧ va_Z "jdk/internal/util/Preconditions" "SIOOBE_FORMATTER" "Ljava/util/function/BiFunction;" (.ref fz) (mA s.heap.size) s s.heap) := by
    rcases hY with hY | ⟨t, hY⟩
    · exact ⟨0, 0, Or.inl ⟨rfl, hY⟩⟩
    · exact ⟨1, t, Or.inr ⟨rfl, hY⟩⟩
  obtain ⟨z, fz, hY⟩ := hY
  have ek : ∀ i, i < 4 → mRa b t1 t2 fz k v (3 + i) = k i := by
    intro i hi
    match i, hi with
    | 0, _ => rfl
    | 1, _ => rfl
    | 2, _ => rfl
    | 3, _ => rfl
    | i + 4, hi => exact absurd hi (by omega)
  have ev : ∀ i, i < 4 → mRa b t1 t2 fz k v (13 + i) = v i := by
    intro i hi
    match i, hi with
    | 0, _ => rfl
    | 1, _ => rfl
    | 2, _ => rfl
    | 3, _ => rfl
    | i + 4, hi => exact absurd hi (by omega)
  have hro : ∀ i, i < 4 → (mRoS L xs z (13 + i)).1 = mSln.getD i 0 := by
    intro i hi
    match i, hi with
    | 0, _ => rfl
    | 1, _ => rfl
    | 2, _ => rfl
    | 3, _ => rfl
    | i + 4, hi => exact absurd hi (by omega)
  refine ⟨D, mRa b t1 t2 fz k v, cI, cC, cQ, z, ⟨mTW_of h, ⟨hD, ?_⟩, ⟨hX, hb⟩, Nat.le_refl _, ⟨z1, T1⟩, ⟨z2, T2⟩, hZ, ⟨fun i hi => ?_, fun i j hi hj e => ?_⟩, fun i hi => ⟨?_, hro i hi⟩, hY, fun i hi => (mRB_S i hi).2⟩, rfl⟩
  · intro j q hq
    match j, hq with
    | 0, hq => cases hq; exact ⟨i1, i2⟩
    | 1, hq => cases hq; exact ⟨c1, c2⟩
    | 2, hq => cases hq; exact ⟨q1, q2⟩
    | j + 3, hq => simp at hq
  · show va_O "java/lang/String" (mRa b t1 t2 fz k v (3 + i)) _ _ _ ∧ va_OF "java/lang/String" "coder" "B" (.int 0) (mRa b t1 t2 fz k v (3 + i)) _ _ _ ∧ va_OF "java/lang/String" "value" "[B" (.ref (mRa b t1 t2 fz k v (13 + i))) (mRa b t1 t2 fz k v (3 + i)) _ _ _ ∧ va_T .byte (mRa b t1 t2 fz k v (13 + i)) _ _ _ _ _
    rw [ek i hi, ev i hi]
    exact hS.1 i hi
  · have e : mRa b t1 t2 fz k v (3 + i) = mRa b t1 t2 fz k v (3 + j) := e
    rw [ek i hi, ek j hj] at e
    exact hS.2 i j hi hj e
  · show vk_R _ _ _ (mRa b t1 t2 fz k v (3 + i)) s
    rw [ek i hi]
    exact hR i hi
