/-! What the machine does where the small machine goes: a row an instruction. -/
theorem mPop1_in {X : mSt → mPo → Prop} {Q : mPo} {st : List Value} {f : Int32 → List Value → mOut} (h : mIn X (mPop1 st f) Q) : ∃ x r, st = .int x :: r ∧ mIn X (f x r) Q := by
  unfold mPop1 at h
  split at h
  · exact ⟨_, _, rfl, h⟩
  · exact h.elim
theorem mPop2_in {X : mSt → mPo → Prop} {Q : mPo} {st : List Value} {f : Int32 → Int32 → List Value → mOut} (h : mIn X (mPop2 st f) Q) : ∃ x y r, st = .int y :: .int x :: r ∧ mIn X (f x y r) Q := by
  unfold mPop2 at h
  split at h
  · exact ⟨_, _, _, rfl, h⟩
  · exact h.elim
theorem mPopL1_in {X : mSt → mPo → Prop} {Q : mPo} {st : List Value} {f : Int64 → List Value → mOut} (h : mIn X (mPopL1 st f) Q) : ∃ x r, st = .long x :: r ∧ mIn X (f x r) Q := by
  unfold mPopL1 at h
  split at h
  · exact ⟨_, _, rfl, h⟩
  · exact h.elim
theorem mPopL2_in {X : mSt → mPo → Prop} {Q : mPo} {st : List Value} {f : Int64 → Int64 → List Value → mOut} (h : mIn X (mPopL2 st f) Q) : ∃ x y r, st = .long y :: .long x :: r ∧ mIn X (f x y r) Q := by
  unfold mPopL2 at h
  split at h
  · exact ⟨_, _, _, rfl, h⟩
  · exact h.elim
theorem mPopR_in {X : mSt → mPo → Prop} {Q : mPo} {st : List Value} {f : Nat → List Value → mOut} (h : mIn X (mPopR st f) Q) : ∃ (x : Nat) (r : List Value), st = .ref x :: r ∧ mIn X (f x r) Q := by
  unfold mPopR at h
  split at h
  · exact ⟨_, _, rfl, h⟩
  · exact h.elim
theorem mPopA_in {X : mSt → mPo → Prop} {Q : mPo} {st : List Value} {f : Nat → Int32 → List Value → mOut} (h : mIn X (mPopA st f) Q) : ∃ (a : Nat) (i : Int32) (r : List Value), st = .int i :: .ref a :: r ∧ mIn X (f a i r) Q := by
  unfold mPopA at h
  split at h
  · exact ⟨_, _, _, rfl, h⟩
  · exact h.elim
theorem mPopS_in {X : mSt → mPo → Prop} {Q : mPo} {st : List Value} {f : Nat → Int32 → Int32 → List Value → mOut} (h : mIn X (mPopS st f) Q) : ∃ (a : Nat) (i x : Int32) (r : List Value), st = .int x :: .int i :: .ref a :: r ∧ mIn X (f a i x r) Q := by
  unfold mPopS at h
  split at h
  · exact ⟨_, _, _, _, rfl, h⟩
  · exact h.elim
theorem mTop_in {X : mSt → mPo → Prop} {Q : mPo} {st : List Value} {f : Value → List Value → mOut} (h : mIn X (mTop st f) Q) : ∃ v r, st = v :: r ∧ mIn X (f v r) Q := by
  unfold mTop at h
  split at h
  · exact ⟨_, _, rfl, h⟩
  · exact h.elim
theorem mPopV_in {X : mSt → mPo → Prop} {Q : mPo} {st : List Value} {f : Value → Nat → List Value → mOut} (h : mIn X (mPopV st f) Q) : ∃ (v : Value) (a : Nat) (r : List Value), st = v :: .ref a :: r ∧ mIn X (f v a r) Q := by
  unfold mPopV at h
  split at h
  · exact ⟨_, _, _, rfl, h⟩
  · exact h.elim
theorem mLdI_in {X : mSt → mPo → Prop} {Q : mPo} {ml : List (Option Value)} {i : Nat} {f : Int32 → mOut} (h : mIn X (mLdI ml i f) Q) : ∃ x, ml.getD i none = some (.int x) ∧ mIn X (f x) Q := by
  unfold mLdI at h
  split at h
  · rename_i e
    exact ⟨_, e, h⟩
  · exact h.elim
theorem mLdL_in {X : mSt → mPo → Prop} {Q : mPo} {ml : List (Option Value)} {i : Nat} {f : Int64 → mOut} (h : mIn X (mLdL ml i f) Q) : ∃ x, ml.getD i none = some (.long x) ∧ mIn X (f x) Q := by
  unfold mLdL at h
  split at h
  · rename_i e
    exact ⟨_, e, h⟩
  · exact h.elim
theorem mLdR_in {X : mSt → mPo → Prop} {Q : mPo} {ml : List (Option Value)} {i : Nat} {f : Nat → mOut} (h : mIn X (mLdR ml i f) Q) : ∃ x : Nat, ml.getD i none = some (.ref x) ∧ mIn X (f x) Q := by
  unfold mLdR at h
  split at h
  · rename_i e
    exact ⟨_, e, h⟩
  · exact h.elim
theorem mPutD_in {X : mSt → mPo → Prop} {Q : mPo} {t : Nat} {v : Value} {fi : Int32 → mOut} {fl : Int64 → mOut} {fr : Nat → mOut} (h : mIn X (mPutD t v fi fl fr) Q) : (∃ x : Int32, t = 0 ∧ v = .int x ∧ mIn X (fi x) Q) ∨ (∃ x : Int64, t = 1 ∧ v = .long x ∧ mIn X (fl x) Q) ∨ ∃ x : Nat, t = 2 ∧ v = .ref x ∧ mIn X (fr x) Q := by
  unfold mPutD at h
  split at h
  · exact Or.inl ⟨_, rfl, rfl, h⟩
  · exact Or.inr (Or.inl ⟨_, rfl, rfl, h⟩)
  · exact Or.inr (Or.inr ⟨_, rfl, rfl, h⟩)
  · exact h.elim
theorem mIf_in {X : mSt → mPo → Prop} {Q : mPo} {b : Bool} {o : mOut} (h : mIn X (mIf b o) Q) : b = true ∧ mIn X o Q := by
  cases b with
  | true => exact ⟨rfl, h⟩
  | false => exact h.elim
theorem mCell_in {X : mSt → mPo → Prop} {Q : mPo} {h : mHp} {r : Nat} {f : Nat → Nat → List (Option Nat) → mOut} (g : mIn X (mCell h r f) Q) : r < 1000 ∧ ∃ k n rs, h.1[r]? = some (k, n, rs) ∧ mIn X (f k n rs) Q := by
  unfold mCell at g
  cases hb : Nat.blt r 1000 with
  | false => rw [hb] at g; exact g.elim
  | true =>
    rw [hb] at g
    simp only [cond_true] at g
    have hlt : r < 1000 := by simpa [Nat.blt_eq] using hb
    refine ⟨hlt, ?_⟩
    split at g
    · rename_i e
      exact ⟨_, _, _, e, g⟩
    · exact g.elim
def mStx (i : Nat) : String := if i = 0 then "years" else if i = 1 then "core" else if i = 2 then "north" else "south"
def mSln : List Nat := [5, 4, 5, 5]
def mSby : List (List Int32) := [[121, 101, 97, 114, 115], [99, 111, 114, 101], [110, 111, 114, 116, 104], [115, 111, 117, 116, 104]]
/-- what holds of a state at a method's entry beside its heap's new cells -/
def mKX (D : va_G) (N0 : Nat) (ra : Nat → Nat) (ro : Nat → Nat × (Nat → Int32)) (cI cC cQ : ClassId) (U : State) : Prop :=
  mTW U ∧ va_K D mCl [(cI, .int), (cC, .char), (cQ, .array .int)] U ∧ (va_X (ra 0) (ro 0).1 (ro 0).2 U U.heap ∧ ra 0 < N0) ∧ N0 ≤ U.heap.size ∧
  (va_Z "PoleRecords$Judge" "LEAST" "[I" (.ref (ra 1)) (mA N0) U U.heap ∧ va_T .int (ra 1) (ro 1).1 (fun j => .int ((ro 1).2 j)) (mA N0) U U.heap) ∧
  (va_Z "PoleRecords$Judge" "MOST" "[I" (.ref (ra 2)) (mA N0) U U.heap ∧ va_T .int (ra 2) (ro 2).1 (fun j => .int ((ro 2).2 j)) (mA N0) U U.heap) ∧
  va_Z "java/lang/String" "COMPACT_STRINGS" "Z" (.int 1) (mA N0) U U.heap ∧
  vk_S 4 mSln mSby (fun i => ra (3 + i)) (fun i => ra (13 + i)) (mA N0) U U.heap ∧
  (∀ i, i < 4 → vk_R "PoleRecords$Reader" (mStrIx (1003 + i)) (mStx i) (ra (3 + i)) U ∧ (ro (13 + i)).1 = mSln.getD i 0) ∧ ((Nat.beq (ro 7).1 0 = true ∧ va_Z "jdk/internal/util/Preconditions" "SIOOBE_FORMATTER" "Ljava/util/function/BiFunction;" .null (mA N0) U U.heap) ∨ (Nat.beq (ro 7).1 0 = false ∧ va_Z "jdk/internal/util/Preconditions" "SIOOBE_FORMATTER" "Ljava/util/function/BiFunction;" (.ref (ra 7)) (mA N0) U U.heap)) ∧ ∀ i, i < 4 → ∀ j, (ro (13 + i)).2 j = (mSby.getD i []).getD j 0
theorem mKX.go {D : va_G} {N0 : Nat} {ra : Nat → Nat} {ro : Nat → Nat × (Nat → Int32)} {cI cC cQ : ClassId} {s U : State} (h : mKX D N0 ra ro cI cC cQ s) (hW : s.WarmedH U.vm) (hz : s.heap.size ≤ U.heap.size) (hq : ∀ q : Nat, q < s.heap.size → ¬ mA N0 q → U.heap[q]? = s.heap[q]?) : mKX D N0 ra ro cI cC cQ U := by
  obtain ⟨h1, h2, ⟨h3, h3b⟩, h4, ⟨h5, h5b⟩, ⟨h6, h6b⟩, h7, h8, h9, h10, h11⟩ := h
  have hv := hW.alike
  refine ⟨h1.warm hW, va_K.moved hv h2, ⟨(h3.moved hv).kept (hq _ (by omega) (by unfold mA; omega)), h3b⟩, by omega, ⟨(h5.moved hv).kept hq, (h5b.moved hv).kept hq⟩, ⟨(h6.moved hv).kept hq, (h6b.moved hv).kept hq⟩, (h7.moved hv).kept hq, (h8.moved hv).kept hq, fun i hi => ⟨vk_R.warm hW (h9 i hi).1, (h9 i hi).2⟩, h10.imp (fun z => ⟨z.1, (z.2.moved hv).kept hq⟩) (fun z => ⟨z.1, (z.2.moved hv).kept hq⟩), h11⟩
/-- a method's end -/
def mQC (D : va_G) (N0 : Nat) (ra : Nat → Nat) (cI cC cQ : ClassId) (Q : mPo) : Array Value → State → Outcome → State → Prop := fun _ st o t => ∃ (r : Option Value) (h : mHp), o = .returned (r.map (mCv N0 ra)) ∧ Q r h ∧ (va_P D mCl (mWs N0 ra cI cC cQ h) t.heap ∧ t.heap.size = N0 + h.1.length) ∧ va_F (mA N0) st t
/-- what doesn't change within a method -/
def mFx (D : va_G) (N0 : Nat) (ra : Nat → Nat) (ro : Nat → Nat × (Nat → Int32)) (cI cC cQ : ClassId) (p : Program) (R : Room) (s : State) (m : MethodId) (meth : Method) (c : Code) (d M : Nat) : Prop :=
  p.tables.exec = Jvm.exec ∧ c.code = mtBytes (mTb_ M) ∧ c.maxLocals = mtMax (mTb_ M) ∧ s.vm.findClass (mtName (mTb_ M)).cls = some m.cls ∧ meth.sig.returnType = mtRet (mTb_ M) ∧ meth.locks = false ∧ (mtKind (mTb_ M) = 1 → meth.name = "<init>") ∧ mKX D N0 ra ro cI cC cQ s ∧ d ≤ R.frames ∧ 34 * d ≤ R.locals ∧ (mtBud (mTb_ M)).1 ≤ R.cells ∧ (mtBud (mTb_ M)).2 ≤ R.slots
def mVr (D : va_G) (N0 : Nat) (ra : Nat → Nat) (cI cC cQ : ClassId) (s : State) (H : Heap) (locs : List Loc) (ls : Array Slot) (M : Nat) (ml : List (Option Value)) (ca sl : Nat) (h : mHp) : Prop :=
  va_P D mCl (mWs N0 ra cI cC cQ h) H ∧ H.size = N0 + h.1.length ∧ va_S (mA N0) s.heap H locs ∧ mLV N0 ra ls (mtMax (mTb_ M)) ml ∧ ca ≤ (mtBud (mTb_ M)).1 ∧ sl ≤ (mtBud (mTb_ M)).2
def mSo (l : Launch) (D : va_G) (N0 : Nat) (ra : Nat → Nat) (ro : Nat → Nat × (Nat → Int32)) (cI cC cQ : ClassId) : mSt → mPo → Prop
  | (d, M, pc, ml, st, ca, sl, h), Q => ∀ (p : Program) (e : Env) (R : Room) (s : State) (m : MethodId) (args : Array Value) (below : List Frame) (meth : Method) (c : Code) (H : Heap) (locs : List Loc) (ls : Array Slot), mFx D N0 ra ro cI cC cQ p R s m meth c d M → mVr D N0 ra cI cC cQ s H locs ls M ml ca sl h →
    W p l e R s m args below meth c H locs ca sl (MQ below (mQC D N0 ra cI cC cQ Q) args s (mtBud (mTb_ M)).1 (mtBud (mTb_ M)).2 (mA N0)) (F0 m pc ls (st.map (mCv N0 ra)))
section SO
variable {l : Launch} {D : va_G} {N0 : Nat} {ra : Nat → Nat} {ro : Nat → Nat × (Nat → Int32)} {cI cC cQ : ClassId} {d M pc nx a b ca sl : Nat} {zi : Int32} {zl : Int64} {ts : List Nat} {ml : List (Option Value)} {st : List Value} {h : mHp} {Q : mPo}
abbrev mDX (ins : Instr) (nx a b : Nat) (zi : Int32) (zl : Int64) (ts : List Nat) (l : Launch) (D : va_G) (N0 : Nat) (ra : Nat → Nat) (ro : Nat → Nat × (Nat → Int32)) (cI cC cQ : ClassId) (d M : Nat) (ml : List (Option Value)) (st : List Value) (ca sl : Nat) (h : mHp) (Q : mPo) : Prop := mIn (mSo l D N0 ra ro cI cC cQ) (mDo mTb_ mFT ro (ins, nx, a, b, zi, zl, ts) d M ml st ca sl h) Q

theorem so_iconst {n : Int} (hv : Int32.ofInt n = zi) (hd : decode (mtBytes (mTb_ M)) pc = .ok (.iconst n, 1)) (hi : mDX (.iconst n) (pc + 1) a b zi zl ts l D N0 ra ro cI cC cQ d M ml st ca sl h Q) : mSo l D N0 ra ro cI cC cQ (d, M, pc, ml, st, ca, sl, h) Q := by
  intro p e R s m args below meth c H locs ls F V
  exact lv_iconst F.1 F.2.1 hd hv (hi p e R s m args below meth c H locs ls F V)
theorem so_bipush {n : Int} (hv : (Int8.ofInt n).toInt32 = zi) (hd : decode (mtBytes (mTb_ M)) pc = .ok (.bipush n, 2)) (hi : mDX (.bipush n) (pc + 2) a b zi zl ts l D N0 ra ro cI cC cQ d M ml st ca sl h Q) : mSo l D N0 ra ro cI cC cQ (d, M, pc, ml, st, ca, sl, h) Q := by
  intro p e R s m args below meth c H locs ls F V
  exact lv_bipush F.1 F.2.1 hd hv (hi p e R s m args below meth c H locs ls F V)
theorem so_sipush {n : Int} (hv : (Int16.ofInt n).toInt32 = zi) (hd : decode (mtBytes (mTb_ M)) pc = .ok (.sipush n, 3)) (hi : mDX (.sipush n) (pc + 3) a b zi zl ts l D N0 ra ro cI cC cQ d M ml st ca sl h Q) : mSo l D N0 ra ro cI cC cQ (d, M, pc, ml, st, ca, sl, h) Q := by
  intro p e R s m args below meth c H locs ls F V
  exact lv_sipush F.1 F.2.1 hd hv (hi p e R s m args below meth c H locs ls F V)
theorem so_lconst {n : Fin 2} (hv : Int64.ofNat (n : Nat) = zl) (hd : decode (mtBytes (mTb_ M)) pc = .ok (.lconst n, 1)) (hi : mDX (.lconst n) (pc + 1) a b zi zl ts l D N0 ra ro cI cC cQ d M ml st ca sl h Q) : mSo l D N0 ra ro cI cC cQ (d, M, pc, ml, st, ca, sl, h) Q := by
  intro p e R s m args below meth c H locs ls F V
  exact lv_lconst F.1 F.2.1 hd hv (hi p e R s m args below meth c H locs ls F V)
theorem so_iload {i : Nat} (hd : decode (mtBytes (mTb_ M)) pc = .ok (.iload i, 2)) (hi : mDX (.iload i) (pc + 2) a b zi zl ts l D N0 ra ro cI cC cQ d M ml st ca sl h Q) : mSo l D N0 ra ro cI cC cQ (d, M, pc, ml, st, ca, sl, h) Q := by
  obtain ⟨x, hx, hi⟩ := mLdI_in hi
  intro p e R s m args below meth c H locs ls F V
  exact lv_iload F.1 F.2.1 hd (V.2.2.2.1.2.2 _ _ hx) (hi p e R s m args below meth c H locs ls F V)
theorem so_iload_n {i : Fin 4} (hd : decode (mtBytes (mTb_ M)) pc = .ok (.iload_n i, 1)) (hi : mDX (.iload_n i) (pc + 1) a b zi zl ts l D N0 ra ro cI cC cQ d M ml st ca sl h Q) : mSo l D N0 ra ro cI cC cQ (d, M, pc, ml, st, ca, sl, h) Q := by
  obtain ⟨x, hx, hi⟩ := mLdI_in hi
  intro p e R s m args below meth c H locs ls F V
  exact lv_iload_n F.1 F.2.1 hd rfl (V.2.2.2.1.2.2 _ _ hx) (hi p e R s m args below meth c H locs ls F V)
theorem so_lload {i : Nat} (hd : decode (mtBytes (mTb_ M)) pc = .ok (.lload i, 2)) (hi : mDX (.lload i) (pc + 2) a b zi zl ts l D N0 ra ro cI cC cQ d M ml st ca sl h Q) : mSo l D N0 ra ro cI cC cQ (d, M, pc, ml, st, ca, sl, h) Q := by
  obtain ⟨x, hx, hi⟩ := mLdL_in hi
  intro p e R s m args below meth c H locs ls F V
  exact lv_lload F.1 F.2.1 hd (V.2.2.2.1.2.2 _ _ hx) (hi p e R s m args below meth c H locs ls F V)
theorem so_lload_n {i : Fin 4} (hd : decode (mtBytes (mTb_ M)) pc = .ok (.lload_n i, 1)) (hi : mDX (.lload_n i) (pc + 1) a b zi zl ts l D N0 ra ro cI cC cQ d M ml st ca sl h Q) : mSo l D N0 ra ro cI cC cQ (d, M, pc, ml, st, ca, sl, h) Q := by
  obtain ⟨x, hx, hi⟩ := mLdL_in hi
  intro p e R s m args below meth c H locs ls F V
  exact lv_lload_n F.1 F.2.1 hd rfl (V.2.2.2.1.2.2 _ _ hx) (hi p e R s m args below meth c H locs ls F V)
theorem so_aload {i : Nat} (hd : decode (mtBytes (mTb_ M)) pc = .ok (.aload i, 2)) (hi : mDX (.aload i) (pc + 2) a b zi zl ts l D N0 ra ro cI cC cQ d M ml st ca sl h Q) : mSo l D N0 ra ro cI cC cQ (d, M, pc, ml, st, ca, sl, h) Q := by
  obtain ⟨x, hx, hi⟩ := mLdR_in hi
  intro p e R s m args below meth c H locs ls F V
  exact lv_aload F.1 F.2.1 hd (V.2.2.2.1.2.2 _ _ hx) (hi p e R s m args below meth c H locs ls F V)
theorem so_aload_n {i : Fin 4} (hd : decode (mtBytes (mTb_ M)) pc = .ok (.aload_n i, 1)) (hi : mDX (.aload_n i) (pc + 1) a b zi zl ts l D N0 ra ro cI cC cQ d M ml st ca sl h Q) : mSo l D N0 ra ro cI cC cQ (d, M, pc, ml, st, ca, sl, h) Q := by
  obtain ⟨x, hx, hi⟩ := mLdR_in hi
  intro p e R s m args below meth c H locs ls F V
  exact lv_aload_n F.1 F.2.1 hd rfl (V.2.2.2.1.2.2 _ _ hx) (hi p e R s m args below meth c H locs ls F V)
theorem so_istore {i : Nat} (hd : decode (mtBytes (mTb_ M)) pc = .ok (.istore i, 2)) (hi : mDX (.istore i) (pc + 2) a b zi zl ts l D N0 ra ro cI cC cQ d M ml st ca sl h Q) : mSo l D N0 ra ro cI cC cQ (d, M, pc, ml, st, ca, sl, h) Q := by
  obtain ⟨x, r, rfl, hi⟩ := mPop1_in hi
  obtain ⟨hb, hi⟩ := mIf_in hi
  have hb : i < mtMax (mTb_ M) := by simpa [Nat.blt_eq] using hb
  intro p e R s m args below meth c H locs ls F V
  refine lv_istore F.1 F.2.1 hd (V.2.2.2.1.has) hb rfl (fun ls2 hl2 => ?_)
  exact hi p e R s m args below meth c H locs ls2 F ⟨V.1, V.2.1, V.2.2.1, mLV.store1 (v := .int x) hl2, V.2.2.2.2⟩
theorem so_istore_n {i : Fin 4} (hd : decode (mtBytes (mTb_ M)) pc = .ok (.istore_n i, 1)) (hi : mDX (.istore_n i) (pc + 1) a b zi zl ts l D N0 ra ro cI cC cQ d M ml st ca sl h Q) : mSo l D N0 ra ro cI cC cQ (d, M, pc, ml, st, ca, sl, h) Q := by
  obtain ⟨x, r, rfl, hi⟩ := mPop1_in hi
  obtain ⟨hb, hi⟩ := mIf_in hi
  have hb : i.val < mtMax (mTb_ M) := by simpa [Nat.blt_eq] using hb
  intro p e R s m args below meth c H locs ls F V
  refine lv_istore_n F.1 F.2.1 hd rfl (V.2.2.2.1.has) hb rfl (fun ls2 hl2 => ?_)
  exact hi p e R s m args below meth c H locs ls2 F ⟨V.1, V.2.1, V.2.2.1, mLV.store1 (v := .int x) hl2, V.2.2.2.2⟩
theorem so_lstore {i : Nat} (hd : decode (mtBytes (mTb_ M)) pc = .ok (.lstore i, 2)) (hi : mDX (.lstore i) (pc + 2) a b zi zl ts l D N0 ra ro cI cC cQ d M ml st ca sl h Q) : mSo l D N0 ra ro cI cC cQ (d, M, pc, ml, st, ca, sl, h) Q := by
  obtain ⟨x, r, rfl, hi⟩ := mPopL1_in hi
  obtain ⟨hb, hi⟩ := mIf_in hi
  have hb : i + 1 < mtMax (mTb_ M) := by simpa [Nat.blt_eq] using hb
  intro p e R s m args below meth c H locs ls F V
  refine lv_lstore F.1 F.2.1 hd (V.2.2.2.1.has) hb rfl (fun ls2 hl2 => ?_)
  exact hi p e R s m args below meth c H locs ls2 F ⟨V.1, V.2.1, V.2.2.1, mLV.store2 (v := .long x) hl2, V.2.2.2.2⟩
theorem so_lstore_n {i : Fin 4} (hd : decode (mtBytes (mTb_ M)) pc = .ok (.lstore_n i, 1)) (hi : mDX (.lstore_n i) (pc + 1) a b zi zl ts l D N0 ra ro cI cC cQ d M ml st ca sl h Q) : mSo l D N0 ra ro cI cC cQ (d, M, pc, ml, st, ca, sl, h) Q := by
  obtain ⟨x, r, rfl, hi⟩ := mPopL1_in hi
  obtain ⟨hb, hi⟩ := mIf_in hi
  have hb : i.val + 1 < mtMax (mTb_ M) := by simpa [Nat.blt_eq] using hb
  intro p e R s m args below meth c H locs ls F V
  refine lv_lstore_n F.1 F.2.1 hd rfl (V.2.2.2.1.has) hb rfl (fun ls2 hl2 => ?_)
  exact hi p e R s m args below meth c H locs ls2 F ⟨V.1, V.2.1, V.2.2.1, mLV.store2 (v := .long x) hl2, V.2.2.2.2⟩
theorem so_astore {i : Nat} (hd : decode (mtBytes (mTb_ M)) pc = .ok (.astore i, 2)) (hi : mDX (.astore i) (pc + 2) a b zi zl ts l D N0 ra ro cI cC cQ d M ml st ca sl h Q) : mSo l D N0 ra ro cI cC cQ (d, M, pc, ml, st, ca, sl, h) Q := by
  obtain ⟨x, r, rfl, hi⟩ := mPopR_in hi
  obtain ⟨hb, hi⟩ := mIf_in hi
  have hb : i < mtMax (mTb_ M) := by simpa [Nat.blt_eq] using hb
  intro p e R s m args below meth c H locs ls F V
  refine lv_astore F.1 F.2.1 hd (V.2.2.2.1.has) hb rfl (fun ls2 hl2 => ?_)
  exact hi p e R s m args below meth c H locs ls2 F ⟨V.1, V.2.1, V.2.2.1, mLV.store1 (v := .ref x) hl2, V.2.2.2.2⟩
theorem so_astore_n {i : Fin 4} (hd : decode (mtBytes (mTb_ M)) pc = .ok (.astore_n i, 1)) (hi : mDX (.astore_n i) (pc + 1) a b zi zl ts l D N0 ra ro cI cC cQ d M ml st ca sl h Q) : mSo l D N0 ra ro cI cC cQ (d, M, pc, ml, st, ca, sl, h) Q := by
  obtain ⟨x, r, rfl, hi⟩ := mPopR_in hi
  obtain ⟨hb, hi⟩ := mIf_in hi
  have hb : i.val < mtMax (mTb_ M) := by simpa [Nat.blt_eq] using hb
  intro p e R s m args below meth c H locs ls F V
  refine lv_astore_n F.1 F.2.1 hd rfl (V.2.2.2.1.has) hb rfl (fun ls2 hl2 => ?_)
  exact hi p e R s m args below meth c H locs ls2 F ⟨V.1, V.2.1, V.2.2.1, mLV.store1 (v := .ref x) hl2, V.2.2.2.2⟩
theorem so_iinc {i : Nat} {n : Int} (hv : Int32.ofInt n = zi) (hd : decode (mtBytes (mTb_ M)) pc = .ok (.iinc i n, 3)) (hi : mDX (.iinc i n) (pc + 3) a b zi zl ts l D N0 ra ro cI cC cQ d M ml st ca sl h Q) : mSo l D N0 ra ro cI cC cQ (d, M, pc, ml, st, ca, sl, h) Q := by
  obtain ⟨x, hx, hi⟩ := mLdI_in hi
  obtain ⟨hb, hi⟩ := mIf_in hi
  have hb : i < mtMax (mTb_ M) := by simpa [Nat.blt_eq] using hb
  obtain ⟨k, hk⟩ := List.getElem?_of_mem (mAs_mem (N0 := N0) (ra := ra) (q := (i, .int x)) |>.mpr ⟨_, hx, rfl⟩)
  intro p e R s m args below meth c H locs ls F V
  refine lv_iinc F.1 F.2.1 hd (V.2.2.2.1.has) hk (v := x + zi) (by rw [hv]) hb rfl (fun ls2 hl2 => ?_)
  exact hi p e R s m args below meth c H locs ls2 F ⟨V.1, V.2.1, V.2.2.1, mLV.store1 (v := .int (x + zi)) hl2, V.2.2.2.2⟩
theorem so_iadd (hd : decode (mtBytes (mTb_ M)) pc = .ok (.iadd, 1)) (hi : mDX (.iadd) (pc + 1) a b zi zl ts l D N0 ra ro cI cC cQ d M ml st ca sl h Q) : mSo l D N0 ra ro cI cC cQ (d, M, pc, ml, st, ca, sl, h) Q := by
  obtain ⟨x, y, r, rfl, hi⟩ := mPop2_in hi
  intro p e R s m args below meth c H locs ls F V
  exact lv_iadd F.1 F.2.1 hd (hi p e R s m args below meth c H locs ls F V)
theorem so_isub (hd : decode (mtBytes (mTb_ M)) pc = .ok (.isub, 1)) (hi : mDX (.isub) (pc + 1) a b zi zl ts l D N0 ra ro cI cC cQ d M ml st ca sl h Q) : mSo l D N0 ra ro cI cC cQ (d, M, pc, ml, st, ca, sl, h) Q := by
  obtain ⟨x, y, r, rfl, hi⟩ := mPop2_in hi
  intro p e R s m args below meth c H locs ls F V
  exact lv_isub F.1 F.2.1 hd (hi p e R s m args below meth c H locs ls F V)
theorem so_imul (hd : decode (mtBytes (mTb_ M)) pc = .ok (.imul, 1)) (hi : mDX (.imul) (pc + 1) a b zi zl ts l D N0 ra ro cI cC cQ d M ml st ca sl h Q) : mSo l D N0 ra ro cI cC cQ (d, M, pc, ml, st, ca, sl, h) Q := by
  obtain ⟨x, y, r, rfl, hi⟩ := mPop2_in hi
  intro p e R s m args below meth c H locs ls F V
  exact lv_imul F.1 F.2.1 hd (hi p e R s m args below meth c H locs ls F V)
theorem so_iand (hd : decode (mtBytes (mTb_ M)) pc = .ok (.iand, 1)) (hi : mDX (.iand) (pc + 1) a b zi zl ts l D N0 ra ro cI cC cQ d M ml st ca sl h Q) : mSo l D N0 ra ro cI cC cQ (d, M, pc, ml, st, ca, sl, h) Q := by
  obtain ⟨x, y, r, rfl, hi⟩ := mPop2_in hi
  intro p e R s m args below meth c H locs ls F V
  exact lv_iand F.1 F.2.1 hd (hi p e R s m args below meth c H locs ls F V)
theorem so_ior (hd : decode (mtBytes (mTb_ M)) pc = .ok (.ior, 1)) (hi : mDX (.ior) (pc + 1) a b zi zl ts l D N0 ra ro cI cC cQ d M ml st ca sl h Q) : mSo l D N0 ra ro cI cC cQ (d, M, pc, ml, st, ca, sl, h) Q := by
  obtain ⟨x, y, r, rfl, hi⟩ := mPop2_in hi
  intro p e R s m args below meth c H locs ls F V
  exact lv_ior F.1 F.2.1 hd (hi p e R s m args below meth c H locs ls F V)
theorem so_ishl (hd : decode (mtBytes (mTb_ M)) pc = .ok (.ishl, 1)) (hi : mDX (.ishl) (pc + 1) a b zi zl ts l D N0 ra ro cI cC cQ d M ml st ca sl h Q) : mSo l D N0 ra ro cI cC cQ (d, M, pc, ml, st, ca, sl, h) Q := by
  obtain ⟨x, y, r, rfl, hi⟩ := mPop2_in hi
  intro p e R s m args below meth c H locs ls F V
  exact lv_ishl F.1 F.2.1 hd (hi p e R s m args below meth c H locs ls F V)
theorem so_ishr (hd : decode (mtBytes (mTb_ M)) pc = .ok (.ishr, 1)) (hi : mDX (.ishr) (pc + 1) a b zi zl ts l D N0 ra ro cI cC cQ d M ml st ca sl h Q) : mSo l D N0 ra ro cI cC cQ (d, M, pc, ml, st, ca, sl, h) Q := by
  obtain ⟨x, y, r, rfl, hi⟩ := mPop2_in hi
  intro p e R s m args below meth c H locs ls F V
  exact lv_ishr F.1 F.2.1 hd (hi p e R s m args below meth c H locs ls F V)
theorem so_idiv (hd : decode (mtBytes (mTb_ M)) pc = .ok (.idiv, 1)) (hi : mDX (.idiv) (pc + 1) a b zi zl ts l D N0 ra ro cI cC cQ d M ml st ca sl h Q) : mSo l D N0 ra ro cI cC cQ (d, M, pc, ml, st, ca, sl, h) Q := by
  obtain ⟨x, y, r, rfl, hz, hi⟩ := mPop2_in hi
  intro p e R s m args below meth c H locs ls F V
  exact lv_idiv F.1 F.2.1 hd (of_decide_eq_true hz) (hi p e R s m args below meth c H locs ls F V)
theorem so_irem (hd : decode (mtBytes (mTb_ M)) pc = .ok (.irem, 1)) (hi : mDX (.irem) (pc + 1) a b zi zl ts l D N0 ra ro cI cC cQ d M ml st ca sl h Q) : mSo l D N0 ra ro cI cC cQ (d, M, pc, ml, st, ca, sl, h) Q := by
  obtain ⟨x, y, r, rfl, hz, hi⟩ := mPop2_in hi
  intro p e R s m args below meth c H locs ls F V
  exact lv_irem F.1 F.2.1 hd (of_decide_eq_true hz) (hi p e R s m args below meth c H locs ls F V)
theorem so_ineg (hd : decode (mtBytes (mTb_ M)) pc = .ok (.ineg, 1)) (hi : mDX (.ineg) (pc + 1) a b zi zl ts l D N0 ra ro cI cC cQ d M ml st ca sl h Q) : mSo l D N0 ra ro cI cC cQ (d, M, pc, ml, st, ca, sl, h) Q := by
  obtain ⟨x, r, rfl, hi⟩ := mPop1_in hi
  intro p e R s m args below meth c H locs ls F V
  exact lv_ineg F.1 F.2.1 hd (hi p e R s m args below meth c H locs ls F V)
theorem so_i2c (hd : decode (mtBytes (mTb_ M)) pc = .ok (.i2c, 1)) (hi : mDX (.i2c) (pc + 1) a b zi zl ts l D N0 ra ro cI cC cQ d M ml st ca sl h Q) : mSo l D N0 ra ro cI cC cQ (d, M, pc, ml, st, ca, sl, h) Q := by
  obtain ⟨x, r, rfl, hi⟩ := mPop1_in hi
  intro p e R s m args below meth c H locs ls F V
  exact lv_i2c F.1 F.2.1 hd rfl (hi p e R s m args below meth c H locs ls F V)
theorem so_i2l (hd : decode (mtBytes (mTb_ M)) pc = .ok (.i2l, 1)) (hi : mDX (.i2l) (pc + 1) a b zi zl ts l D N0 ra ro cI cC cQ d M ml st ca sl h Q) : mSo l D N0 ra ro cI cC cQ (d, M, pc, ml, st, ca, sl, h) Q := by
  obtain ⟨x, r, rfl, hi⟩ := mPop1_in hi
  intro p e R s m args below meth c H locs ls F V
  exact lv_i2l F.1 F.2.1 hd rfl (hi p e R s m args below meth c H locs ls F V)
theorem so_l2i (hd : decode (mtBytes (mTb_ M)) pc = .ok (.l2i, 1)) (hi : mDX (.l2i) (pc + 1) a b zi zl ts l D N0 ra ro cI cC cQ d M ml st ca sl h Q) : mSo l D N0 ra ro cI cC cQ (d, M, pc, ml, st, ca, sl, h) Q := by
  obtain ⟨x, r, rfl, hi⟩ := mPopL1_in hi
  intro p e R s m args below meth c H locs ls F V
  exact lv_l2i F.1 F.2.1 hd rfl (hi p e R s m args below meth c H locs ls F V)
theorem so_ladd (hd : decode (mtBytes (mTb_ M)) pc = .ok (.ladd, 1)) (hi : mDX (.ladd) (pc + 1) a b zi zl ts l D N0 ra ro cI cC cQ d M ml st ca sl h Q) : mSo l D N0 ra ro cI cC cQ (d, M, pc, ml, st, ca, sl, h) Q := by
  obtain ⟨x, y, r, rfl, hi⟩ := mPopL2_in hi
  intro p e R s m args below meth c H locs ls F V
  exact lv_ladd F.1 F.2.1 hd (hi p e R s m args below meth c H locs ls F V)
theorem so_lmul (hd : decode (mtBytes (mTb_ M)) pc = .ok (.lmul, 1)) (hi : mDX (.lmul) (pc + 1) a b zi zl ts l D N0 ra ro cI cC cQ d M ml st ca sl h Q) : mSo l D N0 ra ro cI cC cQ (d, M, pc, ml, st, ca, sl, h) Q := by
  obtain ⟨x, y, r, rfl, hi⟩ := mPopL2_in hi
  intro p e R s m args below meth c H locs ls F V
  exact lv_lmul F.1 F.2.1 hd (hi p e R s m args below meth c H locs ls F V)
theorem so_ldiv (hd : decode (mtBytes (mTb_ M)) pc = .ok (.ldiv, 1)) (hi : mDX (.ldiv) (pc + 1) a b zi zl ts l D N0 ra ro cI cC cQ d M ml st ca sl h Q) : mSo l D N0 ra ro cI cC cQ (d, M, pc, ml, st, ca, sl, h) Q := by
  obtain ⟨x, y, r, rfl, hz, hi⟩ := mPopL2_in hi
  intro p e R s m args below meth c H locs ls F V
  exact lv_ldiv F.1 F.2.1 hd (of_decide_eq_true hz) (hi p e R s m args below meth c H locs ls F V)
theorem so_lrem (hd : decode (mtBytes (mTb_ M)) pc = .ok (.lrem, 1)) (hi : mDX (.lrem) (pc + 1) a b zi zl ts l D N0 ra ro cI cC cQ d M ml st ca sl h Q) : mSo l D N0 ra ro cI cC cQ (d, M, pc, ml, st, ca, sl, h) Q := by
  obtain ⟨x, y, r, rfl, hz, hi⟩ := mPopL2_in hi
  intro p e R s m args below meth c H locs ls F V
  exact lv_lrem F.1 F.2.1 hd (of_decide_eq_true hz) (hi p e R s m args below meth c H locs ls F V)
theorem so_lcmp (hd : decode (mtBytes (mTb_ M)) pc = .ok (.lcmp, 1)) (hi : mDX (.lcmp) (pc + 1) a b zi zl ts l D N0 ra ro cI cC cQ d M ml st ca sl h Q) : mSo l D N0 ra ro cI cC cQ (d, M, pc, ml, st, ca, sl, h) Q := by
  obtain ⟨x, y, r, rfl, hi⟩ := mPopL2_in hi
  intro p e R s m args below meth c H locs ls F V
  exact W.lcmp F.1 F.2.1 hd (hi p e R s m args below meth c H locs ls F V)
theorem so_dup (hd : decode (mtBytes (mTb_ M)) pc = .ok (.dup, 1)) (hi : mDX (.dup) (pc + 1) a b zi zl ts l D N0 ra ro cI cC cQ d M ml st ca sl h Q) : mSo l D N0 ra ro cI cC cQ (d, M, pc, ml, st, ca, sl, h) Q := by
  obtain ⟨v, r, rfl, hi⟩ := mTop_in hi
  obtain ⟨hb, hi⟩ := mIf_in hi
  intro p e R s m args below meth c H locs ls F V
  exact lv_dup F.1 F.2.1 hd (by rw [mCv_cat]; exact Nat.eq_of_beq_eq_true hb) (hi p e R s m args below meth c H locs ls F V)
theorem so_pop (hd : decode (mtBytes (mTb_ M)) pc = .ok (.pop, 1)) (hi : mDX (.pop) (pc + 1) a b zi zl ts l D N0 ra ro cI cC cQ d M ml st ca sl h Q) : mSo l D N0 ra ro cI cC cQ (d, M, pc, ml, st, ca, sl, h) Q := by
  obtain ⟨v, r, rfl, hi⟩ := mTop_in hi
  obtain ⟨hb, hi⟩ := mIf_in hi
  intro p e R s m args below meth c H locs ls F V
  exact lv_pop F.1 F.2.1 hd (by rw [mCv_cat]; exact Nat.eq_of_beq_eq_true hb) (hi p e R s m args below meth c H locs ls F V)
theorem so_pop2 (hd : decode (mtBytes (mTb_ M)) pc = .ok (.pop2, 1)) (hi : mDX (.pop2) (pc + 1) a b zi zl ts l D N0 ra ro cI cC cQ d M ml st ca sl h Q) : mSo l D N0 ra ro cI cC cQ (d, M, pc, ml, st, ca, sl, h) Q := by
  obtain ⟨v, r, rfl, hi⟩ := mTop_in hi
  obtain ⟨hb, hi⟩ := mIf_in hi
  intro p e R s m args below meth c H locs ls F V
  exact lv_pop2_2 F.1 F.2.1 hd (by rw [mCv_cat]; exact Nat.eq_of_beq_eq_true hb) (hi p e R s m args below meth c H locs ls F V)
theorem so_dup2 (hd : decode (mtBytes (mTb_ M)) pc = .ok (.dup2, 1)) (hi : mDX (.dup2) (pc + 1) a b zi zl ts l D N0 ra ro cI cC cQ d M ml st ca sl h Q) : mSo l D N0 ra ro cI cC cQ (d, M, pc, ml, st, ca, sl, h) Q := by
  obtain ⟨v, r, rfl, hi⟩ := mTop_in hi
  obtain ⟨w, q, rfl, hi⟩ := mTop_in hi
  obtain ⟨hb, hi⟩ := mIf_in hi
  have hb := (Bool.and_eq_true _ _).mp hb
  intro p e R s m args below meth c H locs ls F V
  exact lv_dup2_11 F.1 F.2.1 hd (by rw [mCv_cat]; exact Nat.eq_of_beq_eq_true hb.1) (by rw [mCv_cat]; exact Nat.eq_of_beq_eq_true hb.2) (hi p e R s m args below meth c H locs ls F V)
theorem so_goto {off : Int} (ht : (pc : Int) + off = (a : Int)) (hd : decode (mtBytes (mTb_ M)) pc = .ok (.goto off, 3)) (hi : mDX (.goto off) (pc + 3) a b zi zl ts l D N0 ra ro cI cC cQ d M ml st ca sl h Q) : mSo l D N0 ra ro cI cC cQ (d, M, pc, ml, st, ca, sl, h) Q := by
  intro p e R s m args below meth c H locs ls F V
  exact lv_goto F.1 F.2.1 hd ht (hi p e R s m args below meth c H locs ls F V)
theorem so_if_eq {off : Int} (ht : (pc : Int) + off = (a : Int)) (hd : decode (mtBytes (mTb_ M)) pc = .ok (.ifCond .eq off, 3)) (hi : mDX (.ifCond .eq off) (pc + 3) a b zi zl ts l D N0 ra ro cI cC cQ d M ml st ca sl h Q) : mSo l D N0 ra ro cI cC cQ (d, M, pc, ml, st, ca, sl, h) Q := by
  obtain ⟨x, r, rfl, hi⟩ := mPop1_in hi
  intro p e R s m args below meth c H locs ls F V
  exact lv_if_eq F.1 F.2.1 hd ht (fun q => hi.1 (decide_eq_true q) p e R s m args below meth c H locs ls F V) (fun q => hi.2 (decide_eq_false q) p e R s m args below meth c H locs ls F V)
theorem so_icmp_eq {off : Int} (ht : (pc : Int) + off = (a : Int)) (hd : decode (mtBytes (mTb_ M)) pc = .ok (.if_icmp .eq off, 3)) (hi : mDX (.if_icmp .eq off) (pc + 3) a b zi zl ts l D N0 ra ro cI cC cQ d M ml st ca sl h Q) : mSo l D N0 ra ro cI cC cQ (d, M, pc, ml, st, ca, sl, h) Q := by
  obtain ⟨x, y, r, rfl, hi⟩ := mPop2_in hi
  intro p e R s m args below meth c H locs ls F V
  exact lv_icmp_eq F.1 F.2.1 hd ht (fun q => hi.1 (decide_eq_true q) p e R s m args below meth c H locs ls F V) (fun q => hi.2 (decide_eq_false q) p e R s m args below meth c H locs ls F V)
theorem so_if_ne {off : Int} (ht : (pc : Int) + off = (a : Int)) (hd : decode (mtBytes (mTb_ M)) pc = .ok (.ifCond .ne off, 3)) (hi : mDX (.ifCond .ne off) (pc + 3) a b zi zl ts l D N0 ra ro cI cC cQ d M ml st ca sl h Q) : mSo l D N0 ra ro cI cC cQ (d, M, pc, ml, st, ca, sl, h) Q := by
  obtain ⟨x, r, rfl, hi⟩ := mPop1_in hi
  intro p e R s m args below meth c H locs ls F V
  exact lv_if_ne F.1 F.2.1 hd ht (fun q => hi.2 (decide_eq_false q) p e R s m args below meth c H locs ls F V) (fun q => hi.1 (decide_eq_true q) p e R s m args below meth c H locs ls F V)
theorem so_icmp_ne {off : Int} (ht : (pc : Int) + off = (a : Int)) (hd : decode (mtBytes (mTb_ M)) pc = .ok (.if_icmp .ne off, 3)) (hi : mDX (.if_icmp .ne off) (pc + 3) a b zi zl ts l D N0 ra ro cI cC cQ d M ml st ca sl h Q) : mSo l D N0 ra ro cI cC cQ (d, M, pc, ml, st, ca, sl, h) Q := by
  obtain ⟨x, y, r, rfl, hi⟩ := mPop2_in hi
  intro p e R s m args below meth c H locs ls F V
  exact lv_icmp_ne F.1 F.2.1 hd ht (fun q => hi.2 (decide_eq_false q) p e R s m args below meth c H locs ls F V) (fun q => hi.1 (decide_eq_true q) p e R s m args below meth c H locs ls F V)
theorem so_if_lt {off : Int} (ht : (pc : Int) + off = (a : Int)) (hd : decode (mtBytes (mTb_ M)) pc = .ok (.ifCond .lt off, 3)) (hi : mDX (.ifCond .lt off) (pc + 3) a b zi zl ts l D N0 ra ro cI cC cQ d M ml st ca sl h Q) : mSo l D N0 ra ro cI cC cQ (d, M, pc, ml, st, ca, sl, h) Q := by
  obtain ⟨x, r, rfl, hi⟩ := mPop1_in hi
  intro p e R s m args below meth c H locs ls F V
  exact lv_if_lt F.1 F.2.1 hd ht (fun q => hi.1 (decide_eq_true q) p e R s m args below meth c H locs ls F V) (fun q => hi.2 (decide_eq_false q) p e R s m args below meth c H locs ls F V)
theorem so_icmp_lt {off : Int} (ht : (pc : Int) + off = (a : Int)) (hd : decode (mtBytes (mTb_ M)) pc = .ok (.if_icmp .lt off, 3)) (hi : mDX (.if_icmp .lt off) (pc + 3) a b zi zl ts l D N0 ra ro cI cC cQ d M ml st ca sl h Q) : mSo l D N0 ra ro cI cC cQ (d, M, pc, ml, st, ca, sl, h) Q := by
  obtain ⟨x, y, r, rfl, hi⟩ := mPop2_in hi
  intro p e R s m args below meth c H locs ls F V
  exact lv_icmp_lt F.1 F.2.1 hd ht (fun q => hi.1 (decide_eq_true q) p e R s m args below meth c H locs ls F V) (fun q => hi.2 (decide_eq_false q) p e R s m args below meth c H locs ls F V)
theorem so_if_ge {off : Int} (ht : (pc : Int) + off = (a : Int)) (hd : decode (mtBytes (mTb_ M)) pc = .ok (.ifCond .ge off, 3)) (hi : mDX (.ifCond .ge off) (pc + 3) a b zi zl ts l D N0 ra ro cI cC cQ d M ml st ca sl h Q) : mSo l D N0 ra ro cI cC cQ (d, M, pc, ml, st, ca, sl, h) Q := by
  obtain ⟨x, r, rfl, hi⟩ := mPop1_in hi
  intro p e R s m args below meth c H locs ls F V
  exact lv_if_ge F.1 F.2.1 hd ht (fun q => hi.1 (decide_eq_true q) p e R s m args below meth c H locs ls F V) (fun q => hi.2 (decide_eq_false q) p e R s m args below meth c H locs ls F V)
theorem so_icmp_ge {off : Int} (ht : (pc : Int) + off = (a : Int)) (hd : decode (mtBytes (mTb_ M)) pc = .ok (.if_icmp .ge off, 3)) (hi : mDX (.if_icmp .ge off) (pc + 3) a b zi zl ts l D N0 ra ro cI cC cQ d M ml st ca sl h Q) : mSo l D N0 ra ro cI cC cQ (d, M, pc, ml, st, ca, sl, h) Q := by
  obtain ⟨x, y, r, rfl, hi⟩ := mPop2_in hi
  intro p e R s m args below meth c H locs ls F V
  exact lv_icmp_ge F.1 F.2.1 hd ht (fun q => hi.1 (decide_eq_true q) p e R s m args below meth c H locs ls F V) (fun q => hi.2 (decide_eq_false q) p e R s m args below meth c H locs ls F V)
theorem so_if_gt {off : Int} (ht : (pc : Int) + off = (a : Int)) (hd : decode (mtBytes (mTb_ M)) pc = .ok (.ifCond .gt off, 3)) (hi : mDX (.ifCond .gt off) (pc + 3) a b zi zl ts l D N0 ra ro cI cC cQ d M ml st ca sl h Q) : mSo l D N0 ra ro cI cC cQ (d, M, pc, ml, st, ca, sl, h) Q := by
  obtain ⟨x, r, rfl, hi⟩ := mPop1_in hi
  intro p e R s m args below meth c H locs ls F V
  exact lv_if_gt F.1 F.2.1 hd ht (fun q => hi.1 (decide_eq_true q) p e R s m args below meth c H locs ls F V) (fun q => hi.2 (decide_eq_false q) p e R s m args below meth c H locs ls F V)
theorem so_icmp_gt {off : Int} (ht : (pc : Int) + off = (a : Int)) (hd : decode (mtBytes (mTb_ M)) pc = .ok (.if_icmp .gt off, 3)) (hi : mDX (.if_icmp .gt off) (pc + 3) a b zi zl ts l D N0 ra ro cI cC cQ d M ml st ca sl h Q) : mSo l D N0 ra ro cI cC cQ (d, M, pc, ml, st, ca, sl, h) Q := by
  obtain ⟨x, y, r, rfl, hi⟩ := mPop2_in hi
  intro p e R s m args below meth c H locs ls F V
  exact lv_icmp_gt F.1 F.2.1 hd ht (fun q => hi.1 (decide_eq_true q) p e R s m args below meth c H locs ls F V) (fun q => hi.2 (decide_eq_false q) p e R s m args below meth c H locs ls F V)
theorem so_if_le {off : Int} (ht : (pc : Int) + off = (a : Int)) (hd : decode (mtBytes (mTb_ M)) pc = .ok (.ifCond .le off, 3)) (hi : mDX (.ifCond .le off) (pc + 3) a b zi zl ts l D N0 ra ro cI cC cQ d M ml st ca sl h Q) : mSo l D N0 ra ro cI cC cQ (d, M, pc, ml, st, ca, sl, h) Q := by
  obtain ⟨x, r, rfl, hi⟩ := mPop1_in hi
  intro p e R s m args below meth c H locs ls F V
  exact lv_if_le F.1 F.2.1 hd ht (fun q => hi.1 (decide_eq_true q) p e R s m args below meth c H locs ls F V) (fun q => hi.2 (decide_eq_false q) p e R s m args below meth c H locs ls F V)
theorem so_icmp_le {off : Int} (ht : (pc : Int) + off = (a : Int)) (hd : decode (mtBytes (mTb_ M)) pc = .ok (.if_icmp .le off, 3)) (hi : mDX (.if_icmp .le off) (pc + 3) a b zi zl ts l D N0 ra ro cI cC cQ d M ml st ca sl h Q) : mSo l D N0 ra ro cI cC cQ (d, M, pc, ml, st, ca, sl, h) Q := by
  obtain ⟨x, y, r, rfl, hi⟩ := mPop2_in hi
  intro p e R s m args below meth c H locs ls F V
  exact lv_icmp_le F.1 F.2.1 hd ht (fun q => hi.1 (decide_eq_true q) p e R s m args below meth c H locs ls F V) (fun q => hi.2 (decide_eq_false q) p e R s m args below meth c H locs ls F V)
end SO
