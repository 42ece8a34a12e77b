/-! Calls and ends; the small machine is sound. -/
section SC
variable {l : Launch} {D : va_G} {N0 : Nat} {ra : Nat → Nat} {ro : Nat → Nat × (Nat → Int32)} {cI cC cQ : ClassId} {d M pc nx a b ca sl : Nat} {zi : Int32} {zl : Int64} {ts : List Nat} {ml : List (Option Value)} {st : List Value} {h : mHp} {Q : mPo}
/-- a method's start -/
def mPC (D : va_G) (N0 : Nat) (ra : Nat → Nat) (ro : Nat → Nat × (Nat → Int32)) (cI cC cQ : ClassId) (av : List Value) (h : mHp) : Array Value → State → Prop := fun v U => v = (av.map (mCv N0 ra)).toArray ∧ mKX D N0 ra ro cI cC cQ U ∧ va_P D mCl (mWs N0 ra cI cC cQ h) U.heap ∧ U.heap.size = N0 + h.1.length
theorem mPC_blind {av : List Value} : FrameBlind (mPC D N0 ra ro cI cC cQ av h) := fun a U g mk ⟨h1, h2, h3, h4⟩ => ⟨h1, h2.go (U := U.calling g mk a) (State.WarmedH.refl U) (Nat.le_refl _) (fun _ _ _ => rfl), h3, h4⟩
theorem mMet {y : Nat} {av : List Value} (hso : mSo l D N0 ra ro cI cC cQ (d, y, 0, mPad (mArg av) (mtMax (mTb_ y)), [], 0, 0, h) Q) (hpl : Jvm.plainName (mtName (mTb_ y)).cls = true) (hk : mtKind (mTb_ y) = 1 → (mtName (mTb_ y)).name = "<init>") (hfit : (mArg av).length ≤ mtMax (mTb_ y)) :
    Met l (mtName (mTb_ y)) [.code (mtName (mTb_ y)) (mtBytes (mTb_ y)) (mtMax (mTb_ y)) (mtRet (mTb_ y))] ({ frames := d, cells := (mtBud (mTb_ y)).1, slots := (mtBud (mTb_ y)).2, locals := 34 * d }) (mPC D N0 ra ro cI cC cQ av h) (mQC D N0 ra cI cC cQ Q) (mtBud (mTb_ y)).1 (mtBud (mTb_ y)).2 (mA N0) := by
  refine Met.ofW (cc := mtBytes (mTb_ y)) (maxL := mtMax (mTb_ y)) (ret := mtRet (mTb_ y)) hpl rfl ?_
  intro p e s m args below meth c s₁ B hml hv
  obtain ⟨rfl, K, hP, hsz⟩ := hv
  rw [lg_entry_eq]
  exact hso p e _ s m _ below meth c s.heap [] _ ⟨B.exec, B.bytes, hml, findClass_of_methodNamed B.named, B.returns, B.notSynchronized, fun g => ((name_of_methodNamed B.named B.method).1).trans (hk g), K, Nat.le_refl _, Nat.le_refl _, Nat.le_refl _, Nat.le_refl _⟩ ⟨hP, hsz, va_S.rf, mLV.entry hfit, Nat.zero_le _, Nat.zero_le _⟩
/-- behind a call -/
theorem mBack {p : Program} {e : Env} {R : Room} {s : State} {m : MethodId} {args : Array Value} {below : List Frame} {meth : Method} {c : Code} {H : Heap} {locs : List Loc} {ls : Array Slot} {st0 rest : List Value} {mc ms : Nat} {Q2 : mPo} {av : Array Value} {Zq : State → Prop} (F : mFx D N0 ra ro cI cC cQ p R s m meth c d M) (V : mVr D N0 ra cI cC cQ s H locs ls M ml ca sl h) (hca : ca + mc ≤ (mtBud (mTb_ M)).1) (hsl : sl + ms ≤ (mtBud (mTb_ M)).2)
    (hr : va_Run p l e R s m args below meth c H locs ca sl mc ms (F0 m pc ls st0) rest (mQC D N0 ra cI cC cQ Q2 av) (mA N0))
    (kk : ∀ (r : Option Value) (h' : mHp) (H1 : Heap) (locs1 : List Loc), Q2 r h' → mVr D N0 ra cI cC cQ s H1 locs1 ls M ml (ca + mc) (sl + ms) h' → W p l e R s m args below meth c H1 locs1 (ca + mc) (sl + ms) Zq (F0 m (pc + 3) ls ((r.map (mCv N0 ra)).toList ++ rest))) : W p l e R s m args below meth c H locs ca sl Zq (F0 m pc ls st0) := by
  intro T hT X
  obtain ⟨v, st₀, t, T', L, h0, X', hL, e1, e2, ⟨r, h', hv, hq, ⟨hP, hsz⟩, hz, hk⟩, st⟩ := hr T hT X
  cases hv
  rw [h0] at hz hk
  obtain ⟨t2, a1, b1⟩ := kk r h' T'.heap (locs ++ L) hq ⟨by rw [e1]; exact hP, by rw [e1]; exact hsz, ⟨by rw [e1]; exact Nat.le_trans V.2.2.1.1 hz, fun x g1 g2 => by rw [e1, hk x (Nat.lt_of_lt_of_le g1 V.2.2.1.1) g2]; exact V.2.2.1.2.1 x g1 g2, fun x hx => (List.mem_append.mp hx).elim (V.2.2.1.2.2 x) (hL x)⟩, V.2.2.2.1, hca, hsl⟩ T' rfl X'
  exact ⟨t2, st t2 a1, b1⟩
theorem mCat_eq : ∀ l : List Value, mCat l = (l.map fun v => v.category).sum
  | [] => rfl
  | v :: r => by
    show v.category + mCat r = _
    rw [mCat_eq r]
    rfl
theorem mCat_cv (l : List Value) : ((l.map (mCv N0 ra)).map fun v => v.category).sum = mCat l := by
  rw [mCat_eq]
  congr 1
  induction l with
  | nil => rfl
  | cons v r ih => rw [List.map_cons, List.map_cons, List.map_cons, ih, mCv_cat]
theorem mFits_in (hf : mFits mTb_ a b d M st ca sl = true) : 1 ≤ d ∧ b ≤ st.length ∧ mCat (st.drop b) ≤ 8 ∧ ca + (mtBud (mTb_ a)).1 ≤ (mtBud (mTb_ M)).1 ∧ sl + (mtBud (mTb_ a)).2 ≤ (mtBud (mTb_ M)).2 := by
  unfold mFits at hf
  simp only [Bool.and_eq_true] at hf
  exact ⟨Nat.le_of_ble_eq_true hf.1, Nat.le_of_ble_eq_true hf.2.1, Nat.le_of_ble_eq_true hf.2.2.1, Nat.le_of_ble_eq_true hf.2.2.2.1, Nat.le_of_ble_eq_true hf.2.2.2.2⟩
theorem mMk_in {own : String} {idx : Nat} {y : MethodName} {ts : List Nat} (h : mMk own idx y ts = true) : (Jvm.Cond.methodLink own idx y ∈ mTs) ∨ (Jvm.Cond.methodLinkNest own idx y "PoleRecords" ∈ mTs) := by
  unfold mMk at h
  split at h
  · exact Or.inl (mW_mem h)
  · exact Or.inr (mW_mem h)
  · cases h
/-- what the tables say of a method that is called -/
def mCallee (y : Nat) : Prop := (Jvm.Cond.code (mtName (mTb_ y)) (mtBytes (mTb_ y)) (mtMax (mTb_ y)) (mtRet (mTb_ y)) ∈ mTs) ∧ (Jvm.Cond.initialized (mtName (mTb_ y)).cls ∈ mTs) ∧ (mtKind (mTb_ y) = 0 → Jvm.Cond.instanceMethod (mtName (mTb_ y)) ∈ mTs ∧ Jvm.Cond.selects (mtName (mTb_ y)).cls (mtName (mTb_ y)) (mtName (mTb_ y)) ∈ mTs ∧ ((∃ q, mCl[mtCls (mTb_ y)]? = some q ∧ q.1 = (mtName (mTb_ y)).cls) ∨ (mtCls (mTb_ y) = 30 ∧ (mtName (mTb_ y)).cls = "java/lang/String"))) ∧ (mtKind (mTb_ y) = 1 → Jvm.Cond.instanceMethod (mtName (mTb_ y)) ∈ mTs ∧ (mtName (mTb_ y)).name = "<init>" ∧ mtRet (mTb_ y) = none) ∧ (mtKind (mTb_ y) = 2 → Jvm.Cond.static (mtName (mTb_ y)) ∈ mTs) ∧ mtMax (mTb_ y) ≤ 15 ∧ Jvm.plainName (mtName (mTb_ y)).cls = true ∧ (mtName (mTb_ y)).cls ≠ "java/lang/invoke/MethodHandle" ∧ (mtName (mTb_ y)).cls ≠ "java/lang/invoke/VarHandle"
theorem mCallee_of {y : Nat} (hk : mtKind (mTb_ y) ≤ 2) (h : mOkM (mTb_ y) = true) : mCallee y := by
  unfold mOkM at h
  simp only [Bool.and_eq_true, decide_eq_true_eq] at h
  obtain ⟨h1, h2, h3, h4, h5, -⟩ := h
  have h2 := Nat.le_of_ble_eq_true h2
  unfold mOkW at h1
  split at h1
  · rename_i p q r t e1 e2
    simp only [Bool.and_eq_true] at h1
    obtain ⟨g1, g2, g3, g4, g5⟩ := h1
    refine ⟨mW_mem g1, mW_mem g4, fun _ => ⟨mW_mem g2, mW_mem g3, ?_⟩, fun z => (by rw [e1] at z; cases z), fun z => (by rw [e1] at z; cases z), h2, h3, h4, h5⟩
    split at g5
    · rename_i C T N hc
      exact Or.inl ⟨_, hc, by simpa using g5⟩
    · simp only [Bool.and_eq_true, decide_eq_true_eq] at g5
      exact Or.inr ⟨Nat.eq_of_beq_eq_true g5.1, g5.2⟩
  · rename_i p q t e1 e2
    simp only [Bool.and_eq_true, decide_eq_true_eq] at h1
    obtain ⟨g1, g2, g3, g4, g5⟩ := h1
    exact ⟨mW_mem g1, mW_mem g3, fun z => (by rw [e1] at z; cases z), fun _ => ⟨mW_mem g2, g4, g5⟩, fun z => (by rw [e1] at z; cases z), h2, h3, h4, h5⟩
  · rename_i p q t e1 e2
    simp only [Bool.and_eq_true] at h1
    obtain ⟨g1, g2, g3⟩ := h1
    exact ⟨mW_mem g1, mW_mem g3, fun z => (by rw [e1] at z; cases z), fun z => (by rw [e1] at z; cases z), fun _ => mW_mem g2, h2, h3, h4, h5⟩
  · rename_i e1 e2
    rw [e1] at hk
    omega
  · rename_i e1 e2
    rw [e1] at hk
    omega
  · cases h1
theorem so_invokestatic {n : Nat} (hd : decode (mtBytes (mTb_ M)) pc = .ok (.invokestatic n, 3)) (hcal : mCallee a) (hw : mCallOk (mtName (mTb_ M)).cls n a b ts = true) (hi : mIn (mSo l D N0 ra ro cI cC cQ) (mIf (mFits mTb_ a b d M st ca sl && Nat.beq (mtKind (mTb_ a)) 2) (mGo mTb_ a d M (pc + 3) ml (st.take b).reverse (st.drop b) ca sl h)) Q) : mSo l D N0 ra ro cI cC cQ (d, M, pc, ml, st, ca, sl, h) Q := by
  obtain ⟨hb, hj⟩ := mIf_in hi
  clear hi
  have hb := (Bool.and_eq_true _ _).mp hb
  obtain ⟨f1, f2, f3, f4, f5⟩ := mFits_in hb.1
  have hk : mtKind (mTb_ a) = 2 := Nat.eq_of_beq_eq_true hb.2
  obtain ⟨hfit, hj⟩ := mIf_in hj
  have hfit := Nat.le_of_ble_eq_true hfit
  obtain ⟨c1, c2, -, -, c5, c6, c7, c8, c9⟩ := hcal
  unfold mCallOk at hw
  simp only [Bool.and_eq_true, decide_eq_true_eq] at hw
  obtain ⟨w1, w2⟩ := hw
  intro p e R s m args below meth c H locs ls F V
  have K := F.2.2.2.2.2.2.2.1
  have r0 := F.2.2.2.2.2.2.2.2
  have hM := mMet (h := h) hj c7 (fun g => by rw [hk] at g; cases g) hfit
  have hpre : PreS s H (mPC D N0 ra ro cI cC cQ (st.take b).reverse h) ((st.take b).reverse.map (mCv N0 ra)) := ⟨mPC_blind, fun U hU hW => ⟨rfl, K.go hW (by rw [hU]; exact V.2.2.1.1) (by rw [hU]; exact V.2.2.1.2.1), by rw [hU]; exact V.1, by rw [hU]; exact V.2.1⟩⟩
  have hsplit : st.map (mCv N0 ra) = ((st.take b).reverse.map (mCv N0 ra)).reverse ++ (st.drop b).map (mCv N0 ra) := by
    rw [← List.map_reverse, List.reverse_reverse, ← List.map_append, List.take_append_drop]
  have hlen : ((st.take b).reverse.map (mCv N0 ra)).length = b := by simp; omega
  have hgood : GoodIn mTs [Jvm.Cond.code (mtName (mTb_ a)) (mtBytes (mTb_ a)) (mtMax (mTb_ a)) (mtRet (mTb_ a))] := fun w hw => by
    cases List.mem_singleton.mp hw
    exact ⟨c1, Or.inl rfl⟩
  have hroom : (d - 1) + 1 ≤ R.frames ∧ 8 + (mtMax (mTb_ a) + 11) + 34 * (d - 1) ≤ R.locals := ⟨by omega, by omega⟩
  have kk : ∀ (r : Option Value) (h' : mHp) (H1 : Heap) (locs1 : List Loc), mSo l D N0 ra ro cI cC cQ (d, M, pc + 3, ml, r.toList ++ st.drop b, ca + (mtBud (mTb_ a)).1, sl + (mtBud (mTb_ a)).2, h') Q → mVr D N0 ra cI cC cQ s H1 locs1 ls M ml (ca + (mtBud (mTb_ a)).1) (sl + (mtBud (mTb_ a)).2) h' → W p l e R s m args below meth c H1 locs1 (ca + (mtBud (mTb_ a)).1) (sl + (mtBud (mTb_ a)).2) (MQ below (mQC D N0 ra cI cC cQ Q) args s (mtBud (mTb_ M)).1 (mtBud (mTb_ M)).2 (mA N0)) (F0 m (pc + 3) ls ((r.map (mCv N0 ra)).toList ++ (st.drop b).map (mCv N0 ra))) := by
    intro r h' H1 locs1 hq V1
    have hg := hq p e R s m args below meth c H1 locs1 ls F V1
    rw [List.map_append] at hg
    cases r with
    | none => exact hg
    | some v => exact hg
  rcases mMk_in w1 with g | g
  · refine mBack F V f4 f5 (va_runS (nL := mtMax (mTb_ M)) (Ts := mTs) ⟨F.1, F.2.1, F.2.2.1, F.2.2.2.1, mHts K⟩ hM ⟨callB_of b (mHts K) hgood rfl rfl rfl (mHts K _ c2) (mHts K _ g) ⟨c8, c9, w2⟩ hroom, mHts K _ (c5 hk)⟩ hpre rfl hlen V.2.2.2.1.1 hsplit (lv_room (by rw [mCat_cv]; exact f3)) hd ⟨by have := r0.2.2.1; omega, by have := r0.2.2.2; omega⟩) kk
  · refine mBack F V f4 f5 (va_runSN (nL := mtMax (mTb_ M)) (Ts := mTs) ⟨F.1, F.2.1, F.2.2.1, F.2.2.2.1, mHts K⟩ hM ⟨va_cnB b (mHts K) hgood rfl rfl rfl (va_Nw.of rfl (mHts (args := args) K _ g)) (mHts K _ c2) ⟨c8, c9, w2⟩ hroom, mHts K _ (c5 hk), trivial⟩ hpre rfl hlen V.2.2.2.1.1 hsplit (lv_room (by rw [mCat_cv]; exact f3)) hd ⟨by have := r0.2.2.1; omega, by have := r0.2.2.2; omega⟩) kk
end SC
