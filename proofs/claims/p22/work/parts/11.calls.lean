/-! New cells, jumps by a table, calls, ends. -/
section SN
variable {l : Launch} {D : va_G} {N0 : Nat} {ra : Nat → Nat} {ro : Nat → Nat × (Nat → Int32)} {cI cC cQ : ClassId} {d M pc nx a b ca sl : Nat} {zi : Int32} {zl : Int64} {ts : List Nat} {ml : List (Option Value)} {st : List Value} {h : mHp} {Q : mPo}
theorem mNew_row {I : Nat → Nat → Int32} {r i : Nat} (hne : i ≠ r) : mNew I r i = I i := by
  funext k
  simp [mNew, hne]
theorem mNewL_row {I : Nat → Nat → Int64} {r i : Nat} (hne : i ≠ r) : mNewL I r i = I i := by
  funext k
  simp [mNewL, hne]
theorem mEnt_old {h h' : mHp} {t : List mSC} {i : Nat} (h1 : h'.1 = h.1 ++ t) (hi : i < h.1.length) (h2 : h'.2.1 i = h.2.1 i) (h3 : h'.2.2 i = h.2.2 i) : mEnt N0 ra cI cC cQ h' i = mEnt N0 ra cI cC cQ h i := by
  unfold mEnt
  rw [h1, h2, h3, List.getD_eq_getElem?_getD, List.getElem?_append_left hi, ← List.getD_eq_getElem?_getD]
/-- one new cell -/
theorem mVr.push {s : State} {H H1 : Heap} {locs : List Loc} {ls : Array Slot} {h' : mHp} {x : mSC} {ca' sl' : Nat} (V : mVr D N0 ra cI cC cQ s H locs ls M ml ca sl h) (h1 : h'.1 = h.1 ++ [x]) (h2 : ∀ i, i ≠ h.1.length → h'.2.1 i = h.2.1 i) (h3 : ∀ i, i ≠ h.1.length → h'.2.2 i = h.2.2 i) (z1 : H1.size = H.size + 1) (o1 : ∀ q, q < H.size → H1[q]? = H[q]?) (hc : va_at D mCl (N0 + h.1.length, mEn1 N0 ra cI cC cQ x (h'.2.1 h.1.length) (h'.2.2 h.1.length)) H1) (hca : ca' ≤ (mtBud (mTb_ M)).1) (hsl : sl' ≤ (mtBud (mTb_ M)).2) : mVr D N0 ra cI cC cQ s H1 locs ls M ml ca' sl' h' := by
  obtain ⟨hP, hsz, hS, hL, -, -⟩ := V
  have hl : h'.1.length = h.1.length + 1 := by rw [h1]; simp
  refine ⟨?_, by rw [z1, hsz, hl]; omega, ⟨by have := hS.1; omega, fun x g1 g2 => (o1 x (by have := hS.1; omega)).trans (hS.2.1 x g1 g2), hS.2.2⟩, hL, hca, hsl⟩
  rw [mWs_app (h := h) (h' := h') hl (fun i hi => mEnt_old h1 hi (h2 i (by omega)) (h3 i (by omega)))]
  refine va_P.app (hP.kept (fun k x hx => o1 x.1 ((hP k x hx).lt))) (fun k y hy => ?_)
  have hk : k < 1 := by
    have := (List.getElem?_eq_some_iff.mp hy).1
    simpa using this
  rw [show k = 0 by omega] at hy
  cases hy
  have he : mEnt N0 ra cI cC cQ h' (h.1.length + 0) = mEn1 N0 ra cI cC cQ x (h'.2.1 h.1.length) (h'.2.2 h.1.length) := mEnt_at (by rw [h1, Nat.add_zero, List.getElem?_append_right (Nat.le_refl _), Nat.sub_self]; rfl)
  show va_at D mCl (N0 + (h.1.length + 0), mEnt N0 ra cI cC cQ h' (h.1.length + 0)) H1
  rw [he]
  exact hc
theorem mRange_get : ∀ (n j : Nat), (mRange n).getD j none = none
  | 0, j => by simp [mRange]
  | n + 1, 0 => rfl
  | n + 1, j + 1 => by
    show (none :: mRange n).getD (j + 1) none = none
    rw [List.getD_cons_succ]
    exact mRange_get n j
theorem so_new {n : Nat} (hd : decode (mtBytes (mTb_ M)) pc = .ok (.new n, 3)) (hw : (match mCl[a]?, ts with
        | some (C, _, N), [p, q, r] => mW p (.classLink (mtName (mTb_ M)).cls n C) && (mW q (.instantiable C N) && (mW r (.initialized C) && decide ((mFT.getD a []).length = N)))
        | _, _ => false) = true) (hi : mDX (.new n) (pc + 3) a b zi zl ts l D N0 ra ro cI cC cQ d M ml st ca sl h Q) : mSo l D N0 ra ro cI cC cQ (d, M, pc, ml, st, ca, sl, h) Q := by
  obtain ⟨hb, hj⟩ := mIf_in hi
  clear hi
  simp only [Bool.and_eq_true] at hb
  obtain ⟨b1, b2, b3, b4⟩ := hb
  have b1 : h.1.length < 900 := by simpa [Nat.blt_eq] using b1
  have b2 : a < 20 := by simpa [Nat.blt_eq] using b2
  have b3 := Nat.le_of_ble_eq_true b3
  have b4 := Nat.le_of_ble_eq_true b4
  intro p e R s m args below meth c H locs ls F V
  have K := F.2.2.2.2.2.2.2.1
  split at hw
  · rename_i C T N w1 w2 w3 hcl
    simp only [Bool.and_eq_true, decide_eq_true_eq] at hw
    obtain ⟨g1, g2, g3, g4⟩ := hw
    obtain ⟨hu, ⟨ty, hty, hkind⟩, -, -⟩ := mClOk_all a _ hcl
    have hKn := K.2.1.1 a _ hcl
    refine W.newcK F.1 F.2.1 F.2.2.2.1 (mHts K _ (mW_mem g1)) (mHts K _ (mW_mem g2)) (mHts K _ (mW_mem g3)) rfl hd (by have := F.2.2.2.2.2.2.2.2.2.2.1; omega) (by have := F.2.2.2.2.2.2.2.2.2.2.2; rw [g4] at b4; omega) hKn.2.1 rfl fun H1 kC hkC e1 z1 o1 => ?_
    have hg := hj p e R s m args below meth c H1 locs ls F (V.push (x := (a, 0, mRange (mFT.getD a []).length)) rfl (fun i hne => mNew_row hne) (fun i hne => mNewL_row hne) z1 o1 ?_ b3 b4)
    · show W p l e R s m args below meth c H1 locs (ca + 1) (sl + N) _ (F0 m (pc + 3) ls (.ref H.size :: st.map (mCv N0 ra)))
      rw [V.2.1, ← mAd_lo (N0 := N0) (ra := ra) (q := h.1.length) (by omega), ← g4]
      exact hg
    · have hb := u_born ty (mHts (args := args) K) hu hKn hkC e1 hty
      rw [V.2.1] at hb
      show va_at D mCl (N0 + h.1.length, mEn1 N0 ra cI cC cQ (a, 0, mRange (mFT.getD a []).length) _ _) H1
      rw [show mEn1 N0 ra cI cC cQ (a, 0, mRange (mFT.getD a []).length) (mNew h.2.1 h.1.length h.1.length) (mNewL h.2.2 h.1.length h.1.length) = .inr (a, mFs N0 ra a (mRange (mFT.getD a []).length) (mNew h.2.1 h.1.length h.1.length) (mNewL h.2.2 h.1.length h.1.length)) from if_pos b2]
      refine ⟨_, hcl, hb.to (fun j hjN => ?_)⟩
      have hjN : j < N := hjN
      show defaultValue (ty j) = (mFs N0 ra a _ _ _).getD j .null
      rw [List.getD_eq_getElem?_getD, mFs_get (by rw [g4]; exact hjN)]
      show _ = mFv N0 ra a _ _ _ j
      unfold mFv
      rcases hkind j hjN with ⟨k1, k2⟩ | ⟨k1, k2⟩ | ⟨k1, ⟨z, k2⟩ | ⟨z, k2⟩⟩
      · rw [k1, k2]
        show Value.int 0 = .int _
        simp [mNew]
      · rw [k1, k2]
        show Value.long 0 = .long _
        simp [mNewL]
      · rw [k1, k2]
        show Value.null = va_rf _
        rw [mRange_get]
        rfl
      · rw [k1, k2]
        show Value.null = va_rf _
        rw [mRange_get]
        rfl
  · cases hw
theorem so_newarray {t : ArrayType} (hw : (match t with
        | .int => Nat.beq a 20 && mW1 ts (.arrayClass .int)
        | .char => Nat.beq a 21 && mW1 ts (.arrayClass .char)
        | _ => false) = true) (hd : decode (mtBytes (mTb_ M)) pc = .ok (.newarray t, 2)) (hi : mDX (.newarray t) (pc + 2) a b zi zl ts l D N0 ra ro cI cC cQ d M ml st ca sl h Q) : mSo l D N0 ra ro cI cC cQ (d, M, pc, ml, st, ca, sl, h) Q := by
  obtain ⟨n, r, rfl, hj⟩ := mPop1_in hi
  clear hi
  obtain ⟨hb, hnn, hj⟩ := mIf_in hj
  obtain ⟨hn, hn1, hn2⟩ := of_decide_eq_true hnn
  simp only [Bool.and_eq_true] at hb
  obtain ⟨b1, b3⟩ := hb
  have b1 : h.1.length < 900 := by simpa [Nat.blt_eq] using b1
  have b3 := Nat.le_of_ble_eq_true b3
  intro p e R s m args below meth c H locs ls F V
  have K := F.2.2.2.2.2.2.2.1
  have r1 := F.2.2.2.2.2.2.2.2.2.2.1
  have r2 := F.2.2.2.2.2.2.2.2.2.2.2
  show W p l e R s m args below meth c H locs ca sl _ (F0 m pc ls (.int n :: r.map (mCv N0 ra)))
  cases t with
  | int =>
    have hw := (Bool.and_eq_true _ _).mp hw
    have ha : a = 20 := Nat.eq_of_beq_eq_true hw.1
    subst ha
    refine va_newaK F.1 F.2.1 (atype := .int) (mHts K _ (mW1_in hw.2)) rfl hd rfl hn rfl (by show _ * 4 ≤ _; omega) (by omega) (by omega) V.2.1 fun H1 cA e1 z1 o1 hAr hNm => ?_
    have hcA : cA = cI := by
      have h2 : s.vm.findClass ("[" ++ FieldType.int.toString) = some cI := (K.2.1.2 0 _ rfl).2
      exact Option.some.inj (hNm.symm.trans h2)
    subst hcA
    have hg := hj p e R s m args below meth c H1 locs ls F (V.push (x := (20, n.toNatClampNeg, [])) rfl (fun i hne => mNew_row hne) (fun i _ => rfl) (by rw [z1, V.2.1]) (fun q hq => o1 q (by rw [← V.2.1]; exact hq)) ?_ b3 hn2)
    · show W p l e R s m args below meth c H1 locs (ca + 1) (sl + n.toNatClampNeg) _ (F0 m (pc + 2) ls (.ref (N0 + h.1.length) :: r.map (mCv N0 ra)))
      rw [← mAd_lo (N0 := N0) (ra := ra) (q := h.1.length) (by omega)]
      exact hg
    · show H1[N0 + h.1.length]? = some (vp_cell _ _)
      rw [e1, vp_cell_i]
      congr 2
      funext j
      show Value.int 0 = .int (mNew h.2.1 h.1.length h.1.length j)
      simp [mNew]
  | char =>
    have hw := (Bool.and_eq_true _ _).mp hw
    have ha : a = 21 := Nat.eq_of_beq_eq_true hw.1
    subst ha
    refine va_newaK F.1 F.2.1 (atype := .char) (mHts K _ (mW1_in hw.2)) rfl hd rfl hn rfl (by show _ * 2 ≤ _; omega) (by omega) (by omega) V.2.1 fun H1 cA e1 z1 o1 hAr hNm => ?_
    have hcA : cA = cC := by
      have h2 : s.vm.findClass ("[" ++ FieldType.char.toString) = some cC := (K.2.1.2 1 _ rfl).2
      exact Option.some.inj (hNm.symm.trans h2)
    subst hcA
    have hg := hj p e R s m args below meth c H1 locs ls F (V.push (x := (21, n.toNatClampNeg, [])) rfl (fun i hne => mNew_row hne) (fun i _ => rfl) (by rw [z1, V.2.1]) (fun q hq => o1 q (by rw [← V.2.1]; exact hq)) ?_ b3 hn2)
    · show W p l e R s m args below meth c H1 locs (ca + 1) (sl + n.toNatClampNeg) _ (F0 m (pc + 2) ls (.ref (N0 + h.1.length) :: r.map (mCv N0 ra)))
      rw [← mAd_lo (N0 := N0) (ra := ra) (q := h.1.length) (by omega)]
      exact hg
    · show H1[N0 + h.1.length]? = some (vp_cell _ _)
      rw [e1, vp_cell_i]
      congr 2
      funext j
      show Value.int 0 = .int (mNew h.2.1 h.1.length h.1.length j)
      simp [mNew]
  | _ => cases hw
theorem mIota_get : ∀ (n q j : Nat), (mIota q n).getD j none = if j < n then some (q + j) else none
  | 0, q, j => by simp [mIota]
  | n + 1, q, 0 => by simp [mIota]
  | n + 1, q, j + 1 => by
    show (some q :: mIota (q + 1) n).getD (j + 1) none = _
    rw [List.getD_cons_succ, mIota_get n (q + 1) j]
    by_cases g : j < n
    · rw [if_pos g, if_pos (by omega)]
      congr 1
      omega
    · rw [if_neg g, if_neg (by omega)]
theorem mOuter (c : ClassId) (N h0 : Nat) : ∀ i : Nat, Jvm.Free.Multi.outerC c N h0 i = arrV c N (fun j => va_rf (if j < i then some (h0 + 1 + j) else none))
  | 0 => by
    show ({ cls := c, slots := Array.replicate N .null, vm := .none } : Cell) = _
    rw [arrV_new]
    refine congrArg (arrV c N) (funext fun j => ?_)
    simp [va_rf]
  | i + 1 => by
    show (Jvm.Free.Multi.outerC c N h0 i).setSlot i (.ref (h0 + 1 + i)) = _
    rw [mOuter c N h0 i, arrV_store]
    refine congrArg (arrV c N) (funext fun j => ?_)
    by_cases e : j = i
    · subst e
      simp [updV, va_rf]
    · by_cases h : j < i
      · simp [updV, e, h, Nat.lt_succ_of_lt h]
      · simp [updV, e, h, show ¬ j < i + 1 by omega]
theorem so_mna {n k : Nat} (hd : decode (mtBytes (mTb_ M)) pc = .ok (.multianewarray n k, 4)) (hw : (Nat.beq k 2 && (match ts with
        | [p, q, r] => mW p (.classLink (mtName (mTb_ M)).cls n "[[I") && (mW q (.arrayOver (.array .int)) && mW r (.arrayClass .int))
        | _ => false)) = true) (hi : mDX (.multianewarray n k) (pc + 4) a b zi zl ts l D N0 ra ro cI cC cQ d M ml st ca sl h Q) : mSo l D N0 ra ro cI cC cQ (d, M, pc, ml, st, ca, sl, h) Q := by
  obtain ⟨n1, k1, r, rfl, hj⟩ := mPop2_in hi
  clear hi
  obtain ⟨b1, hnn, hj⟩ := mIf_in hj
  obtain ⟨hn, hk, hn1, hk1, hca, hsl⟩ := of_decide_eq_true hnn
  have b1 : h.1.length < 900 := by simpa [Nat.blt_eq] using b1
  have hw := (Bool.and_eq_true _ _).mp hw
  have hk2 : k = 2 := Nat.eq_of_beq_eq_true hw.1
  subst hk2
  have hw := hw.2
  intro p e R s m args below meth c H locs ls F V
  have K := F.2.2.2.2.2.2.2.1
  have r1 := F.2.2.2.2.2.2.2.2.2.2.1
  have r2 := F.2.2.2.2.2.2.2.2.2.2.2
  split at hw
  · simp only [Bool.and_eq_true] at hw
    obtain ⟨w1, w2, w3⟩ := hw
    intro T hT Xs
    have hcl : (Jvm.Cond.classLink (mtName (mTb_ M)).cls n ("[" ++ (FieldType.array .int).toString)).before args s = true := mHts K _ (mW_mem w1)
    obtain ⟨vm₁, cA, comp, -, fA, fC, hO, -, X', step⟩ := Jvm.Stand.multianewarray2F Xs F.1 F.2.2.2.1 hcl (mHts K _ (mW_mem w2)) (mHts K _ (mW_mem w3)) (g := F0 m pc ls (.int k1 :: .int n1 :: r.map (mCv N0 ra))) rfl (by rw [F.2.1]; exact hd) rfl hn hk (by omega) (by show _ * 4 ≤ _; omega) (by omega) rfl rfl (by omega) (by omega)
    have hcI : comp = cI := by
      have h2 : s.vm.findClass (FieldType.array .int).toString = some cI := (K.2.1.2 0 _ rfl).2
      exact Option.some.inj (fC.symm.trans h2)
    have hcQ : cA = cQ := by
      have h2 : s.vm.findClass ("[" ++ (FieldType.array .int).toString) = some cQ := (K.2.1.2 2 _ rfl).2
      exact Option.some.inj (fA.symm.trans h2)
    subst hcI
    subst hcQ
    generalize hF : Jvm.Free.Multi.fill (T.setVm vm₁) cA comp n1.toNatClampNeg k1.toNatClampNeg (defaultValue .int) n1.toNatClampNeg = G at X' step
    have hTh : (T.setVm vm₁).heap = H := hT
    obtain ⟨f1, f2, -, -⟩ := Jvm.Free.Multi.fill_facts (T.setVm vm₁) cA comp n1.toNatClampNeg k1.toNatClampNeg (defaultValue .int) n1.toNatClampNeg
    rw [hF, hTh] at f1 f2
    have hold : ∀ x : Nat, x < H.size → G.heap[x]? = H[x]? := fun x hx => by
      have := Jvm.Free.Multi.fill_old (T.setVm vm₁) cA comp n1.toNatClampNeg k1.toNatClampNeg (defaultValue .int) (a := x) (by rw [hTh]; exact hx) n1.toNatClampNeg
      rw [hF, hTh] at this
      exact this
    have hrow : ∀ j : Nat, j < n1.toNatClampNeg → G.heap[H.size + 1 + j]? = some (Jvm.Free.Multi.innerC comp k1.toNatClampNeg (defaultValue .int)) := fun j hj => by
      have := Jvm.Free.Multi.fill_inner (T.setVm vm₁) cA comp n1.toNatClampNeg k1.toNatClampNeg (defaultValue .int) n1.toNatClampNeg j hj
      rw [hF, hTh] at this
      exact this
    rw [mOuter] at f2
    generalize hN : n1.toNatClampNeg = N' at *
    generalize hK : k1.toNatClampNeg = K' at *
    obtain ⟨hP, hsz, hS, hL, -, -⟩ := V
    have hlen : (h.1 ++ (22, N', mIota (h.1.length + 1) N') :: List.replicate N' (20, K', [])).length = h.1.length + (1 + N') := by simp; omega
    have hV : mVr D N0 ra comp cC cA s G.heap locs ls M ml (ca + 1 + N') (sl + N' + N' * K') (h.1 ++ (22, N', mIota (h.1.length + 1) N') :: List.replicate N' (20, K', []), mNewN h.2.1 h.1.length N', h.2.2) := by
      refine ⟨?_, by rw [f1, hsz, hlen]; omega, ⟨by have := hS.1; omega, fun x g1 g2 => (hold x (by have := hS.1; omega)).trans (hS.2.1 x g1 g2), hS.2.2⟩, hL, by omega, by omega⟩
      rw [mWs_app (h := h) (h' := (h.1 ++ (22, N', mIota (h.1.length + 1) N') :: List.replicate N' (20, K', []), mNewN h.2.1 h.1.length N', h.2.2)) (n := 1 + N') hlen (fun i hi => mEnt_old (h' := (h.1 ++ (22, N', mIota (h.1.length + 1) N') :: List.replicate N' (20, K', []), mNewN h.2.1 h.1.length N', h.2.2)) rfl hi (by funext j; show mNewN h.2.1 h.1.length N' i j = _; unfold mNewN; rw [if_neg (by omega)]) rfl)]
      refine va_P.app (hP.kept (fun k x hx => hold x.1 ((hP k x hx).lt))) (fun i y hy => ?_)
      have hi : i < 1 + N' := by
        have := (List.getElem?_eq_some_iff.mp hy).1
        simpa using this
      rw [List.getElem?_map, List.getElem?_range hi] at hy
      cases hy
      cases i with
      | zero =>
        have he := mEnt_at (N0 := N0) (ra := ra) (cI := comp) (cC := cC) (cQ := cA) (h := (h.1 ++ (22, N', mIota (h.1.length + 1) N') :: List.replicate N' (20, K', []), mNewN h.2.1 h.1.length N', h.2.2)) (q := h.1.length + 0) (c := (22, N', mIota (h.1.length + 1) N')) (by show (h.1 ++ _)[h.1.length]? = _; rw [List.getElem?_append_right (Nat.le_refl _), Nat.sub_self]; rfl)
        show va_at D mCl (N0 + (h.1.length + 0), mEnt N0 ra comp cC cA (h.1 ++ (22, N', mIota (h.1.length + 1) N') :: List.replicate N' (20, K', []), mNewN h.2.1 h.1.length N', h.2.2) (h.1.length + 0)) G.heap
        rw [he]
        show G.heap[N0 + (h.1.length + 0)]? = some (vp_cell _ _)
        rw [Nat.add_zero, ← hsz, f2, vp_cell_q]
        congr 2
        funext j
        show va_rf _ = va_rf (((mIota (h.1.length + 1) N').getD j none).map (mAd N0 ra))
        rw [mIota_get]
        by_cases g : j < N'
        · rw [if_pos g, if_pos g]
          show va_rf _ = va_rf (some (mAd N0 ra (h.1.length + 1 + j)))
          rw [mAd_lo (by omega), hsz]
          congr 2
          omega
        · rw [if_neg g, if_neg g]
          rfl
      | succ i =>
        have he := mEnt_at (N0 := N0) (ra := ra) (cI := comp) (cC := cC) (cQ := cA) (h := (h.1 ++ (22, N', mIota (h.1.length + 1) N') :: List.replicate N' (20, K', []), mNewN h.2.1 h.1.length N', h.2.2)) (q := h.1.length + (i + 1)) (c := (20, K', [])) (by show (h.1 ++ _)[h.1.length + (i + 1)]? = _; rw [List.getElem?_append_right (by omega), Nat.add_sub_cancel_left, List.getElem?_cons_succ, List.getElem?_replicate, if_pos (by omega)])
        show va_at D mCl (N0 + (h.1.length + (i + 1)), mEnt N0 ra comp cC cA (h.1 ++ (22, N', mIota (h.1.length + 1) N') :: List.replicate N' (20, K', []), mNewN h.2.1 h.1.length N', h.2.2) (h.1.length + (i + 1))) G.heap
        rw [he]
        show G.heap[N0 + (h.1.length + (i + 1))]? = some (vp_cell _ _)
        rw [show N0 + (h.1.length + (i + 1)) = H.size + 1 + i by omega, hrow i (by omega), vp_cell_i]
        show some ({ cls := comp, slots := Array.replicate K' (.int 0), vm := .none } : Cell) = _
        rw [arrV_new]
        congr 2
        funext j
        show Value.int 0 = .int (mNewN h.2.1 h.1.length N' (h.1.length + (i + 1)) j)
        unfold mNewN
        rw [if_pos (by omega)]
    obtain ⟨t, a1, b1⟩ := hj p e R s m args below meth c G.heap locs ls F hV G rfl X'
    refine ⟨t, step t ?_, b1⟩
    have e9 : T.heap.size = N0 + h.1.length := by rw [hT, hsz]
    rw [e9, ← mAd_lo (N0 := N0) (ra := ra) (q := h.1.length) (by omega)]
    exact a1
  · cases hw
theorem mAll_at {X : mSt → mPo → Prop} {x : Int32} {f : Nat → mSt} : ∀ (ts : List Nat) (k : Int) (j t : Nat), mAll X Q (mTb x f k ts) → ts[j]? = some t → x.toInt = k + j → X (f t) Q
  | [], k, j, t, _, h, _ => by simp at h
  | u :: ts, k, 0, t, g, h, e => by
    cases h
    exact g.1 (decide_eq_true (by simpa using e))
  | u :: ts, k, j + 1, t, g, h, e => mAll_at ts (k + 1) j t g.2 h (by push_cast at e; omega)
theorem so_tsw {df lo hi' : Int} {offs : Array Int} {len : Nat} (hd : decode (mtBytes (mTb_ M)) pc = .ok (.tableswitch df lo hi' offs, len)) (hw : (decide ((pc : Int) + df = (a : Int)) && (decide (offs.toList.map (fun o => (pc : Int) + o) = ts.map (fun (t : Nat) => (t : Int))) && decide (hi' = lo + (ts.length : Int) - 1))) = true) (hi : mDX (.tableswitch df lo hi' offs) nx a b zi zl ts l D N0 ra ro cI cC cQ d M ml st ca sl h Q) : mSo l D N0 ra ro cI cC cQ (d, M, pc, ml, st, ca, sl, h) Q := by
  obtain ⟨x, r, rfl, hj⟩ := mPop1_in hi
  clear hi
  simp only [Bool.and_eq_true, decide_eq_true_eq] at hw
  obtain ⟨w1, w2, w3⟩ := hw
  intro p e R s m args below meth c H locs ls F V
  by_cases ho : x.toInt < lo ∨ hi' < x.toInt
  · exact lv_tableOut F.1 F.2.1 hd ho w1 (hj.1 (decide_eq_true ho) p e R s m args below meth c H locs ls F V)
  · have h1 : ¬ x.toInt < lo := fun g => ho (Or.inl g)
    have h2 : ¬ hi' < x.toInt := fun g => ho (Or.inr g)
    have hlt : (x.toInt - lo).toNat < ts.length := by omega
    have hlen : offs.toList.length = ts.length := by
      have := congrArg List.length w2
      simpa using this
    have hlt2 : (x.toInt - lo).toNat < offs.size := by
      rw [← Array.length_toList, hlen]
      exact hlt
    have hoff : offs[(x.toInt - lo).toNat]? = some offs[(x.toInt - lo).toNat] := Array.getElem?_eq_getElem hlt2
    have hts : ts[(x.toInt - lo).toNat]? = some ts[(x.toInt - lo).toNat] := List.getElem?_eq_getElem hlt
    have htg : (pc : Int) + offs[(x.toInt - lo).toNat] = (ts[(x.toInt - lo).toNat] : Int) := by
      have g := congrArg (fun z : List Int => z[(x.toInt - lo).toNat]?) w2
      simp only [List.getElem?_map, Array.getElem?_toList, hoff, hts, Option.map_some] at g
      exact Option.some.inj g
    refine lv_tableIn F.1 F.2.1 hd h1 h2 hoff htg ?_
    exact mAll_at ts lo _ _ hj.2 hts (by omega) p e R s m args below meth c H locs ls F V
end SN
