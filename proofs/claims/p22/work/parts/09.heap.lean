/-! The heap: reads and writes of fields and arrays. -/
theorem mFk_in {own ref nm ds : String} {idx : Nat} {ts : List Nat} (h : mFk own idx ref nm ds ts = true) : (Jvm.Cond.fieldLink own idx ref nm ds ∈ mTs) ∨ (Jvm.Cond.fieldLinkNest own idx ref nm ds "PoleRecords" ∈ mTs ∧ ¬ ts.length = 1) := by
  unfold mFk at h
  split at h
  · exact Or.inl (mW_mem h)
  · exact Or.inr ⟨mW_mem h, by simp⟩
  · cases h
theorem mW1_in {ts : List Nat} {w : Jvm.Cond} (h : mW1 ts w = true) : w ∈ mTs := by
  unfold mW1 at h
  split at h
  · exact mW_mem h
  · cases h
theorem mEnt_at {N0 : Nat} {ra : Nat → Nat} {cI cC cQ : ClassId} {h : mHp} {q : Nat} {c : mSC} (hc : h.1[q]? = some c) : mEnt N0 ra cI cC cQ h q = mEn1 N0 ra cI cC cQ c (h.2.1 q) (h.2.2 q) := by
  unfold mEnt
  rw [List.getD_eq_getElem?_getD, hc]
  rfl
theorem mLt_of {h : mHp} {q : Nat} {c : mSC} (hc : h.1[q]? = some c) : q < h.1.length := (List.getElem?_eq_some_iff.mp hc).1
theorem mAd_lo {N0 : Nat} {ra : Nat → Nat} {q : Nat} (hq : q < 1000) : mAd N0 ra q = N0 + q := if_pos hq
theorem mAd_hi {N0 : Nat} {ra : Nat → Nat} {q : Nat} (hq : 1000 ≤ q) : mAd N0 ra q = ra (q - 1000) := if_neg (by omega)
theorem mAd_at {N0 : Nat} {ra : Nat → Nat} {q j : Nat} (hq : 1000 ≤ q) (hj : q = 1000 + j) : mAd N0 ra q = ra j := by
  rw [mAd_hi hq, hj, Nat.add_sub_cancel_left]
section SH
variable {p : Program} {l : Launch} {e : Env} {R : Room} {s : State} {m : MethodId} {args : Array Value} {below : List Frame} {meth : Method} {c : Code} {H : Heap} {locs : List Loc} {ls : Array Slot} {Z : State → Prop} {rest : List Value}
variable {D : va_G} {N0 : Nat} {ra : Nat → Nat} {ro : Nat → Nat × (Nat → Int32)} {cI cC cQ : ClassId} {d M pc a b ca sl cm sm : Nat} {ml : List (Option Value)} {h : mHp}
theorem mHts (K : mKX D N0 ra ro cI cC cQ s) : ∀ w ∈ mTs, w.before args s = true := fun w hw => K.1 w hw args
theorem mGetF (F : mFx D N0 ra ro cI cC cQ p R s m meth c d M) (hP : va_P D mCl (mWs N0 ra cI cC cQ h) H) {q n idx : Nat} {rs : List (Option Nat)} {C : String} {T : u_T} {N : Nat} {ts : List Nat} {v : Value} (hq : q < 1000) (hc : h.1[q]? = some (a, n, rs)) (ha : a < 20) (hcl : mCl[a]? = some (C, T, N)) (hb : b < N) (hl : mFk (mtName (mTb_ M)).cls idx (T b).1 (T b).2.1 (T b).2.2.1 ts = true) (hv : mFv N0 ra a rs (h.2.1 q) (h.2.2 q) b = v) (hd : decode (mtBytes (mTb_ M)) pc = .ok (.getfield idx, 3))
    (kk : W p l e R s m args below meth c H locs cm sm Z (F0 m (pc + 3) ls (v :: rest))) : W p l e R s m args below meth c H locs cm sm Z (F0 m pc ls (.ref (mAd N0 ra q) :: rest)) := by
  obtain ⟨hx, hb1, -, ho, -, -, -, K, -⟩ := F
  obtain ⟨hu, -, -, hlen⟩ := mClOk_all a _ hcl
  have hw := mWs_get (N0 := N0) (ra := ra) (cI := cI) (cC := cC) (cQ := cQ) (mLt_of hc)
  rw [mEnt_at hc] at hw
  have he : mEn1 N0 ra cI cC cQ (a, n, rs) (h.2.1 q) (h.2.2 q) = .inr (a, mFs N0 ra a rs (h.2.1 q) (h.2.2 q)) := if_pos ha
  rw [he] at hw
  have hfv : (mFs N0 ra a rs (h.2.1 q) (h.2.2 q))[b]? = some v := by rw [mFs_get (by rw [hlen]; exact hb), hv]
  rw [mAd_lo hq]
  rcases mFk_in hl with g | ⟨g, -⟩
  · exact va_get (D := D) hx hb1 (mHts K) hu ho K.2.1 hP q hw hcl b hb (mHts K _ g) (fun _ z => z) hfv hd kk
  · exact va_getN (D := D) hx hb1 (mHts K) hu ho K.2.1 hP q hw hcl b hb (mHts K _ g) (fun _ z => z) hfv hd kk
theorem mPutF (F : mFx D N0 ra ro cI cC cQ p R s m meth c d M) (V : mVr D N0 ra cI cC cQ s H locs ls M ml ca sl h) {h' : mHp} {q n idx : Nat} {rs rs' : List (Option Nat)} {f' : Nat → Int32} {g' : Nat → Int64} {C : String} {T : u_T} {N : Nat} {ts : List Nat} {v : Value} (hq : q < 1000) (hc : h.1[q]? = some (a, n, rs)) (ha : a < 20) (hcl : mCl[a]? = some (C, T, N)) (hb : b < N) (hl : mFk (mtName (mTb_ M)).cls idx (T b).1 (T b).2.1 (T b).2.2.1 ts = true) (hfin : (T b).2.2.2 = true → ts.length = 1 ∧ mtKind (mTb_ M) = 1 ∧ (T b).1 = (mtName (mTb_ M)).cls)
    {ty : FieldType} (hty : parseFieldDescriptor (T b).2.2.1 = some ty) (hn : narrow ty v = v) (hfit : fits ty v = true)
    (hlen : h'.1.length = h.1.length) (ho : ∀ i, i ≠ q → mEnt N0 ra cI cC cQ h' i = mEnt N0 ra cI cC cQ h i) (hc' : h'.1[q]? = some (a, n, rs')) (hf' : h'.2.1 q = f') (hg' : h'.2.2 q = g') (hv : mFv N0 ra a rs' f' g' b = v) (hov : ∀ i, i ≠ b → mFv N0 ra a rs' f' g' i = mFv N0 ra a rs (h.2.1 q) (h.2.2 q) i)
    (hd : decode (mtBytes (mTb_ M)) pc = .ok (.putfield idx, 3))
    (kk : ∀ (H1 : Heap) (locs1 : List Loc), mVr D N0 ra cI cC cQ s H1 locs1 ls M ml ca sl h' → W p l e R s m args below meth c H1 locs1 cm sm Z (F0 m (pc + 3) ls rest)) : W p l e R s m args below meth c H locs cm sm Z (F0 m pc ls (v :: .ref (mAd N0 ra q) :: rest)) := by
  obtain ⟨hx, hb1, -, hown, -, -, hini, K, -⟩ := F
  obtain ⟨hP, hsz, hS0, hrest⟩ := V
  obtain ⟨hin, ⟨ty0, hty0, -⟩, hnm, hnl⟩ := mClOk_all a _ hcl
  have hts := mHts (args := args) K
  have hK := K.2.1
  have hD := mWs_D (N0 := N0) (ra := ra) (cI := cI) (cC := cC) (cQ := cQ) (h := h)
  have he := mWs_get (N0 := N0) (ra := ra) (cI := cI) (cC := cC) (cQ := cQ) (mLt_of hc)
  rw [mEnt_at hc] at he
  have he0 : mEn1 N0 ra cI cC cQ (a, n, rs) (h.2.1 q) (h.2.2 q) = .inr (a, mFs N0 ra a rs (h.2.1 q) (h.2.2 q)) := if_pos ha
  rw [he0] at he
  have he1 : mEnt N0 ra cI cC cQ h' q = .inr (a, mFs N0 ra a rs' f' g') := by
    rw [mEnt_at hc', hf', hg']
    exact if_pos ha
  have hset : (mFs N0 ra a rs (h.2.1 q) (h.2.2 q)).set b v = mFs N0 ra a rs' f' g' := mFs_set (by rw [hnl]; exact hb) hv hov
  have hws : (mWs N0 ra cI cC cQ h).set q (N0 + q, .inr (a, (mFs N0 ra a rs (h.2.1 q) (h.2.2 q)).set b v)) = mWs N0 ra cI cC cQ h' := by
    rw [hset, ← he1]
    exact mWs_set hlen ho
  have hl2 : b < (mFs N0 ra a rs (h.2.1 q) (h.2.2 q)).length := by rw [mFs_len, hnl]; exact hb
  have hap := va_apart (own := (mtName (mTb_ M)).cls) hts hin ty0 hty0 hnm hK hcl
  obtain ⟨r, h1, cell, q1, q2, q3, q4⟩ := hP q _ he
  have hr : r = (C, T, N) := Option.some.inj (h1.symm.trans hcl)
  subst hr
  obtain ⟨hS, hfc, kC, hkC, hkind⟩ := hK.1 a _ hcl
  obtain ⟨cf, kf, fi, f, hi, hsl⟩ := hS b hb
  have hst := (u_facts hfc hkC (u_lays hts hin hb) hi).1
  have hlay := hts _ (hin _ (u_in_lay hb))
  unfold u_lay at hlay
  rw [mAd_lo hq]
  have fin : ∀ (H' : Heap), H'[N0 + q]? = some (cell.setSlot f.slot v) → H'.size = H.size → (∀ x, x ≠ N0 + q → H'[x]? = H[x]?) → W p l e R s m args below meth c H' (locs ++ [⟨N0 + q, f.slot⟩]) cm sm Z (F0 m (pc + 3) ls rest) := by
    intro H' e1 e2 e3
    rw [hsl] at e1
    refine kk H' _ ⟨?_, by rw [e2, hsz, hlen], hS0.put e2 e3 (by unfold mA; omega), hrest⟩
    rw [← hws]
    exact hP.set hD he ⟨_, hcl, t_OB.to (V := updV (vp_V (mFs N0 ra a rs (h.2.1 q) (h.2.2 q))) b v) ⟨_, e1, q2, q3, t_set q4 hap hb v⟩ (fun j _ => vp_updV_set hl2 v j)⟩ e3
  have hlt : f.slot < cell.slots.size := by rw [hsl]; exact k2_hasslot (q4 b hb)
  cases hfn : (T b).2.2.2 with
  | false =>
    rw [if_neg (by rw [hfn]; decide)] at hlay
    have h6 := u_store hfc hkC hkind hlay hi hty hn hfit
    rcases mFk_in hl with g | ⟨g, -⟩
    · exact W.putK hx hb1 (f := f) ⟨hown, hts _ g, ⟨_, _, _, hi⟩, hst⟩ (by rw [q2]; exact h6) q1 q3 hlt rfl rfl hd fin
    · exact va_WputK hx hb1 (f := f) hown (hts _ g) hi hst (by rw [q2]; exact h6) q1 q3 hlt rfl rfl hd fin
  | true =>
    obtain ⟨f1, f2, f3⟩ := hfin hfn
    rw [if_pos hfn] at hlay
    have hcf : m.cls = cf := by
      obtain ⟨_, _, c', _, _, _, -, -, hf2, -, -, -, hown2, -⟩ := Cond.laysFinal_spec hlay
      have e1 : c' = cf := by have := hi.symm.trans hf2; simp at this; exact this.1.symm
      rw [f3] at hown2
      rw [← e1]; exact Option.some.inj (hown.symm.trans hown2)
    have h6 := u_fits hfc hkC hkind (Or.inr hlay) hi hty hn hfit
    rcases mFk_in hl with g | ⟨-, g⟩
    · exact W.putFinK hx hb1 hown (hts _ g) hi hst hcf (hini f2) (by rw [q2]; exact h6) q1 q3 hlt rfl rfl hd fin
    · exact absurd f1 g
end SH
section SO2
variable {l : Launch} {D : va_G} {N0 : Nat} {ra : Nat → Nat} {ro : Nat → Nat × (Nat → Int32)} {cI cC cQ : ClassId} {d M pc nx a b ca sl : Nat} {zi : Int32} {zl : Int64} {ts : List Nat} {ml : List (Option Value)} {st : List Value} {h : mHp} {Q : mPo}
theorem so_ldc2 {n : Nat} (hd : decode (mtBytes (mTb_ M)) pc = .ok (.ldc2_w n, 3)) (hw : mW1 ts (.constantLong (mtName (mTb_ M)).cls n zl) = true) (hi : mDX (.ldc2_w n) (pc + 3) a b zi zl ts l D N0 ra ro cI cC cQ d M ml st ca sl h Q) : mSo l D N0 ra ro cI cC cQ (d, M, pc, ml, st, ca, sl, h) Q := by
  intro p e R s m args below meth c H locs ls F V
  exact lv_ldc2 F.1 F.2.1 F.2.2.2.1 (mHts F.2.2.2.2.2.2.2.1 _ (mW1_in hw)) hd (hi p e R s m args below meth c H locs ls F V)
theorem so_ldc {n : Nat} (hd : decode (mtBytes (mTb_ M)) pc = .ok (.ldc n, 2)) (hw : (bif Nat.beq a 0 then mW1 ts (.constant (mtName (mTb_ M)).cls n zi) else (Nat.ble 1003 b && (Nat.ble b 1006 && (decide ((mtName (mTb_ M)).cls = "PoleRecords$Reader") && decide (n = mStrIx b))))) = true) (hi : mDX (.ldc n) (pc + 2) a b zi zl ts l D N0 ra ro cI cC cQ d M ml st ca sl h Q) : mSo l D N0 ra ro cI cC cQ (d, M, pc, ml, st, ca, sl, h) Q := by
  intro p e R s m args below meth c H locs ls F V
  cases ha : Nat.beq a 0 with
  | true =>
    simp only [mDX, mDo, ha, cond_true] at hi hw
    exact lv_ldc F.1 F.2.1 F.2.2.2.1 (mHts F.2.2.2.2.2.2.2.1 _ (mW1_in hw)) hd (hi p e R s m args below meth c H locs ls F V)
  | false =>
    simp only [mDX, mDo, ha, cond_false] at hi hw
    simp only [Bool.and_eq_true, decide_eq_true_eq] at hw
    obtain ⟨w1, w2, w3, w4⟩ := hw
    have w1 : 1003 ≤ b := Nat.le_of_ble_eq_true w1
    have w2 : b ≤ 1006 := Nat.le_of_ble_eq_true w2
    have K := F.2.2.2.2.2.2.2.1
    have hz := (K.2.2.2.2.2.2.2.2.1 (b - 1003) (by omega)).1
    rw [show 1003 + (b - 1003) = b by omega, ← w4] at hz
    have hown := F.2.2.2.1
    rw [w3] at hown
    have hg := hi p e R s m args below meth c H locs ls F V
    have e1 : mAd N0 ra b = ra (3 + (b - 1003)) := mAd_at (by omega) (by omega)
    refine va_ldcS F.1 F.2.1 hown hz hd ?_
    rw [← e1]
    exact hg
theorem so_getfield {n : Nat} (hd : decode (mtBytes (mTb_ M)) pc = .ok (.getfield n, 3)) (hw : (bif Nat.blt a 20 then (match mCl[a]? with
        | some (_, T, N) => Nat.blt b N && mFk (mtName (mTb_ M)).cls n (T b).1 (T b).2.1 (T b).2.2.1 ts
        | none => false) else (bif Nat.beq b 0 then mW1 ts (.fieldLink (mtName (mTb_ M)).cls n "java/lang/String" "value" "[B") else mW1 ts (.fieldLink (mtName (mTb_ M)).cls n "java/lang/String" "coder" "B"))) = true) (hi : mDX (.getfield n) (pc + 3) a b zi zl ts l D N0 ra ro cI cC cQ d M ml st ca sl h Q) : mSo l D N0 ra ro cI cC cQ (d, M, pc, ml, st, ca, sl, h) Q := by
  obtain ⟨q, r, rfl, hj⟩ := mPopR_in hi
  clear hi
  intro p e R s m args below meth c H locs ls F V
  cases ha : Nat.blt a 20 with
  | true =>
    simp only [ha, cond_true] at hj hw
    have ha : a < 20 := by simpa [Nat.blt_eq] using ha
    obtain ⟨hq, k, n', rs, hc, hj⟩ := mCell_in hj
    obtain ⟨hk, hj⟩ := mIf_in hj
    have hk : k = a := Nat.eq_of_beq_eq_true hk
    subst hk
    split at hw
    · rename_i C T N hcl
      have hw := (Bool.and_eq_true _ _).mp hw
      have hb : b < N := by simpa [Nat.blt_eq] using hw.1
      split at hj
      · rename_i ht
        exact mGetF F V.1 hq hc ha hcl hb hw.2 (by unfold mFv; rw [ht]; rfl) hd (hj p e R s m args below meth c H locs ls F V)
      · rename_i ht
        exact mGetF F V.1 hq hc ha hcl hb hw.2 (by unfold mFv; rw [ht]; rfl) hd (hj p e R s m args below meth c H locs ls F V)
      · rename_i ht
        split at hj
        · rename_i z hz
          exact mGetF F V.1 hq hc ha hcl hb hw.2 (v := .ref (mAd N0 ra z)) (by unfold mFv; rw [ht, hz]; rfl) hd (hj p e R s m args below meth c H locs ls F V)
        · exact hj.elim
      · exact hj.elim
    · cases hw
  | false =>
    simp only [ha, cond_false] at hj hw
    obtain ⟨hb, hj⟩ := mIf_in hj
    have hb := (Bool.and_eq_true _ _).mp hb
    have w1 : 1003 ≤ q := Nat.le_of_ble_eq_true hb.1
    have w2 : q ≤ 1006 := Nat.le_of_ble_eq_true hb.2
    have K := F.2.2.2.2.2.2.2.1
    obtain ⟨s1, s2, s3, s4⟩ := K.2.2.2.2.2.2.2.1.1 (q - 1003) (by omega)
    have e1 : mAd N0 ra q = ra (3 + (q - 1003)) := mAd_at (by omega) (by omega)
    have e2 : mAd N0 ra (q + 10) = ra (13 + (q - 1003)) := mAd_at (by omega) (by omega)
    show W p l e R s m args below meth c H locs ca sl _ (F0 m pc ls (.ref (mAd N0 ra q) :: r.map (mCv N0 ra)))
    rw [e1]
    cases hb0 : Nat.beq b 0 with
    | true =>
      simp only [hb0, cond_true] at hj hw
      refine vk_getf F.1 F.2.1 s3 V.2.2.1 F.2.2.2.1 (mHts K _ (mW1_in hw)) (fun _ z => z) hd ?_
      show W p l e R s m args below meth c H locs ca sl _ (F0 m (pc + 3) ls (.ref (ra (13 + (q - 1003))) :: r.map (mCv N0 ra)))
      rw [← e2]
      exact hj p e R s m args below meth c H locs ls F V
    | false =>
      simp only [hb0, cond_false] at hj hw
      exact vk_getf F.1 F.2.1 s2 V.2.2.1 F.2.2.2.1 (mHts K _ (mW1_in hw)) (fun _ z => z) hd (hj p e R s m args below meth c H locs ls F V)
end SO2
section SO3
variable {l : Launch} {D : va_G} {N0 : Nat} {ra : Nat → Nat} {ro : Nat → Nat × (Nat → Int32)} {cI cC cQ : ClassId} {d M pc nx a b ca sl : Nat} {zi : Int32} {zl : Int64} {ts : List Nat} {ml : List (Option Value)} {st : List Value} {h : mHp} {Q : mPo}
theorem so_putfield {n : Nat} (hd : decode (mtBytes (mTb_ M)) pc = .ok (.putfield n, 3)) (hw : (match mCl[a]? with
        | some (_, T, N) => Nat.blt b N && (mFk (mtName (mTb_ M)).cls n (T b).1 (T b).2.1 (T b).2.2.1 ts && (bif (T b).2.2.2 then (decide (ts.length = 1) && (Nat.beq (mtKind (mTb_ M)) 1 && decide ((T b).1 = (mtName (mTb_ M)).cls))) else true))
        | none => false) = true) (hi : mDX (.putfield n) (pc + 3) a b zi zl ts l D N0 ra ro cI cC cQ d M ml st ca sl h Q) : mSo l D N0 ra ro cI cC cQ (d, M, pc, ml, st, ca, sl, h) Q := by
  obtain ⟨v, q, r, rfl, hj⟩ := mPopV_in hi
  clear hi
  obtain ⟨hq, k, n', rs, hc, hj⟩ := mCell_in hj
  obtain ⟨hk, hj⟩ := mIf_in hj
  have hk : k = a := Nat.eq_of_beq_eq_true hk
  subst hk
  intro p e R s m args below meth c H locs ls F V
  split at hw
  · rename_i C T N hcl
    have hw := (Bool.and_eq_true _ _).mp hw
    have hb : b < N := by simpa [Nat.blt_eq] using hw.1
    have hw2 := (Bool.and_eq_true _ _).mp hw.2
    have ha : k < 20 := by
      have := (List.getElem?_eq_some_iff.mp hcl).1
      simp at this
      omega
    have hfin : (T b).2.2.2 = true → ts.length = 1 ∧ mtKind (mTb_ M) = 1 ∧ (T b).1 = (mtName (mTb_ M)).cls := by
      intro g
      have g2 := hw2.2
      rw [g] at g2
      simp only [cond_true, Bool.and_eq_true, decide_eq_true_eq] at g2
      exact ⟨g2.1, Nat.eq_of_beq_eq_true g2.2.1, g2.2.2⟩
    obtain ⟨-, ⟨ty, hty, hkind⟩, -⟩ := mClOk_all k _ hcl
    have hty := hty b hb
    have hkind := hkind b hb
    rcases mPutD_in hj with ⟨x, ht, rfl, hz⟩ | ⟨x, ht, rfl, hz⟩ | ⟨x, ht, rfl, hz⟩
    · rcases hkind with ⟨-, g⟩ | ⟨g, -⟩ | ⟨g, -⟩
      · rw [g] at hty
        refine mPutF F V (h' := (h.1, mUp h.2.1 q b x, h.2.2)) (rs' := rs) (f' := upd (h.2.1 q) b x) (g' := h.2.2 q) hq hc ha hcl hb hw2.1 hfin hty rfl rfl rfl ?_ hc mUp_self rfl (by unfold mFv; rw [ht]; simp [upd]; rfl) ?_ hd (fun H1 locs1 V1 => hz p e R s m args below meth c H1 locs1 ls F V1)
        · intro i hne
          unfold mEnt
          show mEn1 N0 ra cI cC cQ _ (mUp h.2.1 q b x i) _ = _
          rw [mUp_row hne]
        · intro i hne
          unfold mFv
          simp [upd, hne]
      · rw [ht] at g; cases g
      · rw [ht] at g; cases g
    · rcases hkind with ⟨g, -⟩ | ⟨-, g⟩ | ⟨g, -⟩
      · rw [ht] at g; cases g
      · rw [g] at hty
        refine mPutF F V (h' := (h.1, h.2.1, mUpL h.2.2 q b x)) (rs' := rs) (f' := h.2.1 q) (g' := vp_updL (h.2.2 q) b x) hq hc ha hcl hb hw2.1 hfin hty rfl rfl rfl ?_ hc rfl mUpL_self (by unfold mFv; rw [ht]; simp [vp_updL]; rfl) ?_ hd (fun H1 locs1 V1 => hz p e R s m args below meth c H1 locs1 ls F V1)
        · intro i hne
          unfold mEnt
          show mEn1 N0 ra cI cC cQ _ _ (mUpL h.2.2 q b x i) = _
          rw [mUpL_row hne]
        · intro i hne
          unfold mFv
          simp [vp_updL, hne]
      · rw [ht] at g; cases g
    · rcases hkind with ⟨g, -⟩ | ⟨g, -⟩ | ⟨-, g⟩
      · rw [ht] at g; cases g
      · rw [ht] at g; cases g
      · obtain ⟨hbl, hz⟩ := mIf_in hz
        have hbl : b < rs.length := by simpa [Nat.blt_eq] using hbl
        have hl := mLt_of hc
        have hnr : narrow (ty b) (.ref (mAd N0 ra x)) = .ref (mAd N0 ra x) ∧ fits (ty b) (.ref (mAd N0 ra x)) = true := by
          rcases g with ⟨z, g⟩ | ⟨z, g⟩ <;> rw [g] <;> exact ⟨rfl, rfl⟩
        refine mPutF F V (h' := (h.1.set q (k, n', rs.set b (some x)), h.2.1, h.2.2)) (rs' := rs.set b (some x)) (f' := h.2.1 q) (g' := h.2.2 q) (v := .ref (mAd N0 ra x)) hq hc ha hcl hb hw2.1 hfin hty hnr.1 hnr.2 (by simp) ?_ (by rw [List.getElem?_set_self hl]) rfl rfl ?_ ?_ hd (fun H1 locs1 V1 => hz p e R s m args below meth c H1 locs1 ls F V1)
        · intro i hne
          unfold mEnt
          simp only [List.getD_eq_getElem?_getD, List.getElem?_set_ne (Ne.symm hne)]
        · unfold mFv
          rw [ht, List.getD_eq_getElem?_getD, List.getElem?_set_self hbl]
          rfl
        · intro i hne
          unfold mFv
          simp only [List.getD_eq_getElem?_getD, List.getElem?_set_ne (Ne.symm hne)]
  · cases hw
end SO3
