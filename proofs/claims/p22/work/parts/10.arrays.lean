/-! Arrays, statics, new cells. -/
theorem mBlt_no {x y : Nat} (h : Nat.blt x y = false) : ¬ x < y := fun g => by
  have g2 : Nat.blt x y = true := by simpa [Nat.blt_eq] using g
  rw [h] at g2
  cases g2
section SA
variable {l : Launch} {D : va_G} {N0 : Nat} {ra : Nat → Nat} {ro : Nat → Nat × (Nat → Int32)} {cI cC cQ : ClassId} {d M pc nx a b ca sl : Nat} {zi : Int32} {zl : Int64} {ts : List Nat} {ml : List (Option Value)} {st : List Value} {h : mHp} {Q : mPo}
theorem mWs_arr {k n q : Nat} {rs : List (Option Nat)} (hc : h.1[q]? = some (k, n, rs)) : (k = 20 → (mWs N0 ra cI cC cQ h)[q]? = some (N0 + q, .inl (cI, n, .inl (h.2.1 q)))) ∧ (k = 21 → (mWs N0 ra cI cC cQ h)[q]? = some (N0 + q, .inl (cC, n, .inl (h.2.1 q)))) ∧ (21 < k → (mWs N0 ra cI cC cQ h)[q]? = some (N0 + q, .inl (cQ, n, .inr (.inr (.inr (.inr (fun j => (rs.getD j none).map (mAd N0 ra)))))))) := by
  have hw := mWs_get (N0 := N0) (ra := ra) (cI := cI) (cC := cC) (cQ := cQ) (mLt_of hc)
  rw [mEnt_at hc] at hw
  refine ⟨fun e => ?_, fun e => ?_, fun e => ?_⟩
  · subst e
    exact hw
  · subst e
    exact hw
  · rw [hw]
    unfold mEn1
    rw [if_neg (by show ¬ k < 20; omega), if_neg (by show ¬ k = 20; omega), if_neg (by show ¬ k = 21; omega)]
theorem so_iaload (hd : decode (mtBytes (mTb_ M)) pc = .ok (.iaload, 1)) (hi : mDX .iaload (pc + 1) a b zi zl ts l D N0 ra ro cI cC cQ d M ml st ca sl h Q) : mSo l D N0 ra ro cI cC cQ (d, M, pc, ml, st, ca, sl, h) Q := by
  obtain ⟨q, i, r, rfl, hj⟩ := mPopA_in hi
  clear hi
  intro p e R s m args below meth c H locs ls F V
  have K := F.2.2.2.2.2.2.2.1
  cases hq : Nat.blt q 1000 with
  | true =>
    simp only [hq, cond_true] at hj
    obtain ⟨hq, k, n, rs, hc, hj⟩ := mCell_in hj
    obtain ⟨hk, hin, hj⟩ := mIf_in hj
    have hin := mVp_in hin
    have hk : k = 20 := Nat.eq_of_beq_eq_true hk
    show W p l e R s m args below meth c H locs ca sl _ (F0 m pc ls (.int i :: .ref (mAd N0 ra q) :: r.map (mCv N0 ra)))
    rw [mAd_lo hq]
    exact va_iald F.1 F.2.1 K.2.1 V.1 q 0 ((mWs_arr hc).1 hk) rfl hin hd (hj p e R s m args below meth c H locs ls F V)
  | false =>
    simp only [hq, cond_false] at hj
    obtain ⟨hb, hin, hj⟩ := mIf_in hj
    have hin := mVp_in hin
    have h1 : ¬ q < 1000 := mBlt_no hq
    have h2 : q < 1003 := by simpa [Nat.blt_eq] using hb
    show W p l e R s m args below meth c H locs ca sl _ (F0 m pc ls (.int i :: .ref (mAd N0 ra q) :: r.map (mCv N0 ra)))
    have hg := hj p e R s m args below meth c H locs ls F V
    have tab : ∀ (t : Nat) (N : Nat) (f : Nat → Int32), va_T .int t N (fun j => .int (f j)) (mA N0) s s.heap → vp_in i N → W p l e R s m args below meth c H locs ca sl (MQ below (mQC D N0 ra cI cC cQ Q) args s (mtBud (mTb_ M)).1 (mtBud (mTb_ M)).2 (mA N0)) (F0 m (pc + 1) ls (.int (f i.toNatClampNeg) :: r.map (mCv N0 ra))) → W p l e R s m args below meth c H locs ca sl (MQ below (mQC D N0 ra cI cC cQ Q) args s (mtBud (mTb_ M)).1 (mtBud (mTb_ M)).2 (mA N0)) (F0 m pc ls (.int i :: .ref t :: r.map (mCv N0 ra))) := by
      intro t N f hT hin kk
      obtain ⟨cell, t1, t2, t3, t4, t5, t6, t7⟩ := hT
      have hlt : i.toNatClampNeg < N := Nat.not_le.mp fun q => hin (Or.inr q)
      exact W.iald (v := .int (f i.toNatClampNeg)) F.1 F.2.1 (by rw [V.2.2.1.2.1 t (Array.getElem?_eq_some_iff.mp t1).1 t7]; exact t1) t2 t3 (fun z => z.elim (fun y => hin (Or.inl y)) (fun y => by omega)) (t6 _ hlt) rfl rfl hd kk
    rcases (show q = 1000 ∨ q = 1001 ∨ q = 1002 by omega) with rfl | rfl | rfl
    · exact va_sld F.1 F.2.1 K.2.2.1.1 (Nat.lt_of_lt_of_le K.2.2.1.2 K.2.2.2.1) (by unfold mA; have := K.2.2.1.2; omega) V.2.2.1 hin hd hg
    · exact tab _ _ _ K.2.2.2.2.1.2 hin hg
    · exact tab _ _ _ K.2.2.2.2.2.1.2 hin hg
theorem so_baload (hd : decode (mtBytes (mTb_ M)) pc = .ok (.baload, 1)) (hi : mDX .baload (pc + 1) a b zi zl ts l D N0 ra ro cI cC cQ d M ml st ca sl h Q) : mSo l D N0 ra ro cI cC cQ (d, M, pc, ml, st, ca, sl, h) Q := by
  obtain ⟨q, i, r, rfl, hj⟩ := mPopA_in hi
  clear hi
  intro p e R s m args below meth c H locs ls F V
  have K := F.2.2.2.2.2.2.2.1
  obtain ⟨hb, hin, hj⟩ := mIf_in hj
  have hin := mVp_in hin
  have g := (Bool.and_eq_true _ _).mp hb
  have w1 : 1013 ≤ q := Nat.le_of_ble_eq_true g.1
  have w2 : q ≤ 1016 := Nat.le_of_ble_eq_true g.2
  show W p l e R s m args below meth c H locs ca sl _ (F0 m pc ls (.int i :: .ref (mAd N0 ra q) :: r.map (mCv N0 ra)))
  have hg := hj p e R s m args below meth c H locs ls F V
  obtain ⟨-, -, -, s4⟩ := K.2.2.2.2.2.2.2.1.1 (q - 1013) (by omega)
  have e1 : mAd N0 ra q = ra (13 + (q - 1013)) := mAd_at (by omega) (by omega)
  have e2 := (K.2.2.2.2.2.2.2.2.1 (q - 1013) (by omega)).2
  have e3 := K.2.2.2.2.2.2.2.2.2.2 (q - 1013) (by omega)
  rw [show 13 + (q - 1013) = q - 1000 by omega] at e2 e3
  rw [e1]
  rw [e2] at hin
  refine va_tb F.1 F.2.1 s4 V.2.2.1 hin rfl hd ?_
  show W p l e R s m args below meth c H locs ca sl _ (F0 m (pc + 1) ls (.int ((mSby.getD (q - 1013) []).getD i.toNatClampNeg 0) :: r.map (mCv N0 ra)))
  rw [← e3]
  exact hg
theorem so_caload (hd : decode (mtBytes (mTb_ M)) pc = .ok (.caload, 1)) (hi : mDX .caload (pc + 1) a b zi zl ts l D N0 ra ro cI cC cQ d M ml st ca sl h Q) : mSo l D N0 ra ro cI cC cQ (d, M, pc, ml, st, ca, sl, h) Q := by
  obtain ⟨q, i, r, rfl, hj⟩ := mPopA_in hi
  clear hi
  intro p e R s m args below meth c H locs ls F V
  have K := F.2.2.2.2.2.2.2.1
  obtain ⟨hq, k, n, rs, hc, hj⟩ := mCell_in hj
  obtain ⟨hk, hin, hj⟩ := mIf_in hj
  have hin := mVp_in hin
  have hk : k = 21 := Nat.eq_of_beq_eq_true hk
  show W p l e R s m args below meth c H locs ca sl _ (F0 m pc ls (.int i :: .ref (mAd N0 ra q) :: r.map (mCv N0 ra)))
  rw [mAd_lo hq]
  exact va_cald F.1 F.2.1 K.2.1 V.1 q 1 ((mWs_arr hc).2.1 hk) rfl hin hd (hj p e R s m args below meth c H locs ls F V)
theorem so_aaload (hd : decode (mtBytes (mTb_ M)) pc = .ok (.aaload, 1)) (hi : mDX .aaload (pc + 1) a b zi zl ts l D N0 ra ro cI cC cQ d M ml st ca sl h Q) : mSo l D N0 ra ro cI cC cQ (d, M, pc, ml, st, ca, sl, h) Q := by
  obtain ⟨q, i, r, rfl, hj⟩ := mPopA_in hi
  clear hi
  intro p e R s m args below meth c H locs ls F V
  have K := F.2.2.2.2.2.2.2.1
  obtain ⟨hq, k, n, rs, hc, hj⟩ := mCell_in hj
  obtain ⟨hk, hj⟩ := mIf_in hj
  have hk : k = 22 := Nat.eq_of_beq_eq_true hk
  split at hj
  · rename_i z hz
    obtain ⟨hin, hj⟩ := hj
    have hin := mVp_in hin
    show W p l e R s m args below meth c H locs ca sl _ (F0 m pc ls (.int i :: .ref (mAd N0 ra q) :: r.map (mCv N0 ra)))
    rw [mAd_lo hq]
    have hlt : i.toNatClampNeg < n := Nat.not_le.mp fun q => hin (Or.inr q)
    have hw := (mWs_arr (N0 := N0) (ra := ra) (cI := cI) (cC := cC) (cQ := cQ) hc).2.2 (by omega)
    exact W.aald (v := .ref (mAd N0 ra z)) (ty := .array .int) F.1 F.2.1 (V.1 q _ hw) ((K.2.1.2 2 _ rfl).1 n (fun j => va_rf ((rs.getD j none).map (mAd N0 ra)))) rfl (fun q => by cases q) (by show ¬ (i < 0 ∨ (arrV _ _ _).slots.size ≤ _); rw [arrV_size]; exact hin) (by show (arrV _ _ _).slots[_]? = _; rw [arrV_read _ _ hlt]; show some (va_rf ((rs.getD i.toNatClampNeg none).map (mAd N0 ra))) = _; rw [hz]; rfl) rfl rfl hd (hj p e R s m args below meth c H locs ls F V)
  · exact hj.elim
theorem so_arraylength (hd : decode (mtBytes (mTb_ M)) pc = .ok (.arraylength, 1)) (hi : mDX .arraylength (pc + 1) a b zi zl ts l D N0 ra ro cI cC cQ d M ml st ca sl h Q) : mSo l D N0 ra ro cI cC cQ (d, M, pc, ml, st, ca, sl, h) Q := by
  obtain ⟨q, r, rfl, hj⟩ := mPopR_in hi
  clear hi
  intro p e R s m args below meth c H locs ls F V
  have K := F.2.2.2.2.2.2.2.1
  show W p l e R s m args below meth c H locs ca sl _ (F0 m pc ls (.ref (mAd N0 ra q) :: r.map (mCv N0 ra)))
  cases hq : Nat.blt q 1000 with
  | true =>
    simp only [hq, cond_true] at hj
    obtain ⟨hq, k, n, rs, hc, hj⟩ := mCell_in hj
    obtain ⟨hk, hj⟩ := mIf_in hj
    have hk : 20 ≤ k := Nat.le_of_ble_eq_true hk
    rw [mAd_lo hq]
    have hw := mWs_arr (N0 := N0) (ra := ra) (cI := cI) (cC := cC) (cQ := cQ) hc
    rcases (show k = 20 ∨ k = 21 ∨ 21 < k by omega) with g | g | g
    · exact va_alen F.1 F.2.1 K.2.1 V.1 q 0 (hw.1 g) (ty := .int) rfl rfl hd (hj p e R s m args below meth c H locs ls F V)
    · exact va_alen F.1 F.2.1 K.2.1 V.1 q 1 (hw.2.1 g) (ty := .char) rfl rfl hd (hj p e R s m args below meth c H locs ls F V)
    · exact va_alen F.1 F.2.1 K.2.1 V.1 q 2 (hw.2.2 g) (ty := .array .int) rfl rfl hd (hj p e R s m args below meth c H locs ls F V)
  | false =>
    simp only [hq, cond_false] at hj
    obtain ⟨hb, hj⟩ := mIf_in hj
    have h1 : ¬ q < 1000 := mBlt_no hq
    have hg := hj p e R s m args below meth c H locs ls F V
    rcases (Bool.or_eq_true _ _).mp hb with g | g
    · have h2 : q < 1003 := by simpa [Nat.blt_eq] using g
      rcases (show q = 1000 ∨ q = 1001 ∨ q = 1002 by omega) with rfl | rfl | rfl
      · exact va_slen (b := ra 0) F.1 F.2.1 K.2.2.1.1 (Nat.lt_of_lt_of_le K.2.2.1.2 K.2.2.2.1) (by unfold mA; have := K.2.2.1.2; omega) V.2.2.1 hd hg
      · exact va_tlen F.1 F.2.1 K.2.2.2.2.1.2 V.2.2.1 rfl hd hg
      · exact va_tlen F.1 F.2.1 K.2.2.2.2.2.1.2 V.2.2.1 rfl hd hg
    · have g := (Bool.and_eq_true _ _).mp g
      have w1 : 1013 ≤ q := Nat.le_of_ble_eq_true g.1
      have w2 : q ≤ 1016 := Nat.le_of_ble_eq_true g.2
      obtain ⟨-, -, -, s4⟩ := K.2.2.2.2.2.2.2.1.1 (q - 1013) (by omega)
      have e1 : mAd N0 ra q = ra (13 + (q - 1013)) := mAd_at (by omega) (by omega)
      have e2 := (K.2.2.2.2.2.2.2.2.1 (q - 1013) (by omega)).2
      rw [show 13 + (q - 1013) = q - 1000 by omega] at e2
      rw [e1]
      refine va_tlen F.1 F.2.1 s4 V.2.2.1 rfl hd ?_
      rw [← e2]
      exact hg
theorem so_iastore (hd : decode (mtBytes (mTb_ M)) pc = .ok (.iastore, 1)) (hi : mDX .iastore (pc + 1) a b zi zl ts l D N0 ra ro cI cC cQ d M ml st ca sl h Q) : mSo l D N0 ra ro cI cC cQ (d, M, pc, ml, st, ca, sl, h) Q := by
  obtain ⟨q, i, x, r, rfl, hj⟩ := mPopS_in hi
  clear hi
  intro p e R s m args below meth c H locs ls F V
  have K := F.2.2.2.2.2.2.2.1
  obtain ⟨hq, k, n, rs, hc, hj⟩ := mCell_in hj
  obtain ⟨hk, hin, hj⟩ := mIf_in hj
  have hin := mVp_in hin
  have hk : k = 20 := Nat.eq_of_beq_eq_true hk
  have hw := (mWs_arr (N0 := N0) (ra := ra) (cI := cI) (cC := cC) (cQ := cQ) hc).1 hk
  show W p l e R s m args below meth c H locs ca sl _ (F0 m pc ls (.int x :: .int i :: .ref (mAd N0 ra q) :: r.map (mCv N0 ra)))
  rw [mAd_lo hq]
  refine W.iast F.1 F.2.1 (V.1 q _ hw) ((K.2.1.2 0 _ rfl).1 n (fun j => .int (h.2.1 q j))) (fun q => by cases q) (by show ¬ (i < 0 ∨ (arrV _ _ _).slots.size ≤ _); rw [arrV_size]; exact hin) rfl rfl hd fun H1 e1 z oq => ?_
  refine hj p e R s m args below meth c H1 _ ls F ⟨?_, by rw [z]; exact V.2.1, V.2.2.1.put z oq (by unfold mA; omega), V.2.2.2⟩
  rw [← mWs_set (N0 := N0) (ra := ra) (cI := cI) (cC := cC) (cQ := cQ) (h := h) (h' := (h.1, mUp h.2.1 q i.toNatClampNeg x, h.2.2)) (r := q) rfl (fun j hne => by unfold mEnt; show mEn1 _ _ _ _ _ _ (mUp h.2.1 q i.toNatClampNeg x j) _ = _; rw [mUp_row hne])]
  refine V.1.set mWs_D hw ?_ oq
  rw [mEnt_at (h := (h.1, mUp h.2.1 q i.toNatClampNeg x, h.2.2)) (c := (k, n, rs)) hc]
  show va_at D mCl (N0 + q, mEn1 N0 ra cI cC cQ (k, n, rs) (mUp h.2.1 q i.toNatClampNeg x q) (h.2.2 q)) H1
  rw [mUp_self]
  subst hk
  show H1[N0 + q]? = some (vp_cell _ _)
  rw [e1]
  show some ((vp_cell _ _).setSlot _ _) = _
  rw [vp_cell_i, vp_cell_i, arrV_store]
  congr 2
  funext j
  unfold updV upd
  split <;> rfl
theorem so_castore (hd : decode (mtBytes (mTb_ M)) pc = .ok (.castore, 1)) (hi : mDX .castore (pc + 1) a b zi zl ts l D N0 ra ro cI cC cQ d M ml st ca sl h Q) : mSo l D N0 ra ro cI cC cQ (d, M, pc, ml, st, ca, sl, h) Q := by
  obtain ⟨q, i, x, r, rfl, hj⟩ := mPopS_in hi
  clear hi
  intro p e R s m args below meth c H locs ls F V
  have K := F.2.2.2.2.2.2.2.1
  obtain ⟨hq, k, n, rs, hc, hj⟩ := mCell_in hj
  obtain ⟨hk, hin, hj⟩ := mIf_in hj
  have hin := mVp_in hin
  have hk : k = 21 := Nat.eq_of_beq_eq_true hk
  have hw := (mWs_arr (N0 := N0) (ra := ra) (cI := cI) (cC := cC) (cQ := cQ) hc).2.1 hk
  show W p l e R s m args below meth c H locs ca sl _ (F0 m pc ls (.int x :: .int i :: .ref (mAd N0 ra q) :: r.map (mCv N0 ra)))
  rw [mAd_lo hq]
  refine W.cast F.1 F.2.1 (V.1 q _ hw) ((K.2.1.2 1 _ rfl).1 n (fun j => .int (h.2.1 q j))) (fun q => by cases q) (by show ¬ (i < 0 ∨ (arrV _ _ _).slots.size ≤ _); rw [arrV_size]; exact hin) rfl rfl hd fun H1 e1 z oq => ?_
  refine hj p e R s m args below meth c H1 _ ls F ⟨?_, by rw [z]; exact V.2.1, V.2.2.1.put z oq (by unfold mA; omega), V.2.2.2⟩
  rw [← mWs_set (N0 := N0) (ra := ra) (cI := cI) (cC := cC) (cQ := cQ) (h := h) (h' := (h.1, mUp h.2.1 q i.toNatClampNeg (vp_nar .char x), h.2.2)) (r := q) rfl (fun j hne => by unfold mEnt; show mEn1 _ _ _ _ _ _ (mUp h.2.1 q i.toNatClampNeg (vp_nar .char x) j) _ = _; rw [mUp_row hne])]
  refine V.1.set mWs_D hw ?_ oq
  rw [mEnt_at (h := (h.1, mUp h.2.1 q i.toNatClampNeg (vp_nar .char x), h.2.2)) (c := (k, n, rs)) hc]
  show va_at D mCl (N0 + q, mEn1 N0 ra cI cC cQ (k, n, rs) (mUp h.2.1 q i.toNatClampNeg (vp_nar .char x) q) (h.2.2 q)) H1
  rw [mUp_self]
  subst hk
  show H1[N0 + q]? = some (vp_cell _ _)
  rw [e1]
  show some ((vp_cell _ _).setSlot _ _) = _
  rw [vp_cell_i, vp_cell_i, arrV_store]
  congr 2
  funext j
  unfold updV upd
  split <;> rfl
theorem mFind_in {own ref nm ds : String} {idx : Nat} {ts : List Nat} {s : State} {args : Array Value} (K : mKX D N0 ra ro cI cC cQ s) (h : mFk own idx ref nm ds ts = true) : (Jvm.Cond.fieldLink own idx ref nm ds).before args s = true ∨ (Jvm.Cond.fieldLinkNest own idx ref nm ds "PoleRecords").before args s = true := by
  rcases mFk_in h with g | ⟨g, -⟩
  · exact Or.inl (mHts K _ g)
  · exact Or.inr (mHts K _ g)
theorem so_getstatic {n : Nat} (hd : decode (mtBytes (mTb_ M)) pc = .ok (.getstatic n, 3)) (hw : (bif Nat.beq a 0 then (bif Nat.beq b 1001 then mFk (mtName (mTb_ M)).cls n "PoleRecords$Judge" "LEAST" "[I" ts else bif Nat.beq b 1002 then mFk (mtName (mTb_ M)).cls n "PoleRecords$Judge" "MOST" "[I" ts else (Nat.beq b 1007 && mFk (mtName (mTb_ M)).cls n "jdk/internal/util/Preconditions" "SIOOBE_FORMATTER" "Ljava/util/function/BiFunction;" ts)) else (decide (zi = 1) && mFk (mtName (mTb_ M)).cls n "java/lang/String" "COMPACT_STRINGS" "Z" ts)) = true) (hi : mDX (.getstatic n) (pc + 3) a b zi zl ts l D N0 ra ro cI cC cQ d M ml st ca sl h Q) : mSo l D N0 ra ro cI cC cQ (d, M, pc, ml, st, ca, sl, h) Q := by
  intro p e R s m args below meth c H locs ls F V
  have K := F.2.2.2.2.2.2.2.1
  cases ha : Nat.beq a 0 with
  | true =>
    simp only [mDX, mDo, ha, cond_true] at hi hw
    cases hb : Nat.beq b 1001 with
    | true =>
      simp only [hb, cond_true] at hw
      have hb : b = 1001 := Nat.eq_of_beq_eq_true hb
      subst hb
      simp only [show Nat.beq 1001 1007 = false from rfl, cond_false] at hi
      have hg := hi p e R s m args below meth c H locs ls F V
      rcases mFind_in (args := args) K hw with g | g
      · exact va_gets F.1 F.2.1 K.2.2.2.2.1.1 V.2.2.1 F.2.2.2.1 g (fun _ z => z) hd hg
      · exact va_getsN F.1 F.2.1 K.2.2.2.2.1.1 V.2.2.1 F.2.2.2.1 g (fun _ z => z) hd hg
    | false =>
      simp only [hb, cond_false] at hw
      cases hb2 : Nat.beq b 1002 with
      | true =>
        simp only [hb2, cond_true] at hw
        have hb : b = 1002 := Nat.eq_of_beq_eq_true hb2
        subst hb
        simp only [show Nat.beq 1002 1007 = false from rfl, cond_false] at hi
        have hg := hi p e R s m args below meth c H locs ls F V
        rcases mFind_in (args := args) K hw with g | g
        · exact va_gets F.1 F.2.1 K.2.2.2.2.2.1.1 V.2.2.1 F.2.2.2.1 g (fun _ z => z) hd hg
        · exact va_getsN F.1 F.2.1 K.2.2.2.2.2.1.1 V.2.2.1 F.2.2.2.1 g (fun _ z => z) hd hg
      | false =>
        simp only [hb2, cond_false] at hw
        have hw := (Bool.and_eq_true _ _).mp hw
        have hb : b = 1007 := Nat.eq_of_beq_eq_true hw.1
        subst hb
        simp only [show Nat.beq 1007 1007 = true from rfl, cond_true] at hi
        rcases K.2.2.2.2.2.2.2.2.2.1 with ⟨hz, hZ⟩ | ⟨hz, hZ⟩
        · have hg := hi.1 hz p e R s m args below meth c H locs ls F V
          rcases mFind_in (args := args) K hw.2 with g | g
          · exact va_gets F.1 F.2.1 hZ V.2.2.1 F.2.2.2.1 g (fun _ z => z) hd hg
          · exact va_getsN F.1 F.2.1 hZ V.2.2.1 F.2.2.2.1 g (fun _ z => z) hd hg
        · have hg := hi.2 hz p e R s m args below meth c H locs ls F V
          rcases mFind_in (args := args) K hw.2 with g | g
          · exact va_gets F.1 F.2.1 hZ V.2.2.1 F.2.2.2.1 g (fun _ z => z) hd hg
          · exact va_getsN F.1 F.2.1 hZ V.2.2.1 F.2.2.2.1 g (fun _ z => z) hd hg
  | false =>
    simp only [mDX, mDo, ha, cond_false] at hi hw
    have hw := (Bool.and_eq_true _ _).mp hw
    have hz : zi = 1 := by simpa using hw.1
    subst hz
    have hg := hi p e R s m args below meth c H locs ls F V
    rcases mFind_in (args := args) K hw.2 with g | g
    · exact va_gets F.1 F.2.1 K.2.2.2.2.2.2.1 V.2.2.1 F.2.2.2.1 g (fun _ z => z) hd hg
    · exact va_getsN F.1 F.2.1 K.2.2.2.2.2.2.1 V.2.2.1 F.2.2.2.1 g (fun _ z => z) hd hg
end SA
