/-! Rows for symbolic runs. -/
def mPlain (T : Nat → mMt) (ft : List (List Nat)) (ro : Nat → Nat × (Nat → Int32)) (n : Nat) : mSt → Option mSt := Nat.rec (motive := fun _ => mSt → Option mSt) (fun s => some s) (fun _ w => fun s => match mStep T ft ro s with
  | .inl s => w s
  | _ => none) n
section ST
variable {ro : Nat → Nat × (Nat → Int32)} {s s2 s3 : mSt} {Q : mPo}
theorem mB : ∀ (n : Nat) {s s2 : mSt}, mPlain mTb_ mFT ro n s = some s2 → mWP mTb_ mFT ro s2 Q → mWP mTb_ mFT ro s Q
  | 0, s, s2, h, k => by
    cases h
    exact k
  | n + 1, s, s2, h, k => by
    refine mWP.fold ?_
    have h : (match mStep mTb_ mFT ro s with
      | .inl s => mPlain mTb_ mFT ro n s
      | _ => none) = some s2 := h
    cases ho : mStep mTb_ mFT ro s with
    | inl x =>
      rw [ho] at h
      exact mB n h k
    | inr x =>
      rw [ho] at h
      cases h
theorem mBr {c : Bool} (h : mStep mTb_ mFT ro s = oIf c s2 s3) (k1 : c = true → mWP mTb_ mFT ro s2 Q) (k2 : c = false → mWP mTb_ mFT ro s3 Q) : mWP mTb_ mFT ro s Q := mWP.fold (by rw [h]; exact ⟨k1, k2⟩)
theorem mBT {c : Bool} (h : mStep mTb_ mFT ro s = oIf c s2 s3) (hc : c = true) (k : mWP mTb_ mFT ro s2 Q) : mWP mTb_ mFT ro s Q := mBr h (fun _ => k) (fun z => by rw [hc] at z; cases z)
theorem mBF {c : Bool} (h : mStep mTb_ mFT ro s = oIf c s2 s3) (hc : c = false) (k : mWP mTb_ mFT ro s3 Q) : mWP mTb_ mFT ro s Q := mBr h (fun z => by rw [hc] at z; cases z) (fun _ => k)
theorem mRq {c : Bool} (h : mStep mTb_ mFT ro s = oReq c s2) (hc : c = true) (k : mWP mTb_ mFT ro s2 Q) : mWP mTb_ mFT ro s Q := mWP.fold (by rw [h]; exact ⟨hc, k⟩)
theorem mCall {k : Option Value → mHp → mSt} (h : mStep mTb_ mFT ro s = oCall s2 k) (g : mWP mTb_ mFT ro s2 (fun r h => mWP mTb_ mFT ro (k r h) Q)) : mWP mTb_ mFT ro s Q := mWP.fold (by rw [h]; exact g)
theorem mRt {c : Bool} {r : Option Value} {h : mHp} (e : mStep mTb_ mFT ro s = oRet c r h) (hc : c = true) (k : Q r h) : mWP mTb_ mFT ro s Q := mWP.fold (by rw [e]; exact ⟨hc, k⟩)
theorem mSwA {l : List (Bool × mSt)} (h : mStep mTb_ mFT ro s = oSw l) (k : mAll (mWP mTb_ mFT ro) Q l) : mWP mTb_ mFT ro s Q := mWP.fold (by rw [h]; exact k)
theorem mSw1 {l : List (Bool × mSt)} {t : mSt} (h : mStep mTb_ mFT ro s = oSw l) (hl : l.filter (fun q => q.1) = [(true, t)]) (k : mWP mTb_ mFT ro t Q) : mWP mTb_ mFT ro s Q := by
  refine mSwA h ?_
  have key : ∀ l : List (Bool × mSt), (∀ q ∈ l, q.1 = true → mWP mTb_ mFT ro q.2 Q) → mAll (mWP mTb_ mFT ro) Q l := by
    intro l
    induction l with
    | nil => exact fun _ => trivial
    | cons x r ih => exact fun z => ⟨fun c => z x List.mem_cons_self c, ih (fun q hq => z q (List.mem_cons_of_mem _ hq))⟩
  refine key l (fun q h1 h2 => ?_)
  have hm : q ∈ l.filter (fun q => q.1) := List.mem_filter.mpr ⟨h1, h2⟩
  rw [hl] at hm
  cases List.mem_singleton.mp hm
  exact k
theorem mRet_int {M : Nat} {v : Int32} (h : mtRet (mTb_ M) = some .int) : mRet1 mTb_ M v = true := by
  unfold mRet1
  rw [h]
  exact decide_eq_true rfl
end ST
