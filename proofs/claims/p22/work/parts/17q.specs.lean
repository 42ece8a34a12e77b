/-! What the changing calls do to a site, to the bounds, to THE TEXT: the same functions for both sides. -/
abbrev kOk (v : Int32) : Prop := 1 ≤ v.toInt ∧ v.toInt ≤ 99
abbrev kEi (w : Int32) : Prop := w.toInt = 0 ∨ w.toInt = 1
def kPut (g : Nat → Int32) (J : Nat) (v : Int32) : Nat → Int32 := fun j => if j = J then v else g j
theorem kPut_e {I : Nat → Nat → Int32} {c J : Nat} {v : Int32} : mUp I c J v c = kPut (I c) J v := by
  funext j
  unfold mUp kPut
  rw [if_pos rfl]
-- span, layer
def kAdR (n : Int32) (N : Int) (v : Int32) : Int32 := if kOk v then (if n.toInt < N then n else -4) else -2
def kAdN (n : Int32) (N : Int) (v : Int32) : Int32 := if kOk v ∧ n.toInt < N then n + 1 else n
def kAdF (n : Int32) (N : Int) (v : Int32) (f : Nat → Int32) : Nat → Int32 := if kOk v ∧ n.toInt < N then kPut f n.toNatClampNeg v else f
section AD
variable {n v : Int32} {N : Int} {f : Nat → Int32}
theorem kAd0 (h : ¬ kOk v) : -2 = kAdR n N v ∧ n = kAdN n N v ∧ f = kAdF n N v f := by
  unfold kAdR kAdN kAdF
  rw [if_neg h, if_neg (fun z => h z.1), if_neg (fun z => h z.1)]
  exact ⟨rfl, rfl, rfl⟩
theorem kAd1 (h : kOk v) (g : ¬ n.toInt < N) : -4 = kAdR n N v ∧ n = kAdN n N v ∧ f = kAdF n N v f := by
  unfold kAdR kAdN kAdF
  rw [if_pos h, if_neg g, if_neg (fun z => g z.2), if_neg (fun z => g z.2)]
  exact ⟨rfl, rfl, rfl⟩
theorem kAd2 (h : kOk v) (g : n.toInt < N) : n + 1 - 1 = kAdR n N v ∧ n + 1 = kAdN n N v ∧ kPut f n.toNatClampNeg v = kAdF n N v f := by
  unfold kAdR kAdN kAdF
  rw [if_pos h, if_pos g, if_pos ⟨h, g⟩, if_pos ⟨h, g⟩]
  exact ⟨Int32.add_sub_cancel _ _, rfl, rfl⟩
end AD
-- points
def kPoR (s v : Int32) : Int32 := if kEi v then s else -2
def kPoN (s v : Int32) : Int32 := if kEi v then v else s
-- sets
abbrev kIn (w z : Int) (k n v : Int32) : Prop := w = z ∧ 0 ≤ k.toInt ∧ k.toInt < n.toInt ∧ kOk v
def kSeR (ns nl : Int32) (f g : Nat → Int32) (w k v : Int32) : Int32 := if kIn w.toInt 0 k ns v then f k.toNatClampNeg else if kIn w.toInt 1 k nl v then g k.toNatClampNeg else -2
def kSeF (z : Int) (n : Int32) (f : Nat → Int32) (w k v : Int32) : Nat → Int32 := if kIn w.toInt z k n v then kPut f k.toNatClampNeg v else f
-- empties
def kEmR (ns nl w : Int32) : Int32 := if w.toInt = 0 then ns else if w.toInt = 1 then nl else -2
def kEmN (z : Int) (n w : Int32) : Int32 := if w.toInt = z then 0 else n
-- bound
abbrev kBo (w a b : Int32) : Prop := kEi w ∧ 0 ≤ a.toInt ∧ a.toInt ≤ 99 ∧ kOk b
def kBoF (f : Nat → Int32) (w a b : Int32) : Nat → Int32 := if kBo w a b then (if w.toInt = 0 then kPut (kPut f 0 a) 1 b else kPut (kPut f 2 a) 3 b) else f
-- type
def kTyF (n c : Int32) (f : Nat → Int32) : Nat → Int32 := if 0 ≤ c.toInt ∧ c.toInt ≤ 127 ∧ n.toInt < 120 then kPut f n.toNatClampNeg c else f
