/-! the model's small helpers -/
theorem toI64_lt {x a : Int32} : Int32.toInt64 x < Int32.toInt64 a ↔ x < a := by
  rw [Int64.lt_iff_toInt_lt, Int32.toInt_toInt64, Int32.toInt_toInt64, ← Int32.lt_iff_toInt_lt]
theorem lgc_lt {x a : Int32} : lg_cmp (Int32.toInt64 x) (Int32.toInt64 a) < 0 ↔ x < a := (lg_cmp_lt _ _).trans toI64_lt
theorem lgc_gt {x a : Int32} : 0 < lg_cmp (Int32.toInt64 x) (Int32.toInt64 a) ↔ a < x := (lg_cmp_gt _ _).trans toI64_lt
def putH (n : Nat) (f : Nat → Int32) (hf : Nat) (g : Nat → Int32) : Nat → Int32 := fun j => if n * hf ≤ j ∧ j < n * hf + n then g (j - n * hf) else f j
def hereW (F : Nat → Int32) (n t : Nat) : Int32 := if frT F n t < n then F (frT F n t) else -1
