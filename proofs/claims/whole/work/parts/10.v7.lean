section
variable {E : vEnv} {l : Launch} {y : MethodName} {cc : ByteArray} {nL : Nat} {ret : Option FieldType} {R : Room} {Z : List Frame → Array Value → State → State → Prop} {L : List Nat} {h : Nat → va_E} {k n : Nat} {vw : List (Nat × va_E)} {pc : Nat} {lv : List (Nat × Value)} {st : List Value}
theorem V.topc {x v : Int32} (e : x = v) (kk : V E l y cc nL ret R Z L h k n vw pc lv (.int v :: st)) : V E l y cc nL ret R Z L h k n vw pc lv (.int x :: st) := e ▸ kk
theorem V.view {vw2 : List (Nat × va_E)} {L2 : List Nat} (e : vw = vw2) (e2 : L = L2) (kk : V E l y cc nL ret R Z L2 h k n vw2 pc lv st) : V E l y cc nL ret R Z L h k n vw pc lv st := by
  subst e; subst e2; exact kk
theorem V.locals2 {lv2 : List (Nat × Value)} (e : lv = lv2) (kk : V E l y cc nL ret R Z L h k n vw pc lv2 st) : V E l y cc nL ret R Z L h k n vw pc lv st := e ▸ kk
end
theorem vin {i : Int32} {n : Nat} (h : (decide (i < 0) || decide (n ≤ i.toNatClampNeg)) = false) : vp_in i n := by
  intro hh
  rcases hh with hh | hh
  · simp [hh] at h
  · simp [hh] at h
theorem vinI {i n : Nat} (h : i < n) (hn : n < 2 ^ 31 := by omega) : vp_in (nI i) n := vp_in_nI h hn
/-! pure words for small methods -/
def heldI (x : Int32) : Int32 := if 0 < (if x < 99 then x else 99) then (if x < 99 then x else 99) else 0
def withinI (x a b : Int32) : Int32 := if a ≤ x ∧ x ≤ b then 1 else 0
def stepT (t r : Nat → Int32) (n : Int32) : Nat → Int32 := upd (upd (upd (upd t 0 (heldI (t 0 - n * r 0))) 1 (heldI (t 1 - n * r 1))) 2 (heldI (t 2 - n * r 2))) 3 (heldI (t 3 - n * r 3))
theorem within0a {x a b : Int32} (c : x < a) : withinI x a b = 0 := if_neg (fun h => absurd h.1 (Int32.not_le.mpr c))
theorem within0b {x a b : Int32} (c : b < x) : withinI x a b = 0 := if_neg (fun h => absurd h.2 (Int32.not_le.mpr c))
theorem within1 {x a b : Int32} (c : ¬ x < a) (d : ¬ b < x) : withinI x a b = 1 := if_pos ⟨Int32.not_lt.mp c, Int32.not_lt.mp d⟩
