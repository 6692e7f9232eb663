theorem VK.take {L : List Nat} {vw : List (Nat × va_E)} {q : Nat × va_E} (h : VK L (vw ++ [q])) : VK L vw ∧ q.1 ∈ L ∧ q.1 ∉ vw.map Prod.fst := by
  have h2 := h.2
  rw [List.map_append, List.nodup_append] at h2
  exact ⟨⟨fun x hx => h.1 x (List.mem_append_left _ hx), h2.1⟩, h.1 q (List.mem_append_right _ (List.mem_singleton.mpr rfl)), fun hm => h2.2.2 _ hm q.1 (by simp) rfl⟩
section
variable {E : vEnv} {l : Launch} {y : MethodName} {cc : ByteArray} {nL : Nat} {ret : Option FieldType} {R : Room} {Z : List Frame → Array Value → State → State → Prop} {L : List Nat} {h : Nat → va_E} {k n : Nat} {vw : List (Nat × va_E)} {pc : Nat} {lv : List (Nat × Value)} {st : List Value}
/-- a cell that the heap behind has anyway is looked away from -/
theorem V.unsee {a : Nat} {e : va_E} (hh : h a = e) (kk : V E l y cc nL ret R Z L h k n vw pc lv st) : V E l y cc nL ret R Z L h k n (vw ++ [(a, e)]) pc lv st := by
  intro hv p e1 s m args below meth c H locs ls hX hW hS hl
  obtain ⟨h1, h2, h3⟩ := hv.take
  refine kk h1 p e1 s m args below meth c H locs ls hX ?_ hS hl
  have e0 : ov (vw ++ [(a, e)]) h = ov vw h := by
    rw [ov_app h3]
    funext j
    simp only [va_up]
    by_cases hj : j = a
    · rw [if_pos hj, hj, ov_out h3, hh]
    · rw [if_neg hj]
  rw [e0] at hW
  exact hW
end
abbrev SHP : Type := Nat × Nat × Int32 × Int32
abbrev shC (s : SHP) : va_E := ob (kci s.1) [.int (nI s.2.1), .int s.2.2.1, .int s.2.2.2]
/-- the shops 0 .. m-1 that a row of references tells, behind the cells ks -/
def ShopsAt (L ks : List Nat) (m : Nat) (wf : Nat → Option Nat) (sf : Nat → SHP) (h : Nat → va_E) : Prop := ∀ k, k < m → ∃ q, wf k = some q ∧ q ∈ L ∧ q ∉ ks ∧ h q = shC (sf k) ∧ (sf k).1 < 4 ∧ (sf k).2.1 < 4
theorem ShopsAt.mono {L ks ks2 : List Nat} {m : Nat} {wf : Nat → Option Nat} {sf : Nat → SHP} {h : Nat → va_E} (H : ShopsAt L ks m wf sf h) (hs : ∀ a ∈ ks2, a ∈ ks) : ShopsAt L ks2 m wf sf h := fun k hk => by
  obtain ⟨q, h1, h2, h3, h4⟩ := H k hk
  exact ⟨q, h1, h2, fun hm => h3 (hs q hm), h4⟩
theorem ShopsAt.over {L ks : List Nat} {m : Nat} {wf : Nat → Option Nat} {sf : Nat → SHP} {h : Nat → va_E} {vw : List (Nat × va_E)} (H : ShopsAt L ks m wf sf h) (hs : ∀ a ∈ vw.map Prod.fst, a ∈ ks) : ShopsAt L ks m wf sf (ov vw h) := fun k hk => by
  obtain ⟨q, h1, h2, h3, h4, h5⟩ := H k hk
  exact ⟨q, h1, h2, h3, by rw [ov_out (fun hm => h3 (hs q hm))]; exact h4, h5⟩
noncomputable def boolI (p : Prop) : Int32 := @ite _ p (Classical.propDecidable p) 1 0
theorem boolI_t {p : Prop} (h : p) : boolI p = 1 := if_pos h
theorem boolI_f {p : Prop} (h : ¬ p) : boolI p = 0 := if_neg h
theorem boolI_01 (p : Prop) : boolI p = 0 ∨ boolI p = 1 := by
  by_cases h : p
  · exact Or.inr (boolI_t h)
  · exact Or.inl (boolI_f h)
def tiredBy (κ so : Nat) (ti : Int32) : Nat → Int32
  | 0 => 0
  | n + 1 => heldI (tiredBy κ so ti n + tiringI κ (nI so) (nI so) ti)
def behindI (s : SHP) (ti : Int32) (v : Nat) : Int32 := smeltI s.1 s.2.2.1 (tiredBy s.1 s.2.1 ti v) 0
/-- the told i fits, were the tire of a sort so -/
def tellFits (sf : Nat → SHP) (tk tv : Nat → Nat) (ts : Nat → Int32) (so : Int32) (ti : Int32) (i : Nat) : Prop := nI (sf (tk i)).2.1 = so → behindI (sf (tk i)) ti (tv i) = ts i
theorem sw_out {x : Int32} (n : Nat) (hn : n < 2 ^ 30) (h : ∀ j, j < n + 1 → x ≠ nI j) : x.toInt < 0 ∨ (n : Int) < x.toInt := by
  by_cases h0 : x < 0
  · left
    have := Int32.lt_iff_toInt_lt.mp h0
    simpa using this
  · right
    obtain ⟨j, hj, rfl⟩ := nI_of h0
    rw [nI_toInt hj]
    by_cases hjn : j < n + 1
    · exact absurd rfl (h j hjn)
    · omega
