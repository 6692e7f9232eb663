/-! the text's tokens -/
def rowB (a b : Int32) : Int32 := if withinI a 97 122 = 1 then (if withinI b 97 122 = 1 then 1 else if withinI a 48 57 = 1 then withinI b 48 57 else 0) else if withinI a 48 57 = 1 then withinI b 48 57 else 0
def skipB (F : Nat → Int32) (n : Nat) : Nat → Nat → Nat
  | 0, i => i
  | f + 1, i => if i < n ∧ F i = 32 then skipB F n f (i + 1) else i
def endT (F : Nat → Int32) (n : Nat) (a : Int32) : Nat → Nat → Nat
  | 0, i => i
  | f + 1, i => if i < n ∧ rowB a (F i) = 1 then endT F n a f (i + 1) else i
/-- where the token behind place t begins, and the place behind it -/
def frT (F : Nat → Int32) (n t : Nat) : Nat := skipB F n (n - t) t
def teT (F : Nat → Int32) (n t : Nat) : Nat := if frT F n t < n then endT F n (F (frT F n t)) (n - (frT F n t + 1)) (frT F n t + 1) else frT F n t
theorem skipB_ge (F : Nat → Int32) (n : Nat) : ∀ f i, i ≤ skipB F n f i
  | 0, _ => Nat.le_refl _
  | f + 1, i => by
    rw [skipB]
    split
    · exact Nat.le_trans (Nat.le_succ i) (skipB_ge F n f (i + 1))
    · exact Nat.le_refl _
theorem skipB_le (F : Nat → Int32) (n : Nat) : ∀ f i, i ≤ n → skipB F n f i ≤ n
  | 0, _, h => h
  | f + 1, i, h => by
    rw [skipB]
    split
    · rename_i hc
      exact skipB_le F n f (i + 1) hc.1
    · exact h
theorem endT_ge (F : Nat → Int32) (n : Nat) (a : Int32) : ∀ f i, i ≤ endT F n a f i
  | 0, _ => Nat.le_refl _
  | f + 1, i => by
    rw [endT]
    split
    · exact Nat.le_trans (Nat.le_succ i) (endT_ge F n a f (i + 1))
    · exact Nat.le_refl _
theorem endT_le (F : Nat → Int32) (n : Nat) (a : Int32) : ∀ f i, i ≤ n → endT F n a f i ≤ n
  | 0, _, h => h
  | f + 1, i, h => by
    rw [endT]
    split
    · rename_i hc
      exact endT_le F n a f (i + 1) hc.1
    · exact h
theorem frT_le {F : Nat → Int32} {n t : Nat} (h : t ≤ n) : frT F n t ≤ n := skipB_le F n _ t h
theorem frT_ge {F : Nat → Int32} {n t : Nat} : t ≤ frT F n t := skipB_ge F n _ t
theorem teT_le {F : Nat → Int32} {n t : Nat} (h : t ≤ n) : teT F n t ≤ n := by
  rw [teT]
  split
  · rename_i hc
    exact endT_le F n _ _ _ hc
  · exact frT_le h
theorem teT_ge {F : Nat → Int32} {n t : Nat} : frT F n t ≤ teT F n t := by
  rw [teT]
  split
  · exact Nat.le_trans (Nat.le_succ _) (endT_ge F n _ _ _)
  · exact Nat.le_refl _
def saysP (F : Nat → Int32) (a b i : Nat) : Prop := b - a = sLen i ∧ ∀ j, j < sLen i → F (a + j) = sAt i j
noncomputable def cI (p : Prop) (x y : Int32) : Int32 := @ite _ p (Classical.propDecidable p) x y
theorem cI_t {p : Prop} {x y : Int32} (h : p) : cI p x y = x := if_pos h
theorem cI_f {p : Prop} {x y : Int32} (h : ¬ p) : cI p x y = y := if_neg h
noncomputable def wordW (F : Nat → Int32) (a b : Nat) : Int32 := cI (saysP F a b 0) 0 (cI (saysP F a b 1) 1 (cI (saysP F a b 2) 2 (cI (saysP F a b 3) 3 (cI (saysP F a b 4) 4 (cI (saysP F a b 5) 5 (cI (saysP F a b 6) 6 (cI (saysP F a b 7) 7 (cI (saysP F a b 8) 8 (-1)))))))))
def numG (F : Nat → Int32) : Nat → Nat → Int32 → Int32
  | 0, _, acc => acc
  | c + 1, i, acc => if withinI (F i) 48 57 = 1 then numG F c (i + 1) (10 * acc + F i - 48) else -1
def numW (F : Nat → Int32) (a b : Nat) : Int32 := if withinI (nI b - nI a) 1 2 = 1 then numG F (b - a) a 0 else -1
theorem nI_subN {a b : Nat} (h : a ≤ b) : nI b - nI a = nI (b - a) := pk_sub h
theorem withinI_01 (x a b : Int32) : withinI x a b = 0 ∨ withinI x a b = 1 := by
  unfold withinI
  split
  · exact Or.inr rfl
  · exact Or.inl rfl
theorem sLen_le : ∀ i, i < 9 → sLen i ≤ 7 := by decide
