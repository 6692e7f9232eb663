/-! rows of shops: the first of a set, the next -/
def hasI (x : Int32) (k : Nat) : Prop := (x >>> (nI k &&& 31)) &&& 1 = 1
def fillW (x : Int32) (ρ : Nat → Nat) : Nat → Nat × (Nat → Nat)
  | 0 => (0, ρ)
  | j + 1 => if (x >>> (nI j &&& 31)) &&& 1 = 1 then ((fillW x ρ j).1 + 1, va_up (fillW x ρ j).2 (fillW x ρ j).1 j) else fillW x ρ j
theorem fillW_le (x : Int32) (ρ : Nat → Nat) : ∀ j, (fillW x ρ j).1 ≤ j
  | 0 => Nat.le_refl _
  | j + 1 => by
    have := fillW_le x ρ j
    rw [fillW]
    split
    · exact Nat.succ_le_succ this
    · omega
theorem fillW_in (x : Int32) (ρ : Nat → Nat) : ∀ j i, i < (fillW x ρ j).1 → (fillW x ρ j).2 i < j ∧ hasI x ((fillW x ρ j).2 i)
  | 0, i, h => absurd h (Nat.not_lt_zero _)
  | j + 1, i, h => by
    rw [fillW] at h ⊢
    split at h
    · rename_i hc
      rw [if_pos hc]
      by_cases hi : i = (fillW x ρ j).1
      · subst hi
        show va_up (fillW x ρ j).2 (fillW x ρ j).1 j (fillW x ρ j).1 < j + 1 ∧ hasI x (va_up (fillW x ρ j).2 (fillW x ρ j).1 j (fillW x ρ j).1)
        rw [va_up_self]
        exact ⟨Nat.lt_succ_self j, hc⟩
      · show va_up (fillW x ρ j).2 (fillW x ρ j).1 j i < j + 1 ∧ hasI x (va_up (fillW x ρ j).2 (fillW x ρ j).1 j i)
        rw [va_up_ne _ _ hi]
        have := fillW_in x ρ j i (by have h9 : i < (fillW x ρ j).1 + 1 := h; omega)
        exact ⟨by omega, this.2⟩
    · rename_i hc
      rw [if_neg hc]
      have := fillW_in x ρ j i h
      exact ⟨by omega, this.2⟩
def pivotC (ρ : Nat → Nat) : Nat → Nat
  | 0 => 0
  | c + 1 => if ρ (c + 1) < ρ c then pivotC ρ c else c + 1
def otherC (ρ : Nat → Nat) (p : Nat) : Nat → Nat
  | 0 => 0
  | o + 1 => if p + 1 < o + 1 ∧ ρ (o + 1) < ρ p then otherC ρ p o else o + 1
def swapR (ρ : Nat → Nat) (i j : Nat) : Nat → Nat := va_up (va_up ρ i (ρ j)) j (ρ i)
def revR : Nat → (Nat → Nat) → Nat → Nat → (Nat → Nat)
  | 0, ρ, _, _ => ρ
  | f + 1, ρ, lo, hi => if lo < hi then revR f (swapR ρ lo hi) (lo + 1) (hi - 1) else ρ
def nextR (ρ : Nat → Nat) (n p : Nat) : Nat → Nat := revR n (swapR ρ p (otherC ρ p (n - 1))) (p + 1) (n - 1)
theorem swapR_out {ρ : Nat → Nat} {i j x : Nat} (h1 : x ≠ i) (h2 : x ≠ j) : swapR ρ i j x = ρ x := by rw [swapR, va_up_ne _ _ h2, va_up_ne _ _ h1]
theorem swapR_in {ρ : Nat → Nat} {i j n m : Nat} (hi : i < n) (hj : j < n) (h : ∀ x, x < n → ρ x < m) : ∀ x, x < n → swapR ρ i j x < m := by
  intro x hx
  rw [swapR]
  by_cases h2 : x = j
  · rw [h2, va_up_self]; exact h i hi
  · rw [va_up_ne _ _ h2]
    by_cases h1 : x = i
    · rw [h1, va_up_self]; exact h j hj
    · rw [va_up_ne _ _ h1]; exact h x hx
theorem revR_out : ∀ (f : Nat) (ρ : Nat → Nat) (lo hi x : Nat), x < lo → revR f ρ lo hi x = ρ x
  | 0, _, _, _, _, _ => rfl
  | f + 1, ρ, lo, hi, x, h => by
    rw [revR]
    split
    · rw [revR_out f _ _ _ _ (by omega), swapR_out (by omega) (by omega)]
    · rfl
theorem revR_in {m n : Nat} : ∀ (f : Nat) (ρ : Nat → Nat) (lo hi : Nat), hi < n → (∀ x, x < n → ρ x < m) → ∀ x, x < n → revR f ρ lo hi x < m
  | 0, _, _, _, _, h, x, hx => h x hx
  | f + 1, ρ, lo, hi, hh, h, x, hx => by
    rw [revR]
    split
    · exact revR_in f _ _ _ (by omega) (swapR_in (by omega) hh h) x hx
    · exact h x hx
theorem pivotC_le (ρ : Nat → Nat) : ∀ c, pivotC ρ c ≤ c
  | 0 => Nat.le_refl _
  | c + 1 => by
    have := pivotC_le ρ c
    rw [pivotC]
    split <;> omega
theorem otherC_le (ρ : Nat → Nat) (p : Nat) : ∀ o, otherC ρ p o ≤ o
  | 0 => Nat.le_refl _
  | o + 1 => by
    have := otherC_le ρ p o
    rw [otherC]
    split <;> omega
theorem otherC_gt (ρ : Nat → Nat) (p : Nat) : ∀ o, p < o → p < otherC ρ p o
  | 0, h => h
  | o + 1, h => by
    rw [otherC]
    split
    · rename_i hc
      exact otherC_gt ρ p o (by omega)
    · exact h
theorem nextR_low {ρ : Nat → Nat} {n p : Nat} (hp : p < n - 1) {x : Nat} (hx : x < p) : nextR ρ n p x = ρ x := by
  have := otherC_gt ρ p (n - 1) hp
  rw [nextR, revR_out _ _ _ _ _ (by omega), swapR_out (by omega) (by omega)]
theorem nextR_in {ρ : Nat → Nat} {n p m : Nat} (hp : p < n - 1) (h : ∀ x, x < n → ρ x < m) : ∀ x, x < n → nextR ρ n p x < m := by
  have := otherC_le ρ p (n - 1)
  exact revR_in n _ _ _ (by omega) (swapR_in (by omega) (by omega) h)
/-- numbers below by one -/
def pI (c : Nat) : Int32 := nI c - 1
theorem pI_s (c : Nat) : pI (c + 1) = nI c := by
  show nI (c + 1) - 1 = nI c
  exact nI_pred c
theorem pI_dec (c : Nat) : pI (c + 1) + (-1) = pI c := by
  rw [pI_s]; exact (Int32.sub_eq_add_neg _ _).symm
theorem pI_m2 (c : Nat) : nI (c + 1) - 2 = pI c := by
  rw [nI_succ, pI]
  have : ∀ x : Int32, x + 1 - 2 = x - 1 := by
    intro x
    rw [Int32.sub_eq_add_neg, Int32.add_assoc, Int32.sub_eq_add_neg]
    exact congrArg (x + ·) (by decide)
  exact this _
theorem pI_0 : pI 0 < 0 := by decide
theorem pI_neg {c : Nat} (hc : c < 2 ^ 30) : pI c < 0 ↔ c = 0 := by
  cases c with
  | zero => exact ⟨fun _ => rfl, fun _ => pI_0⟩
  | succ c =>
    rw [pI_s]
    exact ⟨fun h => absurd h (nI_pos (by omega)), fun h => by omega⟩
theorem inc_m1 (c : Nat) : nI c + Int32.ofInt (-1) = pI c := by
  rw [show Int32.ofInt (-1) = -1 from by decide]
  exact (Int32.sub_eq_add_neg _ _).symm
