/-! the model's reader: runs of letters and of figures -/
def runE (F : Nat → Int32) (n : Nat) (a b : Int32) : Nat → Nat → Nat
  | 0, i => i
  | f + 1, i => if i < n ∧ withinI (F i) a b = 1 then runE F n a b f (i + 1) else i
theorem runE_ge (F : Nat → Int32) (n : Nat) (a b : Int32) : ∀ f i, i ≤ runE F n a b f i
  | 0, _ => Nat.le_refl _
  | f + 1, i => by
    rw [runE]
    split
    · exact Nat.le_trans (Nat.le_succ i) (runE_ge F n a b f (i + 1))
    · exact Nat.le_refl _
theorem runE_le (F : Nat → Int32) (n : Nat) (a b : Int32) : ∀ f i, i ≤ n → runE F n a b f i ≤ n
  | 0, _, h => h
  | f + 1, i, h => by
    rw [runE]
    split
    · rename_i hc
      exact runE_le F n a b f (i + 1) hc.1
    · exact h
theorem runE_in (F : Nat → Int32) (n : Nat) (a b : Int32) : ∀ f i j, i ≤ j → j < runE F n a b f i → withinI (F j) a b = 1
  | 0, i, j, h1, h2 => absurd h2 (by rw [runE]; omega)
  | f + 1, i, j, h1, h2 => by
    rw [runE] at h2
    split at h2
    · rename_i hc
      by_cases hj : j = i
      · rw [hj]; exact hc.2
      · exact runE_in F n a b f (i + 1) j (by omega) h2
    · omega
theorem small_nd {x : Int32} (h : withinI x 97 122 = 1) : withinI x 48 57 = 0 := by
  unfold withinI at h ⊢
  split at h
  · rename_i hc
    refine if_neg (fun hd => ?_)
    exact absurd (Int32.le_trans hc.1 hd.2) (by decide)
  · exact absurd h (by decide)
theorem dig_ns {x : Int32} (h : withinI x 48 57 = 1) : withinI x 97 122 = 0 := by
  rcases withinI_01 x 97 122 with g | g
  · exact g
  · exact absurd ((small_nd g).symm.trans h) (by decide)
theorem rowB_small {x z : Int32} (h : withinI x 97 122 = 1) : rowB x z = 1 ↔ withinI z 97 122 = 1 := by
  unfold rowB
  rw [if_pos h, small_nd h, if_neg (by decide : ¬ (0 : Int32) = 1)]
  rcases withinI_01 z 97 122 with g | g <;> rw [g] <;> decide
theorem rowB_dig {x z : Int32} (h : withinI x 48 57 = 1) : rowB x z = 1 ↔ withinI z 48 57 = 1 := by
  unfold rowB
  rw [dig_ns h, if_neg (by decide), if_pos h]
theorem endT_small {F : Nat → Int32} {n : Nat} {x : Int32} (h : withinI x 97 122 = 1) : ∀ f i, endT F n x f i = runE F n 97 122 f i
  | 0, _ => rfl
  | f + 1, i => by
    rw [endT, runE, endT_small h f (i + 1)]
    by_cases g : i < n ∧ withinI (F i) 97 122 = 1
    · rw [if_pos g, if_pos ⟨g.1, (rowB_small h).mpr g.2⟩]
    · rw [if_neg g, if_neg (fun q => g ⟨q.1, (rowB_small h).mp q.2⟩)]
theorem endT_dig {F : Nat → Int32} {n : Nat} {x : Int32} (h : withinI x 48 57 = 1) : ∀ f i, endT F n x f i = runE F n 48 57 f i
  | 0, _ => rfl
  | f + 1, i => by
    rw [endT, runE, endT_dig h f (i + 1)]
    by_cases g : i < n ∧ withinI (F i) 48 57 = 1
    · rw [if_pos g, if_pos ⟨g.1, (rowB_dig h).mpr g.2⟩]
    · rw [if_neg g, if_neg (fun q => g ⟨q.1, (rowB_dig h).mp q.2⟩)]
theorem teT_small {F : Nat → Int32} {n t : Nat} (h1 : frT F n t < n) (h : withinI (F (frT F n t)) 97 122 = 1) : teT F n t = runE F n 97 122 (n - frT F n t) (frT F n t) := by
  rw [teT, if_pos h1, endT_small h, show n - frT F n t = (n - (frT F n t + 1)) + 1 by omega, runE, if_pos ⟨h1, h⟩]
theorem teT_dig {F : Nat → Int32} {n t : Nat} (h1 : frT F n t < n) (h : withinI (F (frT F n t)) 48 57 = 1) : teT F n t = runE F n 48 57 (n - frT F n t) (frT F n t) := by
  rw [teT, if_pos h1, endT_dig h, show n - frT F n t = (n - (frT F n t + 1)) + 1 by omega, runE, if_pos ⟨h1, h⟩]
/-- where the figures behind the blanks end -/
def dgE (F : Nat → Int32) (n t : Nat) : Nat := runE F n 48 57 (n - frT F n t) (frT F n t)
def lwE (F : Nat → Int32) (n t : Nat) : Nat := runE F n 97 122 (n - frT F n t) (frT F n t)
theorem numG_nd {F : Nat → Int32} {c i : Nat} {x : Int32} (h : withinI (F i) 48 57 = 0) : numG F (c + 1) i x = -1 := by
  rw [numG, if_neg (by rw [h]; decide)]
theorem low_m1 {lo : Nat} {hi : Int32} (h : lo < 2 ^ 30) : withinI (-1) (nI lo) hi = 0 :=
  within0a (Int32.lt_of_lt_of_le (by decide : (-1 : Int32) < 0) (nI_pos' (by omega)))
/-- what is no number of one or two figures is in no bounds -/
theorem take_bad {F : Nat → Int32} {n t j lo : Nat} {hi : Int32} (ht : t ≤ n) (hn : n ≤ 160) (hlo : lo < 2 ^ 30) (he : dgE F n t = frT F n t + j) (h : withinI (nI j) 1 2 = 0) : withinI (numW F (frT F n t) (teT F n t)) (nI lo) hi = 0 := by
  have hfr := frT_le (F := F) ht
  have hte := teT_le (F := F) ht
  have hge := teT_ge (F := F) (n := n) (t := t)
  by_cases h1 : frT F n t < n ∧ withinI (F (frT F n t)) 48 57 = 1
  · have e := teT_dig h1.1 h1.2
    have e2 : teT F n t = frT F n t + j := e.trans he
    rw [numW, e2, nI_subN (by omega), Nat.add_sub_cancel_left, if_neg (by rw [h]; decide)]
    exact low_m1 hlo
  · rw [numW]
    split
    · rename_i hw
      by_cases h2 : frT F n t < n
      · have h3 : withinI (F (frT F n t)) 48 57 = 0 := (withinI_01 _ _ _).resolve_right (fun q => h1 ⟨h2, q⟩)
        have h4 : teT F n t - frT F n t ≠ 0 := fun q => by
          rw [nI_subN hge, q] at hw
          exact absurd hw (by decide)
        obtain ⟨c, hc⟩ : ∃ c, teT F n t - frT F n t = c + 1 := ⟨teT F n t - frT F n t - 1, by omega⟩
        rw [hc, numG_nd h3]
        exact low_m1 hlo
      · rw [nI_subN hge, show teT F n t - frT F n t = 0 by rw [teT, if_neg h2]; omega] at hw
        exact absurd hw (by decide)
    · exact low_m1 hlo
theorem take_num {F : Nat → Int32} {n t j : Nat} {v : Int32} (ht : t ≤ n) (hn : n ≤ 160) (he : dgE F n t = frT F n t + j) (h : withinI (nI j) 1 2 = 1) (hv : v = numG F j (frT F n t) 0) : numW F (frT F n t) (teT F n t) = v ∧ teT F n t = frT F n t + j := by
  have hfr := frT_le (F := F) ht
  have hj : j ≠ 0 := fun q => by rw [q] at h; exact absurd h (by decide)
  have h1 : frT F n t < n ∧ withinI (F (frT F n t)) 48 57 = 1 := by
    refine ⟨?_, runE_in F n 48 57 (n - frT F n t) (frT F n t) _ (Nat.le_refl _) (by have h9 : runE F n 48 57 (n - frT F n t) (frT F n t) = frT F n t + j := he; omega)⟩
    have h8 : dgE F n t ≤ n := runE_le F n 48 57 _ _ hfr
    omega
  have e2 : teT F n t = frT F n t + j := (teT_dig h1.1 h1.2).trans he
  refine ⟨?_, e2⟩
  rw [numW, e2, nI_subN (by omega), Nat.add_sub_cancel_left, if_pos h, hv]
/-- letters as a number of base 27 -/
def vG (F : Nat → Int32) (i : Nat) : Nat → Int32
  | 0 => 0
  | j + 1 => 27 * vG F i j + F (i + j) - 96
def wvW (F : Nat → Int32) (i L : Nat) : Int32 := if 7 < L then 0 else if L = 7 then - vG F i 6 else vG F i L
def wofI (a b c d e f : Int32) : Int32 := if f = 0 then (if e = 0 then 27 * (27 * (27 * (a - 96) + b - 96) + c - 96) + d - 96 else 27 * (27 * (27 * (27 * (a - 96) + b - 96) + c - 96) + d - 96) + e - 96) else 27 * (if e = 0 then 27 * (27 * (27 * (a - 96) + b - 96) + c - 96) + d - 96 else 27 * (27 * (27 * (27 * (a - 96) + b - 96) + c - 96) + d - 96) + e - 96) + f - 96
def badW (F : Nat → Int32) (n t lo : Nat) (hi : Int32) : Int32 := if withinI (numW F (frT F n t) (teT F n t)) (nI lo) hi = 1 then 0 else 1
theorem dig_small : ∀ k, k < 58 → (10 * (0 : Int32) + nI k - 48) ≤ 999 := by decide +kernel
theorem dig_le {x : Int32} (h : withinI x 48 57 = 1) : (10 * (0 : Int32) + x - 48) ≤ 999 := by
  obtain ⟨k, h1, h2, rfl⟩ := withinN_of (lo := 48) (hi := 57) (by omega) (by omega) h
  exact dig_small k (by omega)
def kindW (v last : Int32) : Int32 := if v = 8740238 then 0 else if v = 271712 then 1 else if v = 51140948 then 2 else if v = -209256062 ∧ last = 103 then 3 else -1
