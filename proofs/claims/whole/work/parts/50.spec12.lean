/-! the model's past -/
def shR (ρ : Nat → MR) (k : Nat) : Nat → MR := fun j => if 4 ≤ j ∧ j < 4 + k then ρ (j + 1) else ρ j
def remR (ρ : Nat → MR) (u : Nat) : Nat → MR := if u = 8 then va_up (shR ρ 7) 11 (ρ 0) else va_up ρ (4 + u) (ρ 0)
theorem shR_0 (ρ : Nat → MR) : shR ρ 0 = ρ := by
  funext j
  rw [shR, if_neg (by omega)]
theorem shR_s (ρ : Nat → MR) (k : Nat) : va_up (shR ρ k) (4 + k) (shR ρ k (5 + k)) = shR ρ (k + 1) := by
  funext j
  by_cases h : j = 4 + k
  · rw [h, va_up_self, shR, shR, if_neg (by omega), if_pos (by omega)]
    rw [show 5 + k = 4 + k + 1 by omega]
  · rw [va_up_ne _ _ h, shR, shR]
    by_cases h2 : 4 ≤ j ∧ j < 4 + k
    · rw [if_pos h2, if_pos (by omega)]
    · rw [if_neg h2, if_neg (by omega)]
theorem remR_8 (ρ : Nat → MR) : va_up (shR ρ 7) 11 (shR ρ 7 0) = remR ρ 8 := by
  rw [remR, if_pos rfl, show shR ρ 7 0 = ρ 0 from rfl]
theorem remR_u {ρ : Nat → MR} {u : Nat} (h : ¬ u = 8) : va_up ρ (4 + u) (ρ 0) = remR ρ u := by rw [remR, if_neg h]
theorem remR_lo {ρ : Nat → MR} {u j : Nat} (h : j < 4) : remR ρ u j = ρ j := by
  unfold remR
  split
  · rw [va_up_ne _ _ (by omega), shR, if_neg (by omega)]
  · rw [va_up_ne _ _ (by omega)]
theorem one_bit (x : Int32) (k : Nat) : (if boolI (hasI x k) = 0 then (0 : Int32) else 1) = ((x >>> (nI k &&& 31)) &&& 1) := by
  obtain ⟨j, hj, e⟩ := pk_andE (x >>> (nI k &&& 31)) (m := 1) 1 (by decide)
  rw [e]
  by_cases h : hasI x k
  · rw [boolI_t h, if_neg (by decide)]
    have h2 : (x >>> (nI k &&& 31)) &&& 1 = 1 := h
    rw [← e, h2]
  · rw [boolI_f h, if_pos rfl]
    have h2 : ¬ (x >>> (nI k &&& 31)) &&& 1 = 1 := h
    rcases (show j = 0 ∨ j = 1 by omega) with rfl | rfl
    · rfl
    · exact absurd e h2
theorem mW_pl0 {ρ : Nat → MR} {k : Nat} {pl : Nat → Int32} {s : NS} (hR : ρ 0 = (pl, s)) (hk : k < 6) : mW ρ k = pl k := by
  have h := mW_pl (ρ := ρ) (i := 0) hR hk
  rwa [show 16 * 0 + k = k by omega] at h
theorem mW_plu {ρ : Nat → MR} {i k : Nat} {v : Int32} {pl : Nat → Int32} {s : NS} (hR : ρ i = (pl, s)) (hk : k < 6) (j : Nat) : upd (mW ρ) (16 * i + k) v j = mW (va_up ρ i (upd pl k v, s)) j := by
  refine mW_upd hR (by omega) ?_ ?_ j
  · rw [cell_pl hk]; exact pk_us
  · intro q hq hne
    unfold cellR
    by_cases h6 : q < 6
    · rw [if_pos h6, if_pos h6]; exact pk_un hne
    · rw [if_neg h6, if_neg h6]
/-- places turned round -/
def wPl (m n : Nat) (pl : Nat → Int32) : Nat → Int32 := fun k => if k < n then nI m - 1 - pl k else pl k
theorem wPl_s (m n : Nat) (pl : Nat → Int32) (j : Nat) : upd (wPl m n pl) n (nI m - 1 - wPl m n pl n) j = wPl m (n + 1) pl j := by
  by_cases h : j = n
  · rw [h, pk_us, wPl, if_neg (Nat.lt_irrefl _), wPl, if_pos (Nat.lt_succ_self _)]
  · rw [pk_un h, wPl, wPl]
    by_cases h2 : j < n
    · rw [if_pos h2, if_pos (by omega)]
    · rw [if_neg h2, if_neg (by omega)]
theorem mW_plr {ρ : Nat → MR} {i : Nat} {pl pl2 : Nat → Int32} {s : NS} (h : ∀ j, j < 6 → pl j = pl2 j) (j : Nat) : mW (va_up ρ i (pl, s)) j = mW (va_up ρ i (pl2, s)) j := mW_row (R := (pl, s)) (R2 := (pl2, s)) (row_of h (fun _ _ => rfl) rfl rfl rfl rfl rfl rfl) j
/-! the model's orders -/
theorem has_in {x : Int32} {k : Nat} : boolI (hasI x k) = 0 ↔ ¬ (x >>> (nI k &&& 31)) &&& 1 = 1 := by
  constructor
  · intro h h2
    rw [boolI_t (show hasI x k from h2)] at h
    exact absurd h (by decide)
  · intro h
    exact boolI_f h
theorem otherC_stop {ρ : Nat → Nat} {p o : Nat} (h : ¬ ρ o < ρ p) (ho : 0 < o) : otherC ρ p o = o := by
  obtain ⟨d, rfl⟩ : ∃ d, o = d + 1 := ⟨o - 1, by omega⟩
  rw [otherC, if_neg (fun h9 => h h9.2)]
theorem pivotC_up {ρ : Nat → Nat} : ∀ {c p : Nat}, pivotC ρ c = p + 1 → ρ p ≤ ρ (p + 1)
  | 0, p, h => absurd h (by rw [pivotC]; omega)
  | c + 1, p, h => by
    rw [pivotC] at h
    split at h
    · exact pivotC_up h
    · rename_i hc
      have e : c = p := by omega
      rw [← e]
      omega
