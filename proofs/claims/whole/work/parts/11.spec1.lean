/-! what the small methods do, as functions of numbers -/
def kci (κ : Nat) : Nat := if κ = 0 then 5 else if κ = 1 then 2 else if κ = 2 then 0 else 4
def tirePl (so tf ti : Int32) : Int32 := if tf = so then ti else if tf = (so + 1) - (so + 1) / 4 * 4 then ti / 2 else 0
def tiringI (κ : Nat) (so tf ti : Int32) : Int32 := if κ = 0 then tirePl so tf ti else if κ = 1 then tirePl so tf ti + 2 else if κ = 2 then -10 else 0
def smeltPl (sg td cb : Int32) : Int32 := if cb = 0 then (if 0 < sg - td then sg - td else 0) else (if 0 < sg - td then sg - td else 0) / 2
def smeltI (κ : Nat) (sg td cb : Int32) : Int32 := if κ = 3 then 3 else smeltPl sg td cb
def kindI (κ : Nat) : Int32 := if κ = 0 then 0 else if κ = 1 then 1 else if κ = 2 then 2 else 3
theorem rf_some {f : Nat → Option Nat} {j q : Nat} (h : f j = some q) : va_rf (f j) = .ref q := by rw [h]; rfl
theorem n32_lt {i n : Nat} (h : nI i < nI n) (hi : i < 2 ^ 31) (hn : n < 2 ^ 31) : i < n := (nI_ltI hi hn).mp h
theorem within_nI {k m : Nat} (hk : k < m) (hm : m < 2 ^ 31) : withinI (nI k) 0 (nI m - 1) = 1 := by
  obtain ⟨d, rfl⟩ : ∃ d, m = d + 1 := ⟨m - 1, by omega⟩
  refine within1 ?_ ?_
  · exact nI_pos (by omega)
  · rw [nI_succ]
    have e : nI d + 1 - 1 = nI d := by rw [← nI_succ]; exact nI_pred d
    rw [e]
    exact nI_nlt (by omega) (by omega)
theorem mod4_in {s : Nat} (hs : s < 4) : vp_in (nI s) 4 := vinI hs
