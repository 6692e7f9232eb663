/-! what the class's own methods answer -/
theorem allI : ∀ m, m < 7 → ((1 : Int32) <<< (nI m &&& 31)) - 1 = nI (2 ^ m - 1) := by decide +kernel
def sel3 (x a b c : Int32) : Int32 := if x = 0 then a else if x = 1 then b else if x = 2 then c else -3
def sel7 (x a b c d e f g : Int32) : Int32 := if x = 0 then a else if x = 1 then b else if x = 2 then c else if x = 3 then d else if x = 4 then e else if x = 5 then f else if x = 6 then g else -3
def sel11 (x a b c d e f g h i j k : Int32) : Int32 := if x = 0 then a else if x = 1 then b else if x = 2 then c else if x = 3 then d else if x = 4 then e else if x = 5 then f else if x = 6 then g else if x = 7 then h else if x = 8 then i else if x = 9 then j else if x = 10 then k else -3
def ofKindI (κ : Nat) (x : Int32) : Int32 := if x = 0 then 1 else if x = 1 then (if κ = 0 then 1 else if κ = 1 then 1 else 0) else if x = 2 then (if κ = 1 then 1 else 0) else if x = 3 then (if κ = 2 then 1 else 0) else if x = 4 then (if κ = 3 then 1 else 0) else 0
theorem min8 {u : Nat} (hu : u ≤ 8) : (if nI (u + 1) < 8 then nI (u + 1) else 8) = nI (min 8 (u + 1)) := by
  show (if nI (u + 1) < nI 8 then nI (u + 1) else nI 8) = _
  by_cases h : u + 1 < 8
  · rw [if_pos (nI_lt (a := u + 1) (b := 8) h (by omega)), Nat.min_eq_right (by omega)]
  · rw [if_neg (nI_nlt (a := u + 1) (b := 8) (by omega) (by omega)), Nat.min_eq_left (by omega)]
theorem rem8 {p : Nat} (hp : p < 8) : nI (p + 1) - nI (p + 1) / 8 * 8 = nI ((p + 1) % 8) := pk_rem (d := 8) (by omega) (by omega) (by omega)
def asI (κ so : Nat) (ti : Nat → Int32) (s : NS) : Int32 := heldI (s.1 so + tiringI κ (nI so) (nI so) (ti so)) - s.1 so + 99
def windN (m : Nat) (s : NS) : NS := (s.1, nI m - 1 - s.2.1, s.2.2.1, s.2.2.2.1, s.2.2.2.2.1, s.2.2.2.2.2.1, s.2.2.2.2.2.2.1, if s.2.2.2.2.2.2.2 = 0 then 1 else 0)
def coldN (c : Int32) (s : NS) : NS := (s.1, s.2.1, s.2.2.1, c, s.2.2.2.2.1, s.2.2.2.2.2.1, s.2.2.2.2.2.2.1, s.2.2.2.2.2.2.2)
theorem gcd_step {a b : Nat} : Nat.gcd b (a % b) = Nat.gcd a b := by
  rw [Nat.gcd_comm b (a % b), ← Nat.gcd_rec b a, Nat.gcd_comm]
theorem within_of {x : Int32} {m : Nat} (hm : m < 2 ^ 30) (h : withinI x 0 (nI m - 1) = 1) : ∃ k, k < m ∧ x = nI k := by
  unfold withinI at h
  split at h
  · rename_i hc
    obtain ⟨j, hj, rfl⟩ := nI_of (Int32.not_lt.mpr hc.1)
    refine ⟨j, ?_, rfl⟩
    cases m with
    | zero => exact absurd (Int32.le_trans hc.1 hc.2) (by decide)
    | succ d =>
      have e : nI (d + 1) - 1 = nI d := nI_pred d
      rw [e] at hc
      have := (nI_leI hj (by omega)).mp hc.2
      omega
  · exact absurd h (by decide)
theorem withinN_of {x : Int32} {lo hi : Nat} (hl : lo < 2 ^ 30) (hm : hi < 2 ^ 30) (h : withinI x (nI lo) (nI hi) = 1) : ∃ k, lo ≤ k ∧ k ≤ hi ∧ x = nI k := by
  unfold withinI at h
  split at h
  · rename_i hc
    have h0 : ¬ x < 0 := fun hh => absurd (Int32.lt_of_lt_of_le hh (nI_pos' (n := lo) (by omega))) (Int32.not_lt.mpr hc.1)
    obtain ⟨j, hj, rfl⟩ := nI_of h0
    exact ⟨j, (nI_leI (by omega) hj).mp hc.1, (nI_leI hj (by omega)).mp hc.2, rfl⟩
  · exact absurd h (by decide)
theorem within_in {k lo hi : Nat} (h1 : lo ≤ k) (h2 : k ≤ hi) (h3 : hi < 2 ^ 30) : withinI (nI k) (nI lo) (nI hi) = 1 := if_pos ⟨nI_le h1 (by omega), nI_le h2 (by omega)⟩
theorem char8 : ∀ k, k < 256 → vp_nar .char (nI k) = nI k := by decide +kernel
theorem char8b : ∀ k, k < 256 → ((nI k).toUInt32 % 65536).toInt32 = nI k := by decide +kernel
noncomputable def small9 (p : Nat → Prop) : Nat → Nat → Int32
  | 0, _ => -1
  | f + 1, t => cI (p t) (nI t) (small9 p f (t + 1))
theorem ofKindI_01 (κ : Nat) (x : Int32) : ofKindI κ x = 0 ∨ ofKindI κ x = 1 := by
  unfold ofKindI
  repeat' split
  all_goals first | exact Or.inl rfl | exact Or.inr rfl
