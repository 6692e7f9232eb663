/-! what is gathered over all rows, in the model and in the class -/
def bRel (N : Nat) (q : BST) (fw mst : Int32) (bo : Nat → Int32) : Prop := (q.1 = 0 ∧ fw = 99999999) ∨ (q.1 = 1 ∧ fw = q.2.1 ∧ mst = q.2.2.1 ∧ (∃ t, t ≤ 30 ∧ q.2.1 = nI t) ∧ ∀ j, j < N → bo j = q.2.2.2 j)
theorem bRel_better {N : Nat} {q : BST} {fw mst st sm : Int32} {bo : Nat → Int32} (h : bRel N q fw mst bo) (hs : ∃ t, t ≤ 30 ∧ st = nI t) : betterP q st sm ↔ (st < fw ∨ (st = fw ∧ mst < sm)) := by
  obtain ⟨t, ht, rfl⟩ := hs
  unfold betterP
  rcases h with ⟨h1, h2⟩ | ⟨h1, h2, h3, -, -⟩
  · rw [h2]
    exact ⟨fun _ => Or.inl (nI_lt (a := t) (b := 99999999) (by omega) (by omega)), fun _ => Or.inl h1⟩
  · rw [h2, h3]
    constructor
    · rintro (h | h | h)
      · rw [h1] at h; exact absurd h (by decide)
      · exact Or.inl h
      · exact Or.inr h
    · exact Or.inr
theorem each_ag {P : WP} {N : Nat} {mm : Int32} {ω π : Nat → Nat} {z : NS} (hag : ∀ j, j < N → ω j = π j) : (∀ i, i < N → mm ≤ visitS P (ω i) (walkN P ω z i)) ↔ (∀ i, i < N → mm ≤ visitS P (π i) (walkN P π z i)) := by
  constructor <;> intro h i hi
  · rw [← hag i hi, ← walkN_congr (ρ := ω) (fun j hj => hag j (by omega))]
    exact h i hi
  · rw [hag i hi, walkN_congr (ρ2 := π) (fun j hj => hag j (by omega))]
    exact h i hi
theorem endsG_pos {N d : Nat} {π : Nat → Nat} (h : endsG N d π) : ∃ d9, d = d9 + 1 := by
  cases d with
  | zero => exact absurd h (by rw [endsG]; exact id)
  | succ d9 => exact ⟨d9, rfl⟩
theorem endsG_s {N d : Nat} {π b : Nat → Nat} (h : endsG N (d + 1) π) (hs : stepR N π = some b) : endsG N d b := by
  rw [endsG, hs] at h
  exact h
theorem rel_id {M : Nat} : ∀ a b : Nat, a < M → b < M → (id a < id b ↔ a < b) := fun _ _ _ _ => Iff.rfl
theorem far_ne {t : Nat} (h : t ≤ 30) : nI t ≠ 99999999 := fun hh => absurd ((nI_eq (b := 99999999) (by omega) (by omega)).mp hh) (by omega)
def shB (b : Nat → Int32) (N : Nat) (x : Int32) : Int32 := if withinI x 0 (nI N - 1) = 1 then b x.toNatClampNeg else -1
theorem shA_kpO {N : Nat} {ω π : Nat → Nat} {b : Nat → Int32} {x : Int32} (hN : N ≤ 6) (hag : ∀ j, j < N → ω j = π j) : shA π N x = shB (kpO N ω b) N x := by
  unfold shA shB
  by_cases h : withinI x 0 (nI N - 1) = 1
  · rw [if_pos h, if_pos h]
    obtain ⟨k, hk, rfl⟩ := within_of (by omega) h
    rw [nI_clamp (by omega), kpO, if_pos hk, hag k hk]
  · rw [if_neg h, if_neg h]
def oRel (N : Nat) (x : Int32) (q : Nat × Int32) (bo : Nat → Int32) : Prop := (q.1 = 0 ∧ q.2 = -1) ∨ (q.1 ≠ 0 ∧ q.2 = shB bo N x)
theorem within_m1 {x : Int32} (h : withinI x (-1) 5 = 1) (hx : x ≠ -1) : ∃ k, k ≤ 5 ∧ x = nI k := by
  unfold withinI at h
  split at h
  · rename_i hc
    have h0 : ¬ x < 0 := fun h9 => hx (by
      have h8 : x.toInt < 0 := Int32.lt_iff_toInt_lt.mp h9
      have h7 : (-1 : Int32).toInt ≤ x.toInt := Int32.le_iff_toInt_le.mp hc.1
      have h6 : (-1 : Int32).toInt = -1 := by decide
      exact Int32.toInt_inj.mp (by omega))
    obtain ⟨j, hj, rfl⟩ := nI_of h0
    exact ⟨j, (nI_leI (b := 5) hj (by omega)).mp hc.2, rfl⟩
  · exact absurd h (by decide)
def cntL (P : WP) (ω : Nat → Nat) (s : NS) (k : Nat) (mm : Int32) : Nat → Nat
  | 0 => 0
  | i + 1 => cntL P ω s k mm i + (if ω i = k ∧ mm ≤ visitS P (ω i) (walkN P ω s i) then 1 else 0)
theorem cntL_le (P : WP) (ω : Nat → Nat) (s : NS) (k : Nat) (mm : Int32) : ∀ i, cntL P ω s k mm i ≤ i
  | 0 => Nat.le_refl _
  | i + 1 => by
    have := cntL_le P ω s k mm i
    rw [cntL]
    split <;> omega
theorem cntL_rest {P : WP} {ω : Nat → Nat} {s : NS} {k : Nat} {mm : Int32} {i : Nat} : ∀ f, (∀ j, i ≤ j → j < i + f → ω j ≠ k) → cntL P ω s k mm (i + f) = cntL P ω s k mm i
  | 0, _ => rfl
  | f + 1, h => by
    rw [show i + (f + 1) = (i + f) + 1 by omega, cntL, if_neg (fun h9 => h (i + f) (by omega) (by omega) h9.1), Nat.add_zero]
    exact cntL_rest f (fun j h1 h2 => h j h1 (by omega))
theorem cntL_smA {P : WP} {ω : Nat → Nat} {s : NS} {k N : Nat} {mm : Int32} (hm : ¬ mm ≤ -1) (hinj : ∀ x z, x < N → z < N → ω x = ω z → x = z) : ∀ f i, i + f = N → cntL P ω s k mm N = cntL P ω s k mm i + (if mm ≤ smA ω (fun j => visitS P (ω j) (walkN P ω s j)) k f i then 1 else 0)
  | 0, i, h => by
    rw [smA, if_neg hm, ← h]
    rfl
  | f + 1, i, h => by
    rw [smA]
    by_cases hk : ω i = k
    · rw [if_pos hk, ← h, show i + (f + 1) = (i + 1) + f by omega, cntL_rest f (fun j h1 h2 h3 => by have := hinj j i (by omega) (by omega) (h3.trans hk.symm); omega), cntL]
      by_cases hv : mm ≤ visitS P (ω i) (walkN P ω s i)
      · rw [if_pos ⟨hk, hv⟩, if_pos hv]
      · rw [if_neg (fun h9 => hv h9.2), if_neg hv]
    · rw [if_neg hk, cntL_smA hm hinj f (i + 1) (by omega), cntL, if_neg (fun h9 => hk h9.1), Nat.add_zero]
theorem smA_ag {N : Nat} {ω π : Nat → Nat} {a b : Nat → Int32} {k : Nat} (hag : ∀ j, j < N → ω j = π j) (hab : ∀ j, j < N → a j = b j) : ∀ f i, i + f ≤ N → smA ω a k f i = smA π b k f i
  | 0, _, _ => rfl
  | f + 1, i, h => by
    rw [smA, smA, smA_ag hag hab f (i + 1) (by omega), hag i (by omega), hab i (by omega)]
theorem lot_step {P : WP} {ω π : Nat → Nat} {s : NS} {k N : Nat} {mm : Int32} (hm : withinI mm 0 30 = 1) (hag : ∀ j, j < N → ω j = π j) (hinj : ∀ x z, x < N → z < N → ω x = ω z → x = z) (q : Nat × Nat) : lotStep P s N k mm q π = (q.1 + cntL P ω s k mm N, q.2 + 1) := by
  have h0 : ¬ mm ≤ -1 := fun h9 => by
    obtain ⟨t, -, ht, rfl⟩ := withinN_of (lo := 0) (hi := 30) (by omega) (by omega) hm
    exact absurd (Int32.lt_of_le_of_lt h9 (by decide : (-1 : Int32) < 0)) (nI_pos (by omega))
  have h1 := cntL_smA (P := P) (s := s) (k := k) h0 hinj N 0 (by omega)
  rw [smA_ag (b := fun j => visitS P (π j) (walkN P π s j)) hag (fun j hj => by show visitS P (ω j) (walkN P ω s j) = _; rw [hag j hj, walkN_congr (fun i hi => hag i (by omega))]) N 0 (by omega)] at h1
  unfold lotStep
  rw [h1, cntL, Nat.zero_add]
  by_cases h2 : mm ≤ smA π (fun j => visitS P (π j) (walkN P π s j)) k N 0
  · rw [if_pos h2, if_pos h2]
  · rw [if_neg h2, if_neg h2]
    rfl
