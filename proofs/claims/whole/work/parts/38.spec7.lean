/-! all rows of a set, and what is gathered over them -/
def stepR (N : Nat) (ρ : Nat → Nat) : Option (Nat → Nat) :=
  match N with
  | 0 => none
  | nn + 1 => match pivotC ρ nn with
    | 0 => none
    | p + 1 => some (nextR ρ (nn + 1) p)
def rowsG (N : Nat) : Nat → (Nat → Nat) → List (Nat → Nat)
  | 0, _ => []
  | f + 1, ρ => ρ :: (match stepR N ρ with
    | none => []
    | some ρ2 => rowsG N f ρ2)
theorem rowsG_none {N d : Nat} {ρ : Nat → Nat} (h : stepR N ρ = none) : rowsG N (d + 1) ρ = [ρ] := by
  rw [rowsG, h]
theorem rowsG_some {N d : Nat} {ρ ρ2 : Nat → Nat} (h : stepR N ρ = some ρ2) : rowsG N (d + 1) ρ = ρ :: rowsG N d ρ2 := by
  rw [rowsG, h]
theorem stepR_cases (N : Nat) (ρ : Nat → Nat) : (N = 0 ∧ stepR N ρ = none) ∨ (∃ nn, N = nn + 1 ∧ pivotC ρ nn = 0 ∧ stepR N ρ = none) ∨ (∃ nn p, N = nn + 1 ∧ pivotC ρ nn = p + 1 ∧ stepR N ρ = some (nextR ρ (nn + 1) p)) := by
  cases N with
  | zero => exact Or.inl ⟨rfl, rfl⟩
  | succ nn =>
    refine Or.inr ?_
    cases h : pivotC ρ nn with
    | zero => exact Or.inl ⟨nn, rfl, h, by simp only [stepR, h]⟩
    | succ p => exact Or.inr ⟨nn, p, rfl, h, by simp only [stepR, h]⟩
noncomputable def cG {α : Type} (p : Prop) (x y : α) : α := @ite α p (Classical.propDecidable p) x y
theorem cG_t {α : Type} {p : Prop} {x y : α} (h : p) : cG p x y = x := if_pos h
theorem cG_f {α : Type} {p : Prop} {x y : α} (h : ¬ p) : cG p x y = y := if_neg h
abbrev BST : Type := Int32 × Int32 × Int32 × (Nat → Int32)
def dS (P : WP) (s : NS) (N : Nat) (ρ : Nat → Nat) : Int32 := (walkN P ρ s N).2.2.1 - s.2.2.1
def dM (P : WP) (s : NS) (N : Nat) (ρ : Nat → Nat) : Int32 := (walkN P ρ s N).2.2.2.2.2.2.1 - s.2.2.2.2.2.2.1
def betterP (q : BST) (st sm : Int32) : Prop := q.1 = 0 ∨ st < q.2.1 ∨ (st = q.2.1 ∧ q.2.2.1 < sm)
def eachP (P : WP) (s : NS) (N : Nat) (mm : Int32) (ρ : Nat → Nat) : Prop := ∀ i, i < N → mm ≤ visitS P (ρ i) (walkN P ρ s i)
noncomputable def bestStep (P : WP) (s : NS) (N : Nat) (mm : Int32) (q : BST) (ρ : Nat → Nat) : BST := cG (betterP q (dS P s N ρ) (dM P s N ρ) ∧ eachP P s N mm ρ) (1, dS P s N ρ, dM P s N ρ, fun j => nI (ρ j)) q
def smA (ρ : Nat → Nat) (sm : Nat → Int32) (k : Nat) : Nat → Nat → Int32
  | 0, _ => -1
  | f + 1, i => if ρ i = k then sm i else smA ρ sm k f (i + 1)
theorem smA_congr {ρ : Nat → Nat} {sm sm2 : Nat → Int32} {k : Nat} : ∀ {f i : Nat}, (∀ j, j < i + f → sm j = sm2 j) → smA ρ sm k f i = smA ρ sm2 k f i
  | 0, _, _ => rfl
  | f + 1, i, h => by
    rw [smA, smA, h i (by omega), smA_congr (f := f) (i := i + 1) (fun j hj => h j (by omega))]
def shA (ρ : Nat → Nat) (N : Nat) (x : Int32) : Int32 := if withinI x 0 (nI N - 1) = 1 then nI (ρ x.toNatClampNeg) else -1
def lotStep (P : WP) (s : NS) (N k : Nat) (mm : Int32) (q : Nat × Nat) (ρ : Nat → Nat) : Nat × Nat := if mm ≤ smA ρ (fun j => visitS P (ρ j) (walkN P ρ s j)) k N 0 then (q.1 + 1, q.2 + 1) else (q.1, q.2 + 1)
def lotW (q : Nat × Nat) (y : Int32) : Int32 := if Nat.gcd q.2 q.1 = 0 then 0 else nI ((if y = 0 then q.1 else q.2) / Nat.gcd q.2 q.1)
def ordStep (P : WP) (s : NS) (N : Nat) (st x : Int32) (q : Nat × Int32) (ρ : Nat → Nat) : Nat × Int32 := if (walkN P ρ s N).2.2.2.2.2.1 = st then (q.1 + 1, if q.1 = 0 then shA ρ N x else q.2) else q
def bestW (wh N : Nat) (q : BST) : Int32 := if wh = 0 then q.2.1 else if wh = 1 then q.2.2.1 else if wh - 2 < N then q.2.2.2 (wh - 2) else -1
