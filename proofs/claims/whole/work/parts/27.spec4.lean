/-! clauses: the words' numbers, the room for shops, the reader -/
theorem nI_mul3 (c : Nat) : nI c * 3 = nI (c * 3) := pk_mul c 3
def roomS (w : Nat) (sh : Nat) : Nat := if w = 0 ∨ w = 8 then 0 else if 2 ≤ w ∧ w ≤ 5 then sh + 1 else sh
def cntW (w : Nat) : Nat := if w = 0 ∨ w = 8 then 0 else if w = 6 ∨ w = 7 then 1 else 3
theorem stNum_w : ∀ w, w < 9 → stNum.getD w 0 = nI (cntW w) := by decide +kernel
def lowW (w i : Nat) : Int32 := stLow.getD (w * 3 + i) 0
def topW (w i : Nat) : Int32 := stTop.getD (w * 3 + i) 0
/-- the numbers of a clause from the i-th on: a fault's place, or where the last one ends, and what they are -/
def numsG (F : Nat → Int32) (n w : Nat) : Nat → Nat → Nat → Nat ⊕ (Nat × List Int32)
  | 0, _, t => .inr (t, [])
  | r + 1, i, t =>
    if withinI (numW F (frT F n t) (teT F n t)) (lowW w i) (topW w i) = 1 then
      match numsG F n w r (i + 1) (teT F n t) with
      | .inl p => .inl p
      | .inr q => .inr (q.1, numW F (frT F n t) (teT F n t) :: q.2)
    else .inl (frT F n t)
/-- what of a list of numbers stands ahead -/
def preG (vs : List Int32) : Nat ⊕ (Nat × List Int32) → Nat ⊕ (Nat × List Int32)
  | .inl p => .inl p
  | .inr q => .inr (q.1, vs ++ q.2)
theorem preG_step {F : Nat → Int32} {n w r i t : Nat} {vs : List Int32} (h : withinI (numW F (frT F n t) (teT F n t)) (lowW w i) (topW w i) = 1) : preG vs (numsG F n w (r + 1) i t) = preG (vs ++ [numW F (frT F n t) (teT F n t)]) (numsG F n w r (i + 1) (teT F n t)) := by
  rw [numsG, if_pos h]
  cases numsG F n w r (i + 1) (teT F n t) with
  | inl p => rfl
  | inr q => simp [preG]
theorem preG_bad {F : Nat → Int32} {n w r i t : Nat} {vs : List Int32} (h : withinI (numW F (frT F n t) (teT F n t)) (lowW w i) (topW w i) = 0) : preG vs (numsG F n w (r + 1) i t) = .inl (frT F n t) := by
  rw [numsG, if_neg (by rw [h]; decide)]
  rfl
theorem preG_nil (x : Nat ⊕ (Nat × List Int32)) : preG [] x = x := by
  cases x with
  | inl p => rfl
  | inr q => simp [preG]
abbrev CLA : Type := Nat × List Int32
/-- one clause: a fault's place, or the word with its numbers, where it ends, the shops then -/
noncomputable def clauseG (F : Nat → Int32) (n t sh : Nat) : Nat ⊕ (CLA × Nat × Nat) :=
  @dite _ (∃ w, w < 9 ∧ wordW F (frT F n t) (teT F n t) = nI w) (Classical.propDecidable _) (fun h =>
    let w := Classical.choose h
    if roomS w sh ≤ 6 then
      match numsG F n w (cntW w) 0 (teT F n t) with
      | .inl p => .inl p
      | .inr q => .inr ((w, q.2), q.1, roomS w sh)
    else .inl (frT F n t)) (fun _ => .inl (frT F n t))
theorem clauseG_word {F : Nat → Int32} {n t sh w : Nat} (hw : w < 9) (h : wordW F (frT F n t) (teT F n t) = nI w) : clauseG F n t sh = if roomS w sh ≤ 6 then (match numsG F n w (cntW w) 0 (teT F n t) with | .inl p => .inl p | .inr q => .inr ((w, q.2), q.1, roomS w sh)) else .inl (frT F n t) := by
  have hex : ∃ w, w < 9 ∧ wordW F (frT F n t) (teT F n t) = nI w := ⟨w, hw, h⟩
  unfold clauseG
  rw [dif_pos hex]
  have e : Classical.choose hex = w := by
    have h2 := Classical.choose_spec hex
    exact (nI_eq (by have := h2.1; omega) (by omega)).mp (h2.2.symm.trans h)
  simp only [e]
theorem clauseG_none {F : Nat → Int32} {n t sh : Nat} (h : wordW F (frT F n t) (teT F n t) = -1) : clauseG F n t sh = .inl (frT F n t) := by
  unfold clauseG
  rw [dif_neg]
  rintro ⟨w, hw, h2⟩
  rw [h] at h2
  exact absurd (show (-1 : Int32) < 0 by decide) (h2 ▸ nI_pos (by omega))
/-- the text from place t on, where at most k + 1 clauses may stand: a fault's place, or the clauses -/
noncomputable def readG (F : Nat → Int32) (n : Nat) : Nat → Nat → Nat → Nat ⊕ List CLA
  | k, t, sh =>
    match clauseG F n t sh with
    | .inl p => .inl p
    | .inr q =>
      if n ≤ frT F n q.2.1 then .inr [q.1]
      else if F (frT F n q.2.1) = 59 then
        (match k with
        | 0 => .inl (frT F n q.2.1)
        | k + 1 => match readG F n k (teT F n q.2.1) q.2.2 with
          | .inl p => .inl p
          | .inr cs => .inr (q.1 :: cs))
      else .inl (frT F n q.2.1)
theorem wordW_cases (F : Nat → Int32) (a b : Nat) : (∃ w, w < 9 ∧ wordW F a b = nI w ∧ saysP F a b w) ∨ wordW F a b = -1 := by
  unfold wordW
  by_cases h0 : saysP F a b 0
  · exact Or.inl ⟨0, by omega, cI_t h0, h0⟩
  rw [cI_f h0]
  by_cases h1 : saysP F a b 1
  · exact Or.inl ⟨1, by omega, cI_t h1, h1⟩
  rw [cI_f h1]
  by_cases h2 : saysP F a b 2
  · exact Or.inl ⟨2, by omega, cI_t h2, h2⟩
  rw [cI_f h2]
  by_cases h3 : saysP F a b 3
  · exact Or.inl ⟨3, by omega, cI_t h3, h3⟩
  rw [cI_f h3]
  by_cases h4 : saysP F a b 4
  · exact Or.inl ⟨4, by omega, cI_t h4, h4⟩
  rw [cI_f h4]
  by_cases h5 : saysP F a b 5
  · exact Or.inl ⟨5, by omega, cI_t h5, h5⟩
  rw [cI_f h5]
  by_cases h6 : saysP F a b 6
  · exact Or.inl ⟨6, by omega, cI_t h6, h6⟩
  rw [cI_f h6]
  by_cases h7 : saysP F a b 7
  · exact Or.inl ⟨7, by omega, cI_t h7, h7⟩
  rw [cI_f h7]
  by_cases h8 : saysP F a b 8
  · exact Or.inl ⟨8, by omega, cI_t h8, h8⟩
  rw [cI_f h8]
  exact Or.inr rfl
theorem within25 : ∀ w, w < 9 → withinI (nI w) 2 5 = if 2 ≤ w ∧ w ≤ 5 then 1 else 0 := by decide +kernel
theorem cntW_le (w : Nat) : cntW w ≤ 3 := by
  unfold cntW
  split
  · omega
  · split <;> omega
/-- what a clause's reading leaves: the answer, the words, the numbers, from, to, the shops -/
abbrev CLS : Type := Int32 × (Nat → Int32) × (Nat → Int32) × Int32 × Int32 × Int32
def clRel (c : Nat) (W G : Nat → Int32) (x : Nat ⊕ (CLA × Nat × Nat)) (u : CLS) : Prop :=
  (∀ j, j ≠ c → u.2.1 j = W j) ∧ (∀ j, j < c * 3 → u.2.2.1 j = G j) ∧
  match x with
  | .inl p => u.1 = 0 ∧ u.2.2.2.1 = nI p
  | .inr q => u.1 = 1 ∧ u.2.2.2.2.1 = nI q.2.1 ∧ u.2.2.2.2.2 = nI q.2.2 ∧ u.2.1 c = nI q.1.1 ∧ q.1.1 < 9 ∧ q.1.2.length = cntW q.1.1 ∧ ∀ j, j < cntW q.1.1 → u.2.2.1 (c * 3 + j) = q.1.2.getD j 0
def preC (cs : List CLA) : Nat ⊕ List CLA → Nat ⊕ List CLA
  | .inl p => .inl p
  | .inr q => .inr (cs ++ q)
theorem preC_nil (x : Nat ⊕ List CLA) : preC [] x = x := by
  cases x with
  | inl p => rfl
  | inr q => simp [preC]
/-- what the arrays hold of the clauses -/
def heldC (W G : Nat → Int32) (cs : List CLA) : Prop := ∀ (i : Nat) (q : CLA), cs[i]? = some q → W i = nI q.1 ∧ q.1 < 9 ∧ q.2.length = cntW q.1 ∧ ∀ j, j < cntW q.1 → G (i * 3 + j) = q.2.getD j 0
abbrev RDS : Type := Int32 × (Nat → Int32) × (Nat → Int32) × Int32 × Int32 × Int32 × Int32
def rdRel (x : Nat ⊕ List CLA) (u : RDS) : Prop :=
  match x with
  | .inl p => u.1 = nI p
  | .inr cs => u.1 = -1 ∧ u.2.2.2.1 = nI cs.length ∧ cs.length ≤ 14 ∧ heldC u.2.1 u.2.2.1 cs
theorem heldC_app {W G W2 G2 : Nat → Int32} {cs : List CLA} {q : CLA} (h : heldC W G cs) (h1 : ∀ j, j ≠ cs.length → W2 j = W j) (h2 : ∀ j, j < cs.length * 3 → G2 j = G j) (hq : W2 cs.length = nI q.1 ∧ q.1 < 9 ∧ q.2.length = cntW q.1 ∧ ∀ j, j < cntW q.1 → G2 (cs.length * 3 + j) = q.2.getD j 0) : heldC W2 G2 (cs ++ [q]) := by
  intro i x hx
  by_cases hi : i < cs.length
  · rw [List.getElem?_append_left hi] at hx
    obtain ⟨a, b, c, d⟩ := h i x hx
    refine ⟨(h1 i (by omega)).trans a, b, c, fun j hj => ?_⟩
    have := cntW_le x.1
    rw [h2 _ (by omega)]
    exact d j hj
  · have hl := (List.getElem?_eq_some_iff.mp hx).1
    have he : i = cs.length := by
      rw [List.length_append] at hl
      simp at hl
      omega
    subst he
    rw [List.getElem?_append_right (Nat.le_refl _), Nat.sub_self] at hx
    cases hx
    exact hq
theorem readG_bad {F : Nat → Int32} {n k t sh p : Nat} (h : clauseG F n t sh = .inl p) : readG F n k t sh = .inl p := by
  unfold readG; rw [h]
theorem readG_end {F : Nat → Int32} {n k t sh : Nat} {q : CLA × Nat × Nat} (h : clauseG F n t sh = .inr q) (h2 : n ≤ frT F n q.2.1) : readG F n k t sh = .inr [q.1] := by
  unfold readG; rw [h]; simp only [if_pos h2]
theorem readG_not {F : Nat → Int32} {n k t sh : Nat} {q : CLA × Nat × Nat} (h : clauseG F n t sh = .inr q) (h2 : ¬ n ≤ frT F n q.2.1) (h3 : ¬ F (frT F n q.2.1) = 59) : readG F n k t sh = .inl (frT F n q.2.1) := by
  unfold readG; rw [h]; simp only [if_neg h2, if_neg h3]
theorem readG_full {F : Nat → Int32} {n t sh : Nat} {q : CLA × Nat × Nat} (h : clauseG F n t sh = .inr q) (h2 : ¬ n ≤ frT F n q.2.1) (h3 : F (frT F n q.2.1) = 59) : readG F n 0 t sh = .inl (frT F n q.2.1) := by
  unfold readG; rw [h]; simp only [if_neg h2, if_pos h3]
theorem readG_more {F : Nat → Int32} {n k t sh : Nat} {q : CLA × Nat × Nat} {cs : List CLA} (h : clauseG F n t sh = .inr q) (h2 : ¬ n ≤ frT F n q.2.1) (h3 : F (frT F n q.2.1) = 59) : preC cs (readG F n (k + 1) t sh) = preC (cs ++ [q.1]) (readG F n k (teT F n q.2.1) q.2.2) := by
  conv => lhs; unfold readG
  rw [h]
  simp only [if_neg h2, if_pos h3]
  cases readG F n k (teT F n q.2.1) q.2.2 with
  | inl p => rfl
  | inr c => simp [preC]
theorem numsG_le {F : Nat → Int32} {n w : Nat} : ∀ (r i t : Nat) (q : Nat × List Int32), t ≤ n → numsG F n w r i t = .inr q → q.1 ≤ n ∧ q.2.length = r
  | 0, _, t, q, ht, h => by
    rw [numsG] at h
    cases h
    exact ⟨ht, rfl⟩
  | r + 1, i, t, q, ht, h => by
    rw [numsG] at h
    split at h
    · have ih := numsG_le (F := F) (n := n) (w := w) r (i + 1) (teT F n t)
      cases hx : numsG F n w r (i + 1) (teT F n t) with
      | inl p => rw [hx] at h; cases h
      | inr x =>
        rw [hx] at h
        cases h
        obtain ⟨a, b⟩ := ih x (teT_le ht) hx
        exact ⟨a, by simp [b]⟩
    · cases h
theorem clauseG_le {F : Nat → Int32} {n t sh : Nat} {q : CLA × Nat × Nat} (ht : t ≤ n) (h : clauseG F n t sh = .inr q) : q.2.1 ≤ n ∧ q.2.2 ≤ 6 := by
  rcases wordW_cases F (frT F n t) (teT F n t) with ⟨w, hw, hww, -⟩ | hn
  · rw [clauseG_word hw hww] at h
    split at h
    · rename_i hr
      cases hx : numsG F n w (cntW w) 0 (teT F n t) with
      | inl p => rw [hx] at h; cases h
      | inr x =>
        rw [hx] at h
        cases h
        exact ⟨(numsG_le _ _ _ x (teT_le ht) hx).1, hr⟩
    · cases h
  · rw [clauseG_none hn] at h
    cases h
