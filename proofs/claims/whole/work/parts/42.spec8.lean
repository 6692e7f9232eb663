/-! what a text tells the lane -/
abbrev LST : Type := (Nat → Int32) × (Nat → Int32) × Nat × Int32 × Int32 × (Nat → SHP)
def tellG (s : LST) (q : CLA) : LST :=
  if q.1 = 0 then (fun _ => 4, fun _ => 1, 0, 10, 60, s.2.2.2.2.2)
  else if q.1 = 1 then (upd s.1 (q.2.getD 0 0).toNatClampNeg (q.2.getD 1 0), upd s.2.1 (q.2.getD 0 0).toNatClampNeg (q.2.getD 2 0), s.2.2.1, s.2.2.2.1, s.2.2.2.2.1, s.2.2.2.2.2)
  else if q.1 = 6 then (s.1, s.2.1, s.2.2.1, q.2.getD 0 0, s.2.2.2.2.1, s.2.2.2.2.2)
  else if q.1 = 7 then (s.1, s.2.1, s.2.2.1, s.2.2.2.1, q.2.getD 0 0, s.2.2.2.2.2)
  else if q.1 = 8 then (s.1, s.2.1, 0, s.2.2.2.1, s.2.2.2.2.1, s.2.2.2.2.2)
  else (s.1, s.2.1, s.2.2.1 + 1, s.2.2.2.1, s.2.2.2.2.1, va_up s.2.2.2.2.2 s.2.2.1 (q.1 - 2, (q.2.getD 0 0).toNatClampNeg, q.2.getD 1 0, q.2.getD 2 0))
def lanesG (s : LST) (cs : List CLA) : LST := cs.foldl tellG s
def okC : Nat → List CLA → Prop
  | _, [] => True
  | sh, q :: cs => q.1 < 9 ∧ q.2.length = cntW q.1 ∧ (∀ j, j < cntW q.1 → withinI (q.2.getD j 0) (lowW q.1 j) (topW q.1 j) = 1) ∧ roomS q.1 sh ≤ 6 ∧ okC (roomS q.1 sh) cs
theorem numsG_in {F : Nat → Int32} {n w : Nat} : ∀ (r i t : Nat) (q : Nat × List Int32), numsG F n w r i t = .inr q → q.2.length = r ∧ ∀ j, j < r → withinI (q.2.getD j 0) (lowW w (i + j)) (topW w (i + j)) = 1
  | 0, _, t, q, h => by
    rw [numsG] at h
    cases h
    exact ⟨rfl, fun j hj => absurd hj (Nat.not_lt_zero _)⟩
  | r + 1, i, t, q, h => by
    rw [numsG] at h
    split at h
    · rename_i hw
      have ih := numsG_in (F := F) (n := n) (w := w) r (i + 1) (teT F n t)
      cases hx : numsG F n w r (i + 1) (teT F n t) with
      | inl p => rw [hx] at h; cases h
      | inr x =>
        rw [hx] at h
        cases h
        obtain ⟨a, b⟩ := ih x hx
        refine ⟨by simp [a], fun j hj => ?_⟩
        cases j with
        | zero => exact hw
        | succ j =>
          have h9 := b j (by omega)
          rw [show i + 1 + j = i + (j + 1) by omega] at h9
          exact h9
    · cases h
theorem clauseG_ok {F : Nat → Int32} {n t sh : Nat} {q : CLA × Nat × Nat} (h : clauseG F n t sh = .inr q) : q.1.1 < 9 ∧ q.1.2.length = cntW q.1.1 ∧ (∀ j, j < cntW q.1.1 → withinI (q.1.2.getD j 0) (lowW q.1.1 j) (topW q.1.1 j) = 1) ∧ roomS q.1.1 sh ≤ 6 ∧ q.2.2 = roomS q.1.1 sh := by
  rcases wordW_cases F (frT F n t) (teT F n t) with ⟨w, hw, hww, -⟩ | hn
  · rw [clauseG_word hw hww] at h
    split at h
    · rename_i hr
      cases hx : numsG F n w (cntW w) 0 (teT F n t) with
      | inl p => rw [hx] at h; cases h
      | inr x =>
        rw [hx] at h
        cases h
        obtain ⟨a, b⟩ := numsG_in _ _ _ x hx
        exact ⟨hw, a, fun j hj => by have h9 := b j hj; rw [Nat.zero_add] at h9; exact h9, hr, rfl⟩
    · cases h
  · rw [clauseG_none hn] at h
    cases h
theorem readG_ok {F : Nat → Int32} {n : Nat} : ∀ (k t sh : Nat) (cs : List CLA), readG F n k t sh = .inr cs → okC sh cs ∧ cs ≠ [] ∧ cs.length ≤ k + 1
  | k, t, sh, cs, h => by
    unfold readG at h
    cases hx : clauseG F n t sh with
    | inl p => rw [hx] at h; cases h
    | inr q =>
      obtain ⟨a, b, c, d, e⟩ := clauseG_ok hx
      rw [hx] at h
      simp only at h
      split at h
      · cases h
        exact ⟨⟨a, b, c, d, trivial⟩, by simp, by simp⟩
      · split at h
        · cases k with
          | zero => cases h
          | succ k =>
            simp only at h
            cases hy : readG F n k (teT F n q.2.1) q.2.2 with
            | inl p => rw [hy] at h; cases h
            | inr cs2 =>
              rw [hy] at h
              cases h
              obtain ⟨i1, i2, i3⟩ := readG_ok k _ _ cs2 hy
              exact ⟨⟨a, b, c, d, e ▸ i1⟩, by simp, by simp; omega⟩
        · cases h
theorem so_of {x : Int32} (h : withinI x 0 3 = 1) : ∃ so, so < 4 ∧ x = nI so := by
  obtain ⟨k, hk, e⟩ := within_of (m := 4) (by omega) h
  exact ⟨k, hk, e⟩
