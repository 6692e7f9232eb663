/-! rows go on alike where their numbers lie alike; every row of a set comes to an end -/
section
variable {N M : Nat} {σ ω π : Nat → Nat}
theorem pivotC_rel (hσ : ∀ a b, a < M → b < M → (σ a < σ b ↔ a < b)) (h : ∀ j, j < N → ω j = σ (π j)) (hπ : ∀ j, j < N → π j < M) : ∀ c, c < N → pivotC ω c = pivotC π c
  | 0, _ => rfl
  | c + 1, hc => by
    have ih := pivotC_rel hσ h hπ c (by omega)
    have e := hσ (π (c + 1)) (π c) (hπ _ hc) (hπ _ (by omega))
    rw [pivotC, pivotC, ih, h _ hc, h c (by omega)]
    by_cases hh : π (c + 1) < π c
    · rw [if_pos hh, if_pos (e.mpr hh)]
    · rw [if_neg hh, if_neg (fun q => hh (e.mp q))]
theorem otherC_rel (hσ : ∀ a b, a < M → b < M → (σ a < σ b ↔ a < b)) (h : ∀ j, j < N → ω j = σ (π j)) (hπ : ∀ j, j < N → π j < M) {p : Nat} (hp : p < N) : ∀ o, o < N → otherC ω p o = otherC π p o
  | 0, _ => rfl
  | o + 1, ho => by
    have ih := otherC_rel hσ h hπ hp o (by omega)
    have e := hσ (π (o + 1)) (π p) (hπ _ ho) (hπ _ hp)
    rw [otherC, otherC, ih, h _ ho, h p hp]
    by_cases hh : p + 1 < o + 1 ∧ π (o + 1) < π p
    · rw [if_pos hh, if_pos ⟨hh.1, e.mpr hh.2⟩]
    · rw [if_neg hh, if_neg (fun q => hh ⟨q.1, e.mp q.2⟩)]
theorem swapR_rel (h : ∀ j, j < N → ω j = σ (π j)) {i j : Nat} (hi : i < N) (hj : j < N) : ∀ x, x < N → swapR ω i j x = σ (swapR π i j x) := by
  intro x hx
  rw [swapR, swapR]
  by_cases h2 : x = j
  · rw [h2, va_up_self, va_up_self, h i hi]
  · rw [va_up_ne _ _ h2, va_up_ne _ _ h2]
    by_cases h1 : x = i
    · rw [h1, va_up_self, va_up_self, h j hj]
    · rw [va_up_ne _ _ h1, va_up_ne _ _ h1, h x hx]
end
theorem revR_rel {N : Nat} {σ : Nat → Nat} : ∀ (f : Nat) (ω π : Nat → Nat) (lo hi : Nat), hi < N → (∀ j, j < N → ω j = σ (π j)) → ∀ x, x < N → revR f ω lo hi x = σ (revR f π lo hi x)
  | 0, _, _, _, _, _, h, x, hx => h x hx
  | f + 1, ω, π, lo, hi, hh, h, x, hx => by
    rw [revR, revR]
    by_cases hc : lo < hi
    · rw [if_pos hc, if_pos hc]
      exact revR_rel f _ _ _ _ (by omega) (swapR_rel h (by omega) hh) x hx
    · rw [if_neg hc, if_neg hc]
      exact h x hx
theorem stepR_rel {N M : Nat} {σ ω π : Nat → Nat} (hσ : ∀ a b, a < M → b < M → (σ a < σ b ↔ a < b)) (h : ∀ j, j < N → ω j = σ (π j)) (hπ : ∀ j, j < N → π j < M) : (stepR N ω = none ∧ stepR N π = none) ∨ ∃ a b, stepR N ω = some a ∧ stepR N π = some b ∧ (∀ j, j < N → a j = σ (b j)) ∧ (∀ j, j < N → b j < M) := by
  rcases stepR_cases N π with ⟨h0, e⟩ | ⟨nn, h0, hp, e⟩ | ⟨nn, p, h0, hp, e⟩
  · subst h0
    exact Or.inl ⟨rfl, e⟩
  · refine Or.inl ⟨?_, e⟩
    subst h0
    have hq := (pivotC_rel hσ h hπ nn (by omega)).trans hp
    simp only [stepR, hq]
  · refine Or.inr ⟨nextR ω (nn + 1) p, nextR π (nn + 1) p, ?_, e, ?_, ?_⟩
    · subst h0
      have hq := (pivotC_rel hσ h hπ nn (by omega)).trans hp
      simp only [stepR, hq]
    · subst h0
      have hple : p + 1 ≤ nn := hp ▸ pivotC_le π nn
      have ho := otherC_le π p nn
      intro x hx
      rw [nextR, nextR, Nat.add_sub_cancel, otherC_rel hσ h hπ (p := p) (by omega) nn (by omega)]
      exact revR_rel (nn + 1) _ _ _ _ (by omega) (swapR_rel h (by omega) (by omega)) x hx
    · subst h0
      have hple : p + 1 ≤ nn := hp ▸ pivotC_le π nn
      exact nextR_in (by omega) hπ
def endsG (N : Nat) : Nat → (Nat → Nat) → Prop
  | 0, _ => False
  | f + 1, ρ => match stepR N ρ with
    | none => True
    | some ρ2 => endsG N f ρ2
theorem endsG_rel {N M : Nat} {σ : Nat → Nat} (hσ : ∀ a b, a < M → b < M → (σ a < σ b ↔ a < b)) : ∀ (f : Nat) (ω π : Nat → Nat), (∀ j, j < N → ω j = σ (π j)) → (∀ j, j < N → π j < M) → endsG N f π → endsG N f ω
  | 0, _, _, _, _, e => e
  | f + 1, ω, π, h, hπ, e => by
    rw [endsG] at e ⊢
    rcases stepR_rel hσ h hπ with ⟨h1, h2⟩ | ⟨a, b, h1, h2, h3, h4⟩
    · rw [h1]; trivial
    · rw [h1]
      rw [h2] at e
      exact endsG_rel hσ f a b h3 h4 e
theorem endsG_more {N : Nat} : ∀ (f k : Nat) (ρ : Nat → Nat), endsG N f ρ → endsG N (f + k) ρ
  | 0, _, _, e => absurd e (by rw [endsG]; exact id)
  | f + 1, k, ρ, e => by
    rw [show f + 1 + k = (f + k) + 1 by omega]
    rw [endsG] at e ⊢
    cases h : stepR N ρ with
    | none => trivial
    | some a =>
      rw [h] at e
      exact endsG_more f k a e
abbrev T6 : Type := Nat × Nat × Nat × Nat × Nat × Nat
def fT (t : T6) : Nat → Nat := fun j => if j = 0 then t.1 else if j = 1 then t.2.1 else if j = 2 then t.2.2.1 else if j = 3 then t.2.2.2.1 else if j = 4 then t.2.2.2.2.1 else t.2.2.2.2.2
def okT (t : T6) : Bool := decide (t.1 < 6) && decide (t.2.1 < 6) && decide (t.2.2.1 < 6) && decide (t.2.2.2.1 < 6) && decide (t.2.2.2.2.1 < 6) && decide (t.2.2.2.2.2 < 6)
def seqN {α : Type} (x : Nat) (k : Nat → α) : α := match x with
  | 0 => k 0
  | 1 => k 1
  | 2 => k 2
  | 3 => k 3
  | 4 => k 4
  | 5 => k 5
  | y => k y
theorem seqN_eq {α : Type} (x : Nat) (k : Nat → α) : seqN x k = k x := by
  unfold seqN
  split <;> rfl
def runT (N : Nat) : Nat → T6 → Option T6
  | 0, t => some t
  | k + 1, t => match stepR N (fT t) with
    | none => none
    | some ρ => seqN (ρ 0) fun a => seqN (ρ 1) fun b => seqN (ρ 2) fun c => seqN (ρ 3) fun d => seqN (ρ 4) fun e => seqN (ρ 5) fun f => runT N k (a, b, c, d, e, f)
theorem fT_at (ρ : Nat → Nat) : ∀ j, j < 6 → ρ j = fT (ρ 0, ρ 1, ρ 2, ρ 3, ρ 4, ρ 5) j := by
  intro j hj
  rcases (show j = 0 ∨ j = 1 ∨ j = 2 ∨ j = 3 ∨ j = 4 ∨ j = 5 by omega) with rfl | rfl | rfl | rfl | rfl | rfl <;> rfl
theorem fT_lt {t : T6} (h : okT t = true) : ∀ j, j < 6 → fT t j < 6 := by
  intro j hj
  simp only [okT, Bool.and_eq_true, decide_eq_true_eq] at h
  obtain ⟨⟨⟨⟨⟨h0, h1⟩, h2⟩, h3⟩, h4⟩, h5⟩ := h
  rcases (show j = 0 ∨ j = 1 ∨ j = 2 ∨ j = 3 ∨ j = 4 ∨ j = 5 by omega) with rfl | rfl | rfl | rfl | rfl | rfl
  · exact h0
  · exact h1
  · exact h2
  · exact h3
  · exact h4
  · exact h5
theorem runT_ends {N f : Nat} (hN : N ≤ 6) {t2 : T6} : ∀ (k : Nat) (t : T6), runT N k t = some t2 → (∀ j, j < 6 → fT t j < 6) → ((∀ j, j < 6 → fT t2 j < 6) → endsG N f (fT t2)) → endsG N (f + k) (fT t)
  | 0, t, h, ht, e => by
    rw [runT] at h
    cases h
    exact e ht
  | k + 1, t, h, ht, e => by
    rw [runT] at h
    rw [show f + (k + 1) = (f + k) + 1 by omega, endsG]
    cases hs : stepR N (fT t) with
    | none => trivial
    | some ρ =>
      rw [hs] at h
      simp only [seqN_eq] at h
      rcases stepR_cases N (fT t) with ⟨h0, e1⟩ | ⟨nn, h0, hp, e1⟩ | ⟨nn, p, h0, hp, e1⟩
      · rw [e1] at hs; cases hs
      · rw [e1] at hs; cases hs
      · rw [e1] at hs
        have hρ : ρ = nextR (fT t) (nn + 1) p := (Option.some.inj hs).symm
        have hple : p + 1 ≤ nn := hp ▸ pivotC_le (fT t) nn
        have hin : ∀ j, j < 6 → ρ j < 6 := by
          have h9 : ∀ x, x < 6 → swapR (fT t) p (otherC (fT t) p nn) x < 6 := swapR_in (by omega) (by have := otherC_le (fT t) p nn; omega) ht
          intro j hj
          rw [hρ, nextR, Nat.add_sub_cancel]
          exact revR_in _ _ _ _ (by omega) h9 j hj
        have ih := runT_ends hN k _ h (fun j hj => by rw [← fT_at ρ j hj]; exact hin j hj) e
        exact endsG_rel (M := 6) (σ := id) (fun a b _ _ => Iff.rfl) (f + k) ρ (fT (ρ 0, ρ 1, ρ 2, ρ 3, ρ 4, ρ 5)) (fun j hj => fT_at ρ j (by omega)) (fun j hj => by rw [← fT_at ρ j (by omega)]; exact hin j (by omega)) ih
theorem endsG_moreF {N F : Nat} (f k : Nat) (hF : f + k = F) {ρ : Nat → Nat} (e : endsG N f ρ) : endsG N F ρ := hF ▸ endsG_more f k ρ e
theorem stepR_end {nn : Nat} {ρ : Nat → Nat} (h : pivotC ρ nn = 0) : stepR (nn + 1) ρ = none := by simp only [stepR, h]
theorem ends_none {N f : Nat} {ρ : Nat → Nat} (h : stepR N ρ = none) : endsG N (f + 1) ρ := by
  rw [endsG, h]
  trivial
theorem runT_endsF {N f F : Nat} (k : Nat) (hF : f + k = F) (hN : N ≤ 6) {t2 : T6} (t0 : T6) (h : runT N k t0 = some t2) (ht : okT t0 = true) (e : ∀ t, t = t2 → endsG N f (fT t)) (t : T6) (et : t = t0) : endsG N F (fT t) := by
  subst et
  rw [← hF]
  exact runT_ends hN k t h (fT_lt ht) (fun _ => e t2 rfl)
theorem endsN {N : Nat} (t0 : T6) (h : stepR N (fT t0) = none) (t : T6) (et : t = t0) : endsG N 1 (fT t) := by
  subst et
  exact ends_none (f := 0) h
theorem en_0_0 : ∀ t, t = ((0, 1, 2, 3, 4, 5) : T6) → endsG 0 1 (fT t) := endsN (N := 0) (0, 1, 2, 3, 4, 5) (rfl)
theorem ends7_0 : ∀ t, t = ((0, 1, 2, 3, 4, 5) : T6) → endsG 0 720 (fT t) := fun t h => endsG_moreF (N := 0) 1 719 rfl (en_0_0 t h)
theorem en_1_0 : ∀ t, t = ((0, 1, 2, 3, 4, 5) : T6) → endsG 1 1 (fT t) := endsN (N := 1) (0, 1, 2, 3, 4, 5) (stepR_end (nn := 0) (by decide +kernel))
theorem ends7_1 : ∀ t, t = ((0, 1, 2, 3, 4, 5) : T6) → endsG 1 720 (fT t) := fun t h => endsG_moreF (N := 1) 1 719 rfl (en_1_0 t h)
theorem rt_2_0 : runT 2 1 (0, 1, 2, 3, 4, 5) = some (1, 0, 2, 3, 4, 5) := by decide +kernel
theorem en_2_1 : ∀ t, t = ((1, 0, 2, 3, 4, 5) : T6) → endsG 2 1 (fT t) := endsN (N := 2) (1, 0, 2, 3, 4, 5) (stepR_end (nn := 1) (by decide +kernel))
theorem en_2_0 : ∀ t, t = ((0, 1, 2, 3, 4, 5) : T6) → endsG 2 2 (fT t) := runT_endsF (N := 2) (f := 1) (t2 := (1, 0, 2, 3, 4, 5)) 1 rfl (by decide) (0, 1, 2, 3, 4, 5) rt_2_0 rfl en_2_1
theorem ends7_2 : ∀ t, t = ((0, 1, 2, 3, 4, 5) : T6) → endsG 2 720 (fT t) := fun t h => endsG_moreF (N := 2) 2 718 rfl (en_2_0 t h)
theorem rt_3_0 : runT 3 5 (0, 1, 2, 3, 4, 5) = some (2, 1, 0, 3, 4, 5) := by decide +kernel
theorem en_3_1 : ∀ t, t = ((2, 1, 0, 3, 4, 5) : T6) → endsG 3 1 (fT t) := endsN (N := 3) (2, 1, 0, 3, 4, 5) (stepR_end (nn := 2) (by decide +kernel))
theorem en_3_0 : ∀ t, t = ((0, 1, 2, 3, 4, 5) : T6) → endsG 3 6 (fT t) := runT_endsF (N := 3) (f := 1) (t2 := (2, 1, 0, 3, 4, 5)) 5 rfl (by decide) (0, 1, 2, 3, 4, 5) rt_3_0 rfl en_3_1
theorem ends7_3 : ∀ t, t = ((0, 1, 2, 3, 4, 5) : T6) → endsG 3 720 (fT t) := fun t h => endsG_moreF (N := 3) 6 714 rfl (en_3_0 t h)
theorem rt_4_0 : runT 4 23 (0, 1, 2, 3, 4, 5) = some (3, 2, 1, 0, 4, 5) := by decide +kernel
theorem en_4_1 : ∀ t, t = ((3, 2, 1, 0, 4, 5) : T6) → endsG 4 1 (fT t) := endsN (N := 4) (3, 2, 1, 0, 4, 5) (stepR_end (nn := 3) (by decide +kernel))
theorem en_4_0 : ∀ t, t = ((0, 1, 2, 3, 4, 5) : T6) → endsG 4 24 (fT t) := runT_endsF (N := 4) (f := 1) (t2 := (3, 2, 1, 0, 4, 5)) 23 rfl (by decide) (0, 1, 2, 3, 4, 5) rt_4_0 rfl en_4_1
theorem ends7_4 : ∀ t, t = ((0, 1, 2, 3, 4, 5) : T6) → endsG 4 720 (fT t) := fun t h => endsG_moreF (N := 4) 24 696 rfl (en_4_0 t h)
theorem rt_5_0 : runT 5 40 (0, 1, 2, 3, 4, 5) = some (1, 3, 4, 0, 2, 5) := by decide +kernel
theorem rt_5_1 : runT 5 40 (1, 3, 4, 0, 2, 5) = some (3, 1, 2, 0, 4, 5) := by decide +kernel
theorem rt_5_2 : runT 5 39 (3, 1, 2, 0, 4, 5) = some (4, 3, 2, 1, 0, 5) := by decide +kernel
theorem en_5_3 : ∀ t, t = ((4, 3, 2, 1, 0, 5) : T6) → endsG 5 1 (fT t) := endsN (N := 5) (4, 3, 2, 1, 0, 5) (stepR_end (nn := 4) (by decide +kernel))
theorem en_5_2 : ∀ t, t = ((3, 1, 2, 0, 4, 5) : T6) → endsG 5 40 (fT t) := runT_endsF (N := 5) (f := 1) (t2 := (4, 3, 2, 1, 0, 5)) 39 rfl (by decide) (3, 1, 2, 0, 4, 5) rt_5_2 rfl en_5_3
theorem en_5_1 : ∀ t, t = ((1, 3, 4, 0, 2, 5) : T6) → endsG 5 80 (fT t) := runT_endsF (N := 5) (f := 40) (t2 := (3, 1, 2, 0, 4, 5)) 40 rfl (by decide) (1, 3, 4, 0, 2, 5) rt_5_1 rfl en_5_2
theorem en_5_0 : ∀ t, t = ((0, 1, 2, 3, 4, 5) : T6) → endsG 5 120 (fT t) := runT_endsF (N := 5) (f := 80) (t2 := (1, 3, 4, 0, 2, 5)) 40 rfl (by decide) (0, 1, 2, 3, 4, 5) rt_5_0 rfl en_5_1
theorem ends7_5 : ∀ t, t = ((0, 1, 2, 3, 4, 5) : T6) → endsG 5 720 (fT t) := fun t h => endsG_moreF (N := 5) 120 600 rfl (en_5_0 t h)
theorem rt_6_0 : runT 6 40 (0, 1, 2, 3, 4, 5) = some (0, 2, 4, 5, 1, 3) := by decide +kernel
theorem rt_6_1 : runT 6 40 (0, 2, 4, 5, 1, 3) = some (0, 4, 2, 3, 1, 5) := by decide +kernel
theorem rt_6_2 : runT 6 40 (0, 4, 2, 3, 1, 5) = some (1, 0, 2, 3, 4, 5) := by decide +kernel
theorem rt_6_3 : runT 6 40 (1, 0, 2, 3, 4, 5) = some (1, 2, 4, 5, 0, 3) := by decide +kernel
theorem rt_6_4 : runT 6 40 (1, 2, 4, 5, 0, 3) = some (1, 4, 2, 3, 0, 5) := by decide +kernel
theorem rt_6_5 : runT 6 40 (1, 4, 2, 3, 0, 5) = some (2, 0, 1, 3, 4, 5) := by decide +kernel
theorem rt_6_6 : runT 6 40 (2, 0, 1, 3, 4, 5) = some (2, 1, 4, 5, 0, 3) := by decide +kernel
theorem rt_6_7 : runT 6 40 (2, 1, 4, 5, 0, 3) = some (2, 4, 1, 3, 0, 5) := by decide +kernel
theorem rt_6_8 : runT 6 40 (2, 4, 1, 3, 0, 5) = some (3, 0, 1, 2, 4, 5) := by decide +kernel
theorem rt_6_9 : runT 6 40 (3, 0, 1, 2, 4, 5) = some (3, 1, 4, 5, 0, 2) := by decide +kernel
theorem rt_6_10 : runT 6 40 (3, 1, 4, 5, 0, 2) = some (3, 4, 1, 2, 0, 5) := by decide +kernel
theorem rt_6_11 : runT 6 40 (3, 4, 1, 2, 0, 5) = some (4, 0, 1, 2, 3, 5) := by decide +kernel
theorem rt_6_12 : runT 6 40 (4, 0, 1, 2, 3, 5) = some (4, 1, 3, 5, 0, 2) := by decide +kernel
theorem rt_6_13 : runT 6 40 (4, 1, 3, 5, 0, 2) = some (4, 3, 1, 2, 0, 5) := by decide +kernel
theorem rt_6_14 : runT 6 40 (4, 3, 1, 2, 0, 5) = some (5, 0, 1, 2, 3, 4) := by decide +kernel
theorem rt_6_15 : runT 6 40 (5, 0, 1, 2, 3, 4) = some (5, 1, 3, 4, 0, 2) := by decide +kernel
theorem rt_6_16 : runT 6 40 (5, 1, 3, 4, 0, 2) = some (5, 3, 1, 2, 0, 4) := by decide +kernel
theorem rt_6_17 : runT 6 39 (5, 3, 1, 2, 0, 4) = some (5, 4, 3, 2, 1, 0) := by decide +kernel
theorem en_6_18 : ∀ t, t = ((5, 4, 3, 2, 1, 0) : T6) → endsG 6 1 (fT t) := endsN (N := 6) (5, 4, 3, 2, 1, 0) (stepR_end (nn := 5) (by decide +kernel))
theorem en_6_17 : ∀ t, t = ((5, 3, 1, 2, 0, 4) : T6) → endsG 6 40 (fT t) := runT_endsF (N := 6) (f := 1) (t2 := (5, 4, 3, 2, 1, 0)) 39 rfl (by decide) (5, 3, 1, 2, 0, 4) rt_6_17 rfl en_6_18
theorem en_6_16 : ∀ t, t = ((5, 1, 3, 4, 0, 2) : T6) → endsG 6 80 (fT t) := runT_endsF (N := 6) (f := 40) (t2 := (5, 3, 1, 2, 0, 4)) 40 rfl (by decide) (5, 1, 3, 4, 0, 2) rt_6_16 rfl en_6_17
theorem en_6_15 : ∀ t, t = ((5, 0, 1, 2, 3, 4) : T6) → endsG 6 120 (fT t) := runT_endsF (N := 6) (f := 80) (t2 := (5, 1, 3, 4, 0, 2)) 40 rfl (by decide) (5, 0, 1, 2, 3, 4) rt_6_15 rfl en_6_16
theorem en_6_14 : ∀ t, t = ((4, 3, 1, 2, 0, 5) : T6) → endsG 6 160 (fT t) := runT_endsF (N := 6) (f := 120) (t2 := (5, 0, 1, 2, 3, 4)) 40 rfl (by decide) (4, 3, 1, 2, 0, 5) rt_6_14 rfl en_6_15
theorem en_6_13 : ∀ t, t = ((4, 1, 3, 5, 0, 2) : T6) → endsG 6 200 (fT t) := runT_endsF (N := 6) (f := 160) (t2 := (4, 3, 1, 2, 0, 5)) 40 rfl (by decide) (4, 1, 3, 5, 0, 2) rt_6_13 rfl en_6_14
theorem en_6_12 : ∀ t, t = ((4, 0, 1, 2, 3, 5) : T6) → endsG 6 240 (fT t) := runT_endsF (N := 6) (f := 200) (t2 := (4, 1, 3, 5, 0, 2)) 40 rfl (by decide) (4, 0, 1, 2, 3, 5) rt_6_12 rfl en_6_13
theorem en_6_11 : ∀ t, t = ((3, 4, 1, 2, 0, 5) : T6) → endsG 6 280 (fT t) := runT_endsF (N := 6) (f := 240) (t2 := (4, 0, 1, 2, 3, 5)) 40 rfl (by decide) (3, 4, 1, 2, 0, 5) rt_6_11 rfl en_6_12
theorem en_6_10 : ∀ t, t = ((3, 1, 4, 5, 0, 2) : T6) → endsG 6 320 (fT t) := runT_endsF (N := 6) (f := 280) (t2 := (3, 4, 1, 2, 0, 5)) 40 rfl (by decide) (3, 1, 4, 5, 0, 2) rt_6_10 rfl en_6_11
theorem en_6_9 : ∀ t, t = ((3, 0, 1, 2, 4, 5) : T6) → endsG 6 360 (fT t) := runT_endsF (N := 6) (f := 320) (t2 := (3, 1, 4, 5, 0, 2)) 40 rfl (by decide) (3, 0, 1, 2, 4, 5) rt_6_9 rfl en_6_10
theorem en_6_8 : ∀ t, t = ((2, 4, 1, 3, 0, 5) : T6) → endsG 6 400 (fT t) := runT_endsF (N := 6) (f := 360) (t2 := (3, 0, 1, 2, 4, 5)) 40 rfl (by decide) (2, 4, 1, 3, 0, 5) rt_6_8 rfl en_6_9
theorem en_6_7 : ∀ t, t = ((2, 1, 4, 5, 0, 3) : T6) → endsG 6 440 (fT t) := runT_endsF (N := 6) (f := 400) (t2 := (2, 4, 1, 3, 0, 5)) 40 rfl (by decide) (2, 1, 4, 5, 0, 3) rt_6_7 rfl en_6_8
theorem en_6_6 : ∀ t, t = ((2, 0, 1, 3, 4, 5) : T6) → endsG 6 480 (fT t) := runT_endsF (N := 6) (f := 440) (t2 := (2, 1, 4, 5, 0, 3)) 40 rfl (by decide) (2, 0, 1, 3, 4, 5) rt_6_6 rfl en_6_7
theorem en_6_5 : ∀ t, t = ((1, 4, 2, 3, 0, 5) : T6) → endsG 6 520 (fT t) := runT_endsF (N := 6) (f := 480) (t2 := (2, 0, 1, 3, 4, 5)) 40 rfl (by decide) (1, 4, 2, 3, 0, 5) rt_6_5 rfl en_6_6
theorem en_6_4 : ∀ t, t = ((1, 2, 4, 5, 0, 3) : T6) → endsG 6 560 (fT t) := runT_endsF (N := 6) (f := 520) (t2 := (1, 4, 2, 3, 0, 5)) 40 rfl (by decide) (1, 2, 4, 5, 0, 3) rt_6_4 rfl en_6_5
theorem en_6_3 : ∀ t, t = ((1, 0, 2, 3, 4, 5) : T6) → endsG 6 600 (fT t) := runT_endsF (N := 6) (f := 560) (t2 := (1, 2, 4, 5, 0, 3)) 40 rfl (by decide) (1, 0, 2, 3, 4, 5) rt_6_3 rfl en_6_4
theorem en_6_2 : ∀ t, t = ((0, 4, 2, 3, 1, 5) : T6) → endsG 6 640 (fT t) := runT_endsF (N := 6) (f := 600) (t2 := (1, 0, 2, 3, 4, 5)) 40 rfl (by decide) (0, 4, 2, 3, 1, 5) rt_6_2 rfl en_6_3
theorem en_6_1 : ∀ t, t = ((0, 2, 4, 5, 1, 3) : T6) → endsG 6 680 (fT t) := runT_endsF (N := 6) (f := 640) (t2 := (0, 4, 2, 3, 1, 5)) 40 rfl (by decide) (0, 2, 4, 5, 1, 3) rt_6_1 rfl en_6_2
theorem en_6_0 : ∀ t, t = ((0, 1, 2, 3, 4, 5) : T6) → endsG 6 720 (fT t) := runT_endsF (N := 6) (f := 680) (t2 := (0, 2, 4, 5, 1, 3)) 40 rfl (by decide) (0, 1, 2, 3, 4, 5) rt_6_0 rfl en_6_1
theorem ends7_6 : ∀ t, t = ((0, 1, 2, 3, 4, 5) : T6) → endsG 6 720 (fT t) := fun t h => endsG_moreF (N := 6) 720 0 rfl (en_6_0 t h)
set_option maxRecDepth 100000 in
theorem ends720 {N : Nat} (hN : N ≤ 6) {ρ : Nat → Nat} (h : ∀ i j, i < j → j < N → ρ i < ρ j) : endsG N 720 ρ := by
  have hb : ∀ t, t = ((0, 1, 2, 3, 4, 5) : T6) → endsG N 720 (fT t) := by
    rcases (show N = 0 ∨ N = 1 ∨ N = 2 ∨ N = 3 ∨ N = 4 ∨ N = 5 ∨ N = 6 by omega) with rfl | rfl | rfl | rfl | rfl | rfl | rfl
    · exact ends7_0
    · exact ends7_1
    · exact ends7_2
    · exact ends7_3
    · exact ends7_4
    · exact ends7_5
    · exact ends7_6
  have hid : ∀ j, j < 6 → fT (0, 1, 2, 3, 4, 5) j = j := by
    intro j hj
    rcases (show j = 0 ∨ j = 1 ∨ j = 2 ∨ j = 3 ∨ j = 4 ∨ j = 5 by omega) with rfl | rfl | rfl | rfl | rfl | rfl <;> rfl
  refine endsG_rel (M := N) (σ := ρ) (fun a b ha hb2 => ⟨fun h1 => ?_, fun h1 => h a b h1 hb2⟩) 720 ρ _ (fun j hj => by rw [hid j (by omega)]) (fun j hj => by rw [hid j (by omega)]; exact hj) (hb _ rfl)
  rcases Nat.lt_trichotomy a b with h2 | h2 | h2
  · exact h2
  · rw [h2] at h1; omega
  · have := h b a h2 ha
    omega
theorem fillW_mono (x : Int32) (ρ : Nat → Nat) : ∀ j i i2, i < i2 → i2 < (fillW x ρ j).1 → (fillW x ρ j).2 i < (fillW x ρ j).2 i2
  | 0, _, _, _, h => absurd h (Nat.not_lt_zero _)
  | j + 1, i, i2, h1, h2 => by
    rw [fillW] at h2 ⊢
    split at h2
    · rename_i hc
      rw [if_pos hc]
      have h3 : i2 < (fillW x ρ j).1 + 1 := h2
      show va_up (fillW x ρ j).2 (fillW x ρ j).1 j i < va_up (fillW x ρ j).2 (fillW x ρ j).1 j i2
      rw [va_up_ne _ _ (show i ≠ (fillW x ρ j).1 by omega)]
      by_cases h4 : i2 = (fillW x ρ j).1
      · rw [h4, va_up_self]
        exact (fillW_in x ρ j i (by omega)).1
      · rw [va_up_ne _ _ h4]
        exact fillW_mono x ρ j i i2 h1 (by omega)
    · rename_i hc
      rw [if_neg hc]
      exact fillW_mono x ρ j i i2 h1 h2
theorem fillW_same (x : Int32) (ρ ω : Nat → Nat) : ∀ j, (fillW x ρ j).1 = (fillW x ω j).1 ∧ ∀ i, i < (fillW x ρ j).1 → (fillW x ω j).2 i = (fillW x ρ j).2 i
  | 0 => ⟨rfl, fun i h => absurd h (Nat.not_lt_zero _)⟩
  | j + 1 => by
    obtain ⟨h1, h2⟩ := fillW_same x ρ ω j
    rw [fillW, fillW]
    by_cases hc : (x >>> (nI j &&& 31)) &&& 1 = 1
    · rw [if_pos hc, if_pos hc]
      refine ⟨by show (fillW x ρ j).1 + 1 = (fillW x ω j).1 + 1; rw [h1], fun i hi => ?_⟩
      have hi2 : i < (fillW x ρ j).1 + 1 := hi
      show va_up (fillW x ω j).2 (fillW x ω j).1 j i = va_up (fillW x ρ j).2 (fillW x ρ j).1 j i
      rw [← h1]
      by_cases h4 : i = (fillW x ρ j).1
      · rw [h4, va_up_self, va_up_self]
      · rw [va_up_ne _ _ h4, va_up_ne _ _ h4]
        exact h2 i (by omega)
    · rw [if_neg hc, if_neg hc]
      exact ⟨h1, h2⟩
theorem bit_hi {a m j : Nat} (ha : a < 2 ^ m) (hm : m ≤ j) (hj : j < 6) : ¬ (nI a >>> (nI j &&& 31)) &&& 1 = 1 := by
  have hp : (2 : Nat) ^ m ≤ 2 ^ j := Nat.pow_le_pow_right (by decide) hm
  have hj6 : (2 : Nat) ^ j ≤ 2 ^ 6 := Nat.pow_le_pow_right (by decide) (by omega)
  have h0 : nI a >>> (nI j &&& 31) = 0 := by
    rw [pk_shrN (by omega) (nI j &&& 31) j (by rcases (show j = 0 ∨ j = 1 ∨ j = 2 ∨ j = 3 ∨ j = 4 ∨ j = 5 by omega) with rfl | rfl | rfl | rfl | rfl | rfl <;> decide), Nat.div_eq_of_lt (by omega)]
    rfl
  rw [h0]
  decide
theorem fillW_6 {a m : Nat} (ρ : Nat → Nat) (ha : a < 2 ^ m) : ∀ d, m + d ≤ 6 → fillW (nI a) ρ (m + d) = fillW (nI a) ρ m
  | 0, _ => rfl
  | d + 1, h => by
    rw [show m + (d + 1) = (m + d) + 1 by omega, fillW, if_neg (bit_hi ha (by omega) (by omega))]
    exact fillW_6 ρ ha d (by omega)
/-- what all rows of a set know of each other -/
theorem setRow {xs : Int32} {m : Nat} (hm : m ≤ 6) (h : withinI xs 0 (nI (2 ^ m - 1)) = 1) (ρ0 ω0 : Nat → Nat) : fillW xs ρ0 6 = fillW xs ρ0 m ∧ (fillW xs ω0 m).1 = (fillW xs ρ0 6).1 ∧ (∀ i, i < (fillW xs ρ0 6).1 → (fillW xs ω0 m).2 i = (fillW xs ρ0 6).2 i) ∧ (∀ i, i < (fillW xs ρ0 6).1 → (fillW xs ρ0 6).2 i < m) ∧ (fillW xs ρ0 6).1 ≤ m ∧ endsG (fillW xs ρ0 6).1 720 (fillW xs ρ0 6).2 := by
  have hp : (2 : Nat) ^ m ≤ 2 ^ 6 := Nat.pow_le_pow_right (by decide) hm
  have hp1 : 0 < (2 : Nat) ^ m := Nat.pow_pos (by decide)
  obtain ⟨a, -, ha, rfl⟩ := withinN_of (lo := 0) (hi := 2 ^ m - 1) (by omega) (by omega) h
  have e : fillW (nI a) ρ0 6 = fillW (nI a) ρ0 m := by
    have h9 := fillW_6 (a := a) (m := m) ρ0 (by omega) (6 - m) (by omega)
    rwa [show m + (6 - m) = 6 by omega] at h9
  have h2 := fillW_same (nI a) ρ0 ω0 m
  rw [e]
  refine ⟨rfl, h2.1.symm, h2.2, fun i hi => (fillW_in _ _ _ i hi).1, fillW_le _ _ _, ?_⟩
  exact ends720 (Nat.le_trans (fillW_le _ _ _) hm) (fun i j h3 h4 => fillW_mono _ _ _ i j h3 h4)
theorem swapR_inj {ρ : Nat → Nat} {N i j : Nat} (hi : i < N) (hj : j < N) (h : ∀ x z, x < N → z < N → ρ x = ρ z → x = z) : ∀ x z, x < N → z < N → swapR ρ i j x = swapR ρ i j z → x = z := by
  intro x z hx hz e
  simp only [swapR, va_up] at e
  have f1 := h x z hx hz
  have f2 := h i z hi hz
  have f3 := h j z hj hz
  have f4 := h x i hx hi
  have f5 := h x j hx hj
  have f6 := h i j hi hj
  have f7 := h j i hj hi
  by_cases a0 : i = j
  · subst a0
    by_cases a1 : x = i <;> by_cases a3 : z = i <;> simp only [a1, a3, if_true, if_false] at e <;> first | omega | (have := f1 e; omega) | (have := f2 e; omega) | (have := f4 e; omega)
  have a00 : ¬ j = i := fun h9 => a0 h9.symm
  by_cases a1 : x = j <;> by_cases a2 : x = i <;> by_cases a3 : z = j <;> by_cases a4 : z = i <;> simp only [a1, a2, a3, a4, a0, a00, if_true, if_false] at e <;> first | omega | (have := f1 e; omega) | (have := f2 e; omega) | (have := f3 e; omega) | (have := f4 e; omega) | (have := f5 e; omega) | (have := f6 e; omega) | (have := f7 e; omega) | (have := f1 e.symm; omega) | (have := f2 e.symm; omega) | (have := f3 e.symm; omega) | (have := f4 e.symm; omega) | (have := f5 e.symm; omega) | (have := f6 e.symm; omega) | (have := f7 e.symm; omega)
theorem revR_inj {N : Nat} : ∀ (f : Nat) (ρ : Nat → Nat) (lo hi : Nat), hi < N → (∀ x z, x < N → z < N → ρ x = ρ z → x = z) → ∀ x z, x < N → z < N → revR f ρ lo hi x = revR f ρ lo hi z → x = z
  | 0, _, _, _, _, h => h
  | f + 1, ρ, lo, hi, hh, h => by
    intro x z hx hz e
    rw [revR] at e
    by_cases hc : lo < hi
    · rw [if_pos hc] at e
      exact revR_inj f _ _ _ (by omega) (swapR_inj (by omega) hh h) x z hx hz e
    · rw [if_neg hc] at e
      exact h x z hx hz e
theorem stepR_inj {N : Nat} {ρ a : Nat → Nat} (hs : stepR N ρ = some a) (h : ∀ x z, x < N → z < N → ρ x = ρ z → x = z) : ∀ x z, x < N → z < N → a x = a z → x = z := by
  rcases stepR_cases N ρ with ⟨h0, e⟩ | ⟨nn, h0, hp, e⟩ | ⟨nn, p, h0, hp, e⟩
  · rw [e] at hs; cases hs
  · rw [e] at hs; cases hs
  · rw [e] at hs
    cases hs
    subst h0
    have hple : p + 1 ≤ nn := hp ▸ pivotC_le ρ nn
    have ho := otherC_le ρ p nn
    rw [nextR, Nat.add_sub_cancel]
    exact revR_inj _ _ _ _ (by omega) (swapR_inj (by omega) (by omega) h)
theorem stepR_in {N M : Nat} {ρ a : Nat → Nat} (hs : stepR N ρ = some a) (h : ∀ x, x < N → ρ x < M) : ∀ x, x < N → a x < M := by
  rcases stepR_cases N ρ with ⟨h0, e⟩ | ⟨nn, h0, hp, e⟩ | ⟨nn, p, h0, hp, e⟩
  · rw [e] at hs; cases hs
  · rw [e] at hs; cases hs
  · rw [e] at hs
    cases hs
    subst h0
    have hple : p + 1 ≤ nn := hp ▸ pivotC_le ρ nn
    exact nextR_in (by omega) h
