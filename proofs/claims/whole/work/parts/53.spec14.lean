/-! walks in the model's rows -/
def gS (s : NS) : Prop := gT s ∧ gC s.2.2.2.1 ∧ gP s.2.1
theorem gS_vis {p k κ κs so : Nat} {sg pr wa : Int32} {lt lr : Nat → Int32} {s : NS} (h : gS s) (hp : p < 6) : gS (visP (nI p) k κ κs so sg pr wa lt lr s) := by
  obtain ⟨h1, h2, p0, hp0, h3⟩ := h
  refine ⟨fun j _ => held_in _, ?_, p, hp, rfl⟩
  show gC (stepN lr (absI (nI p - s.2.1)) s).2.2.2.1
  rw [h3, absI_dN (by omega) (by omega)]
  exact gC_go h2 (by unfold dN; split <;> omega)
theorem visitN_vis (P : WP) (k : Nat) (s : NS) : visitN P k s = visP (placeI P.1 k s.2.2.2.2.2.2.2) k (P.2.1 k).1 (P.2.1 k).1 (P.2.1 k).2.1 (P.2.1 k).2.2.1 (P.2.1 k).2.2.2 P.2.2.1 P.2.2.2.1 P.2.2.2.2 s := rfl
theorem gS_visitN {P : WP} {k : Nat} {s : NS} (h : gS s) (hk : k < P.1) (hm : P.1 ≤ 6) : gS (visitN P k s) := by
  have hp := placeN_lt (tu := s.2.2.2.2.2.2.2) hk
  rw [visitN_vis, placeI_N hk]
  exact gS_vis h (by omega)
theorem gS_walk {P : WP} {ρ : Nat → Nat} {s : NS} (h : gS s) (hm : P.1 ≤ 6) : ∀ i, (∀ j, j < i → ρ j < P.1) → gS (walkN P ρ s i)
  | 0, _ => h
  | i + 1, hρ => gS_visitN (gS_walk h hm i (fun j hj => hρ j (by omega))) (hρ i (Nat.lt_succ_self i)) hm
/-- steps and smelt from nothing -/
def zSS (s : NS) : NS := (s.1, s.2.1, 0, s.2.2.2.1, s.2.2.2.2.1, s.2.2.2.2.2.1, 0, s.2.2.2.2.2.2.2)
def sameX (x z : Int32) (a b : NS) : Prop := a.1 = b.1 ∧ a.2.1 = b.2.1 ∧ a.2.2.1 = x + b.2.2.1 ∧ a.2.2.2.1 = b.2.2.2.1 ∧ a.2.2.2.2.1 = b.2.2.2.2.1 ∧ a.2.2.2.2.2.1 = b.2.2.2.2.2.1 ∧ a.2.2.2.2.2.2.1 = z + b.2.2.2.2.2.2.1 ∧ a.2.2.2.2.2.2.2 = b.2.2.2.2.2.2.2
theorem sameX_0 (s : NS) : sameX s.2.2.1 s.2.2.2.2.2.2.1 s (zSS s) := ⟨rfl, rfl, (Int32.add_zero _).symm, rfl, rfl, rfl, (Int32.add_zero _).symm, rfl⟩
theorem sameX_visit {P : WP} {k : Nat} {x z : Int32} {a b : NS} (h : sameX x z a b) : sameX x z (visitN P k a) (visitN P k b) ∧ visitS P k a = visitS P k b := by
  obtain ⟨a1, a2, a3, a4, a5, a6, a7, a8⟩ := a
  obtain ⟨b1, b2, b3, b4, b5, b6, b7, b8⟩ := b
  obtain ⟨h1, h2, h3, h4, h5, h6, h7, h8⟩ := h
  simp only at h1 h2 h3 h4 h5 h6 h7 h8
  subst h1 h2 h4 h5 h6 h8
  refine ⟨⟨rfl, rfl, ?_, rfl, rfl, rfl, ?_, rfl⟩, rfl⟩
  · show a3 + _ = x + (b3 + _)
    rw [h3, Int32.add_assoc]
  · show a7 + _ = z + (b7 + _)
    rw [h7, Int32.add_assoc]
    rfl
theorem sameX_walk {P : WP} {ρ : Nat → Nat} {x z : Int32} {a b : NS} (h : sameX x z a b) : ∀ i, sameX x z (walkN P ρ a i) (walkN P ρ b i)
  | 0 => h
  | i + 1 => (sameX_visit (sameX_walk h i)).1
theorem dS_z (P : WP) (s : NS) (N : Nat) (ρ : Nat → Nat) : dS P s N ρ = (walkN P ρ (zSS s) N).2.2.1 := by
  unfold dS
  rw [(sameX_walk (sameX_0 s) N).2.2.1]
  rw [Int32.add_comm, Int32.add_sub_cancel]
theorem dM_z (P : WP) (s : NS) (N : Nat) (ρ : Nat → Nat) : dM P s N ρ = (walkN P ρ (zSS s) N).2.2.2.2.2.2.1 := by
  unfold dM
  rw [(sameX_walk (sameX_0 s) N).2.2.2.2.2.2.1]
  rw [Int32.add_comm, Int32.add_sub_cancel]
theorem each_z (P : WP) (s : NS) (N : Nat) (mm : Int32) (ρ : Nat → Nat) : eachP P s N mm ρ ↔ ∀ i, i < N → mm ≤ visitS P (ρ i) (walkN P ρ (zSS s) i) := by
  unfold eachP
  constructor
  · intro h i hi
    rw [← (sameX_visit (P := P) (k := ρ i) (sameX_walk (P := P) (ρ := ρ) (sameX_0 s) i)).2]
    exact h i hi
  · intro h i hi
    rw [(sameX_visit (P := P) (k := ρ i) (sameX_walk (P := P) (ρ := ρ) (sameX_0 s) i)).2]
    exact h i hi
theorem gS_z {s : NS} (h : gS s) : gS (zSS s) := h
theorem dN_le {p q : Nat} (hp : p < 6) (hq : q < 6) : dN p q ≤ 5 := by
  unfold dN
  split <;> omega
theorem walk_st {P : WP} {ρ : Nat → Nat} {s : NS} (h : gS s) (hm : P.1 ≤ 6) : ∀ i, (∀ j, j < i → ρ j < P.1) → ∃ t, t ≤ 5 * i ∧ (walkN P ρ (zSS s) i).2.2.1 = nI t
  | 0, _ => ⟨0, Nat.le_refl _, rfl⟩
  | i + 1, hρ => by
    obtain ⟨t, ht, e⟩ := walk_st h hm i (fun j hj => hρ j (by omega))
    obtain ⟨-, -, p0, hp0, e0⟩ := gS_walk (gS_z h) hm i (fun j hj => hρ j (by omega))
    have hk := hρ i (Nat.lt_succ_self i)
    have hp := placeN_lt (tu := (walkN P ρ (zSS s) i).2.2.2.2.2.2.2) hk
    have hd := dN_le (p := placeN P.1 (ρ i) (walkN P ρ (zSS s) i).2.2.2.2.2.2.2) (q := p0) (by omega) hp0
    refine ⟨t + dN (placeN P.1 (ρ i) (walkN P ρ (zSS s) i).2.2.2.2.2.2.2) p0, by omega, ?_⟩
    show (walkN P ρ (zSS s) i).2.2.1 + absI (placeI P.1 (ρ i) (walkN P ρ (zSS s) i).2.2.2.2.2.2.2 - (walkN P ρ (zSS s) i).2.1) = _
    rw [e, e0, placeI_N hk, absI_dN (by omega) (by omega), nI_add]
/-! the model's arrays of orders -/
def kpO (N : Nat) (ω : Nat → Nat) (bo : Nat → Int32) : Nat → Int32 := fun j => if j < N then nI (ω j) else bo j
theorem kpO_s (N k : Nat) (ω : Nat → Nat) (bo : Nat → Int32) (j : Nat) : upd (kpO k ω bo) k (nI (ω k)) j = kpO (k + 1) ω bo j := by
  by_cases h : j = k
  · rw [h, pk_us, kpO, if_pos (Nat.lt_succ_self _)]
  · rw [pk_un h, kpO, kpO]
    by_cases h2 : j < k
    · rw [if_pos h2, if_pos (by omega)]
    · rw [if_neg h2, if_neg (by omega)]
def lR (f : Nat → Nat) : Nat → Int32 := fun j => nI (f j)
def zRow : MR := (fun _ => 0, fun _ => 0, 0, 0, 0, 0, 0, 0, 0)
theorem zRow_at : ∀ q, q < 16 → cellR zRow q = 0 := by
  intro q hq
  rcases q16 hq with rfl | rfl | rfl | rfl | rfl | rfl | rfl | rfl | rfl | rfl | rfl | rfl | rfl | rfl | rfl | rfl <;> rfl
theorem mW_z (j : Nat) : (0 : Int32) = mW (fun _ => zRow) j := (zRow_at _ (Nat.mod_lt _ (by decide))).symm
theorem as_eq (κ so : Nat) (ti : Nat → Int32) (s : NS) : ((tireN κ so ti s).1 so) - (s.1 so) + 99 = asI κ so ti s := rfl
