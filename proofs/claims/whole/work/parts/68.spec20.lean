/-! the law: what the two sides hold alike -/
def rowM (m : Nat) (R : MR) (s : NS) : Prop := R.2 = s ∧ (∀ k, k < m → R.1 k = placeI m k s.2.2.2.2.2.2.2) ∧ gT s ∧ gC s.2.2.2.1 ∧ (∃ p, s.2.1 = nI p ∧ (p < m ∨ p = 0)) ∧ (s.2.2.2.2.2.2.2 = 0 ∨ s.2.2.2.2.2.2.2 = 1)
theorem rowM_at {m : Nat} {R : MR} {s : NS} (h : rowM m R s) : ∃ pw, R = (pw, s) := ⟨R.1, Prod.ext rfl h.1⟩
theorem rowM_pl {m : Nat} {R : MR} {s : NS} {pw : Nat → Int32} (h : rowM m R s) (e : R = (pw, s)) : ∀ k, k < m → pw k = placeI m k s.2.2.2.2.2.2.2 := fun k hk => by
  have h1 := h.2.1 k hk
  rw [e] at h1
  exact h1
theorem rowM_tu {m : Nat} {R : MR} {s : NS} (h : rowM m R s) : s.2.2.2.2.2.2.2 = 0 ∨ s.2.2.2.2.2.2.2 = 1 := h.2.2.2.2.2
theorem rowM_gS {m : Nat} {R : MR} {s : NS} (h : rowM m R s) (hm : m ≤ 6) : gS s := by
  obtain ⟨p, hp, hp2⟩ := h.2.2.2.2.1
  exact ⟨h.2.2.1, h.2.2.2.1, p, by omega, hp⟩
theorem rowM_vis {m : Nat} {R : MR} {s : NS} {pw : Nat → Int32} (h : rowM m R s) (e : R = (pw, s)) {k κ so : Nat} {sg pr wa : Int32} {ti r : Nat → Int32} (hk : k < m) (hm : m ≤ 6) : rowM m (pw, callN m k κ so sg pr wa ti r s) (callN m k κ so sg pr wa ti r s) := by
  have hp : placeI m k s.2.2.2.2.2.2.2 = nI (placeN m k s.2.2.2.2.2.2.2) := placeI_N hk
  have hp2 : placeN m k s.2.2.2.2.2.2.2 < m := placeN_lt hk
  have hg : gS (callN m k κ so sg pr wa ti r s) := by
    rw [callN_vis, hp]
    exact gS_vis (rowM_gS h hm) (by omega)
  exact ⟨rfl, (fun k9 h9 => rowM_pl h e k9 h9), hg.1, hg.2.1, ⟨_, hp, Or.inl hp2⟩, h.2.2.2.2.2⟩
theorem rowM_idle {m : Nat} {R : MR} {s : NS} {pw : Nat → Int32} (h : rowM m R s) (e : R = (pw, s)) {r : Nat → Int32} {n : Nat} (hn : n ≤ 20) : rowM m (pw, stepN r (nI n) s) (stepN r (nI n) s) := ⟨rfl, (fun k9 h9 => rowM_pl h e k9 h9), gT_go, gC_go h.2.2.2.1 (by omega), h.2.2.2.2.1, h.2.2.2.2.2⟩
theorem rowM_cold {m : Nat} {R : MR} {s : NS} {pw : Nat → Int32} (h : rowM m R s) (e : R = (pw, s)) {x : Int32} (hx : withinI x 0 50 = 1) : rowM m (pw, coldN x s) (coldN x s) := by
  obtain ⟨c, -, hc, rfl⟩ := withinN_of (lo := 0) (hi := 50) (by decide) (by decide) hx
  exact ⟨rfl, (fun k9 h9 => rowM_pl h e k9 h9), h.2.2.1, ⟨c, hc, rfl⟩, h.2.2.2.2.1, h.2.2.2.2.2⟩
theorem nI_back {m k : Nat} (hk : k < m) (hm : m ≤ 6) : nI m - 1 - nI k = nI (m - 1 - k) ∧ nI m - 1 - (nI m - 1 - nI k) = nI k := by
  have h1 : nI m - 1 = nI (m - 1) := pk_sub (b := 1) (by omega)
  have h2 : nI m - 1 - nI k = nI (m - 1 - k) := by rw [h1]; exact pk_sub (by omega)
  refine ⟨h2, ?_⟩
  rw [h2, h1, pk_sub (by omega)]
  congr 1
  omega
theorem rowM_wind {m : Nat} {R : MR} {s : NS} {pw : Nat → Int32} (h : rowM m R s) (e : R = (pw, s)) (h0 : 0 < m) (hm : m ≤ 6) : rowM m (wPl m m pw, windN m s) (windN m s) := by
  have hpl := rowM_pl h e
  refine ⟨rfl, fun k hk => ?_, h.2.2.1, h.2.2.2.1, ?_, ?_⟩
  · show wPl m m pw k = placeI m k (if s.2.2.2.2.2.2.2 = 0 then 1 else 0)
    rw [wPl, if_pos hk, hpl k hk]
    rcases h.2.2.2.2.2 with h1 | h1
    · rw [h1, placeI, if_pos rfl, if_pos rfl, placeI, if_neg (by decide)]
    · rw [h1, placeI, if_neg (by decide), if_neg (by decide), placeI, if_pos rfl]
      exact (nI_back hk hm).2
  · obtain ⟨p, hp, hp2⟩ := h.2.2.2.2.1
    have hp3 : p < m := by omega
    exact ⟨m - 1 - p, (show nI m - 1 - s.2.1 = nI (m - 1 - p) by rw [hp]; exact (nI_back hp3 hm).1), Or.inl (by omega)⟩
  · show (if s.2.2.2.2.2.2.2 = 0 then (1 : Int32) else 0) = 0 ∨ (if s.2.2.2.2.2.2.2 = 0 then (1 : Int32) else 0) = 1
    by_cases h1 : s.2.2.2.2.2.2.2 = 0
    · exact Or.inr (if_pos h1)
    · exact Or.inl (if_neg h1)
theorem rowM_new (m : Nat) (lp : Int32) : rowM m ((fun k => nI k), freshT lp 0) (freshT lp 0) := ⟨rfl, fun k _ => (if_pos rfl : placeI m k 0 = nI k).symm, fun _ _ => ⟨0, by omega, rfl⟩, ⟨0, by omega, rfl⟩, ⟨0, rfl, Or.inr rfl⟩, Or.inl rfl⟩
/-- the past: the u rows of the model from 4 on are the nose's last u, the ring's next place p -/
def pastM (m p u : Nat) (ρ : Nat → MR) (f : Nat → NS) : Prop := ∀ j, j < u → rowM m (ρ (4 + j)) (f ((p + 8 - u + j) % 8))
theorem past_row0 {m p u : Nat} {ρ : Nat → MR} {f : Nat → NS} {X : MR} {i : Nat} (h : pastM m p u ρ f) (hi : i < 4) : pastM m p u (va_up ρ i X) f := fun j hj => by
  rw [va_up_ne _ _ (by omega)]
  exact h j hj
theorem past_rem {m p u : Nat} {ρ : Nat → MR} {f : Nat → NS} {s : NS} {X : MR} (h : pastM m p u ρ f) (h0 : rowM m (ρ 0) s) (hp : p < 8) (hu : u ≤ 8) : pastM m ((p + 1) % 8) (min 8 (u + 1)) (va_up (remR ρ u) 0 X) (va_up f p s) := by
  refine past_row0 (fun j hj => ?_) (by omega)
  by_cases h8 : u = 8
  · subst h8
    have hj8 : j < 8 := by omega
    rw [show ((p + 1) % 8 + 8 - min 8 (8 + 1) + j) % 8 = (p + 1 + j) % 8 by omega, remR, if_pos rfl]
    by_cases hj7 : j = 7
    · subst hj7
      rw [show 4 + 7 = 11 from rfl, va_up_self, show (p + 1 + 7) % 8 = p by omega, va_up_self]
      exact h0
    · rw [va_up_ne _ _ (by omega), va_up_ne _ _ (by omega), shR, if_pos (by omega)]
      have h1 := h (j + 1) (by omega)
      rw [show (p + 8 - 8 + (j + 1)) % 8 = (p + 1 + j) % 8 by omega] at h1
      exact h1
  · have hm : min 8 (u + 1) = u + 1 := by omega
    rw [hm] at hj ⊢
    rw [remR, if_neg h8, show ((p + 1) % 8 + 8 - (u + 1) + j) % 8 = (p + 8 - u + j) % 8 by omega]
    by_cases hju : j = u
    · subst hju
      rw [va_up_self, show (p + 8 - j + j) % 8 = p by omega, va_up_self]
      exact h0
    · rw [va_up_ne _ _ (by omega), va_up_ne _ _ (by omega)]
      exact h j (by omega)
theorem past_undo {m p u : Nat} {ρ : Nat → MR} {f : Nat → NS} {X : MR} (h : pastM m p (u + 1) ρ f) (hp : p < 8) (hu : u < 8) : rowM m (ρ (4 + u)) (f ((p + 7) % 8)) ∧ pastM m ((p + 7) % 8) u (va_up ρ 0 X) f := by
  have h1 := h u (by omega)
  rw [show (p + 8 - (u + 1) + u) % 8 = (p + 7) % 8 by omega] at h1
  refine ⟨h1, past_row0 (fun j hj => ?_) (by omega)⟩
  have h2 := h j (by omega)
  rw [show (p + 8 - (u + 1) + j) % 8 = ((p + 7) % 8 + 8 - u + j) % 8 by omega] at h2
  exact h2
/-- what is kept -/
def keptM (m : Nat) (ρ : Nat → MR) (fk : Nat → NS) (zf : Nat → Int32) : Prop := ∀ k, k < 2 → zf k = 0 ∨ (zf k = 1 ∧ rowM m (ρ (2 + k)) (fk k))
theorem kept_row {m : Nat} {ρ : Nat → MR} {fk : Nat → NS} {zf : Nat → Int32} {X : MR} {i : Nat} (h : keptM m ρ fk zf) (hi : i < 2) : keptM m (va_up ρ i X) fk zf := fun k hk => by
  rw [va_up_ne _ _ (by omega)]
  exact h k hk
theorem kept_rem {m u : Nat} {ρ : Nat → MR} {fk : Nat → NS} {zf : Nat → Int32} {X : MR} (h : keptM m ρ fk zf) : keptM m (va_up (remR ρ u) 0 X) fk zf := kept_row (fun k hk => by rw [remR_lo (by omega)]; exact h k hk) (by omega)
theorem kept_keep {m k : Nat} {ρ : Nat → MR} {fk : Nat → NS} {zf : Nat → Int32} {s : NS} (h : keptM m ρ fk zf) (h0 : rowM m (ρ 0) s) (hk : k < 2) : keptM m (va_up ρ (2 + k) (ρ 0)) (va_up fk k s) (upd zf k 1) := fun j hj => by
  by_cases hjk : j = k
  · subst hjk
    rw [va_up_self, va_up_self]
    exact Or.inr ⟨pk_us, h0⟩
  · rw [va_up_ne _ _ (by omega), va_up_ne _ _ hjk, pk_un hjk]
    exact h j hj
theorem kept_none (m : Nat) (ρ : Nat → MR) (fk : Nat → NS) : keptM m ρ fk (fun _ => 0) := fun _ _ => Or.inl rfl
theorem past_keep {m p u k : Nat} {ρ : Nat → MR} {f : Nat → NS} {X : MR} (h : pastM m p u ρ f) (hk : k < 2) : pastM m p u (va_up ρ (2 + k) X) f := past_row0 h (by omega)
theorem past_0 (m p : Nat) (ρ : Nat → MR) (f : Nat → NS) : pastM m p 0 ρ f := fun _ hj => absurd hj (by omega)
theorem row0_up {m : Nat} {ρ : Nat → MR} {X : MR} {s : NS} {i : Nat} (h : rowM m (ρ 0) s) (hi : i ≠ 0) : rowM m (va_up ρ i X 0) s := by
  rw [va_up_ne _ _ (Ne.symm hi)]; exact h
theorem row0_at {m : Nat} {ρ : Nat → MR} {X : MR} {s : NS} (h : rowM m X s) : rowM m (va_up ρ 0 X 0) s := by
  rw [va_up_self]; exact h
/-- the lane's table from the model's arrays -/
theorem MF_tab {L : List Nat} {K : Nat → Prop} {m : Nat} {wf : Nat → Option Nat} {h : Nat → va_E} {Ti Re Ki So St Pr Sh Wa Pu ti r : Nat → Int32} {wa lp : Int32} {sf : Nat → SHP} (H : MF (Ti, Re, Ki, So, St, Pr, Sh, Wa, Pu) (ti, r, m, wa, lp, sf)) (S : ShopsAt L K m wf sf h) : TabS m sf Ki So St Pr := fun k hk => by
  obtain ⟨q, -, -, -, -, h1, h2⟩ := S k hk
  have h3 := H.2.2.1 k hk
  exact ⟨h3.1, h3.2.1, h3.2.2.1, h3.2.2.2, h1, h2⟩
theorem best_01 {P : WP} {s : NS} {N : Nat} {mm : Int32} : ∀ (l : List (Nat → Nat)) (q : BST), (q.1 = 0 ∨ q.1 = 1) → (l.foldl (bestStep P s N mm) q).1 = 0 ∨ (l.foldl (bestStep P s N mm) q).1 = 1
  | [], _, h => h
  | ρ :: l, q, h => by
    rw [List.foldl_cons]
    refine best_01 l _ ?_
    unfold bestStep
    by_cases hc : betterP q (dS P s N ρ) (dM P s N ρ) ∧ eachP P s N mm ρ
    · rw [cG_t hc]; exact Or.inr rfl
    · rw [cG_f hc]; exact h
theorem numsG_bad {F : Nat → Int32} {n w : Nat} : ∀ (r i t p : Nat), t ≤ n → numsG F n w r i t = .inl p → p ≤ n
  | 0, _, _, _, _, h => by simp [numsG] at h
  | r + 1, i, t, p, ht, h => by
    rw [numsG] at h
    by_cases h1 : withinI (numW F (frT F n t) (teT F n t)) (lowW w i) (topW w i) = 1
    · rw [if_pos h1] at h
      cases h2 : numsG F n w r (i + 1) (teT F n t) with
      | inl p2 =>
        rw [h2] at h
        cases h
        exact numsG_bad r (i + 1) (teT F n t) p (teT_le ht) h2
      | inr q => rw [h2] at h; cases h
    · rw [if_neg h1] at h
      cases h
      exact frT_le ht
theorem clauseG_bad {F : Nat → Int32} {n t sh p : Nat} (ht : t ≤ n) (h : clauseG F n t sh = .inl p) : p ≤ n := by
  rcases wordW_cases F (frT F n t) (teT F n t) with ⟨w, hw, hww, -⟩ | hno
  · rw [clauseG_word hw hww] at h
    by_cases h1 : roomS w sh ≤ 6
    · rw [if_pos h1] at h
      cases h2 : numsG F n w (cntW w) 0 (teT F n t) with
      | inl p2 =>
        rw [h2] at h
        cases h
        exact numsG_bad _ _ _ p (teT_le ht) h2
      | inr q => rw [h2] at h; cases h
    · rw [if_neg h1] at h
      cases h
      exact frT_le ht
  · rw [clauseG_none hno] at h
    cases h
    exact frT_le ht
theorem readG_in {F : Nat → Int32} {n : Nat} : ∀ (k t sh p : Nat), t ≤ n → readG F n k t sh = .inl p → p ≤ n := by
  intro k
  induction k with
  | zero =>
    intro t sh p ht h
    cases h1 : clauseG F n t sh with
    | inl p2 => rw [readG_bad h1] at h; cases h; exact clauseG_bad ht h1
    | inr q =>
      by_cases h2 : n ≤ frT F n q.2.1
      · rw [readG_end h1 h2] at h; cases h
      · by_cases h3 : F (frT F n q.2.1) = 59
        · rw [readG_full h1 h2 h3] at h; cases h; exact frT_le (clauseG_le ht h1).1
        · rw [readG_not h1 h2 h3] at h; cases h; exact frT_le (clauseG_le ht h1).1
  | succ k ih =>
    intro t sh p ht h
    cases h1 : clauseG F n t sh with
    | inl p2 => rw [readG_bad h1] at h; cases h; exact clauseG_bad ht h1
    | inr q =>
      by_cases h2 : n ≤ frT F n q.2.1
      · rw [readG_end h1 h2] at h; cases h
      · by_cases h3 : F (frT F n q.2.1) = 59
        · have h4 := readG_more (cs := []) (k := k) h1 h2 h3
          rw [preC_nil, h] at h4
          cases h5 : readG F n k (teT F n q.2.1) q.2.2 with
          | inl p2 =>
            rw [h5] at h4
            have h6 : p = p2 := by simpa [preC] using h4
            exact h6 ▸ ih _ _ _ (teT_le (clauseG_le ht h1).1) h5
          | inr cs => rw [h5] at h4; simp [preC] at h4
        · rw [readG_not h1 h2 h3] at h; cases h; exact frT_le (clauseG_le ht h1).1
theorem gR_upd {r : Nat → Int32} {x b : Nat} (h : gR r) (hb : b ≤ 5) : gR (upd r x (nI b)) := fun j hj => by
  by_cases hjx : j = x
  · subst hjx; exact ⟨b, hb, pk_us⟩
  · rw [pk_un hjx]; exact h j hj
theorem lanesG_g : ∀ (cs : List CLA) (s : LST), okC s.2.2.1 cs → gI s.1 → gR s.2.1 → gI (lanesG s cs).1 ∧ gR (lanesG s cs).2.1
  | [], _, _, h1, h2 => ⟨h1, h2⟩
  | q :: cs, s, hok, h1, h2 => by
    obtain ⟨hw, hl, hv, hr, hc⟩ := hok
    rw [show lanesG s (q :: cs) = lanesG (tellG s q) cs from rfl]
    refine lanesG_g cs (tellG s q) (by rw [tell_room hw]; exact hc) ?_ ?_
    · unfold tellG
      by_cases e0 : q.1 = 0
      · rw [if_pos e0]; exact fun _ _ => ⟨4, by omega, rfl⟩
      · rw [if_neg e0]
        by_cases e1 : q.1 = 1
        · rw [if_pos e1]
          have hx := hv 1 (by rw [e1]; decide)
          rw [e1] at hx
          obtain ⟨b, -, hb, eb⟩ := withinN_of (lo := 0) (hi := 9) (by decide) (by decide) hx
          show gI (upd s.1 _ (q.2.getD 1 0))
          rw [eb]
          exact gI_upd h1 hb
        · rw [if_neg e1]
          (repeat' split) <;> exact h1
    · unfold tellG
      by_cases e0 : q.1 = 0
      · rw [if_pos e0]; exact fun _ _ => ⟨1, by omega, rfl⟩
      · rw [if_neg e0]
        by_cases e1 : q.1 = 1
        · rw [if_pos e1]
          have hx := hv 2 (by rw [e1]; decide)
          rw [e1] at hx
          obtain ⟨b, -, hb, eb⟩ := withinN_of (lo := 0) (hi := 5) (by decide) (by decide) hx
          show gR (upd s.2.1 _ (q.2.getD 2 0))
          rw [eb]
          exact gR_upd h2 hb
        · rw [if_neg e1]
          (repeat' split) <;> exact h2
theorem rd_same {x : Nat ⊕ List CLA} {v : RDS} {s : LST} {A0 A : MAR} {cl rt : Int32} (h : rdRel x v) (k : rdM x s A0 A cl rt) : v.1 = rt := by
  cases x with
  | inl p => exact Eq.trans (show v.1 = nI p from h) (show rt = nI p from k.2).symm
  | inr cs => exact Eq.trans (show v.1 = -1 from h.1) (show rt = -1 from k.2.1).symm
theorem upd_nI {tk : Nat → Nat} {n k : Nat} (j : Nat) : upd (fun j => nI (tk j)) n (nI k) j = nI (va_up tk n k j) := by
  by_cases h : j = n
  · subst h; rw [pk_us, va_up_self]
  · rw [pk_un h, va_up_ne _ _ h]
theorem tell_up {m n k v : Nat} {tk tv : Nat → Nat} (h : ∀ i, i < n → tk i < m ∧ tv i ≤ 9) (hk : k < m) (hv : v ≤ 9) : ∀ i, i < n + 1 → va_up tk n k i < m ∧ va_up tv n v i ≤ 9 := fun i hi => by
  by_cases e : i = n
  · subst e; rw [va_up_self, va_up_self]; exact ⟨hk, hv⟩
  · rw [va_up_ne _ _ e, va_up_ne _ _ e]; exact h i (by omega)
theorem FD.more {L L2 : List Nat} {K : Nat → Prop} {an tn : Nat → Nat} {N : Nat} (D : FD L K an tn N) (h : ∀ a ∈ L, a ∈ L2) : FD L2 K an tn N := ⟨D.1, D.2.1, D.2.2.1, fun i hi => ⟨h _ (D.2.2.2 i hi).1, h _ (D.2.2.2 i hi).2.1, (D.2.2.2 i hi).2.2⟩⟩
theorem FN.same {E : vEnv} {L : List Nat} {K : Nat → Prop} {an tn : Nat → Nat} {N : Nat} {f : Nat → NS} {g h : Nat → va_E} (H : FN E an tn N f g) (D : FD L K an tn N) (e : ∀ a ∈ L, h a = g a) : FN E an tn N f h := fun i hi => by
  rw [e _ (D.2.2.2 i hi).1, e _ (D.2.2.2 i hi).2.1]
  exact H i hi
/-- another family's cells are left alone -/
theorem FN.other {E : vEnv} {P : Nat → Prop} {an tn : Nat → Nat} {N : Nat} {f : Nat → NS} {g h : Nat → va_E} (H : FN E an tn N f h) (d : ∀ b, P b → ¬ inF an tn N b) : FN E an tn N f (mix P g h) := fun i hi => by
  rw [mix_out fun hp => d _ hp (inF_a hi), mix_out fun hp => d _ hp (inF_t hi)]
  exact H i hi
theorem F_neg {n : Nat} {F : Nat → Int32} (h : ∀ j, j < n → ∃ c, c < 256 ∧ F j = nI c) : ∀ j, j < n → ¬ F j < 0 := fun j hj => by
  obtain ⟨c, hc, e⟩ := h j hj
  rw [e]
  exact nI_pos (by omega)
theorem F_up {n c : Nat} {F : Nat → Int32} (h : ∀ j, j < n → ∃ c, c < 256 ∧ F j = nI c) (hc : c < 256) : ∀ j, j < n + 1 → ∃ c2, c2 < 256 ∧ upd F n (nI c) j = nI c2 := fun j hj => by
  by_cases e : j = n
  · subst e; exact ⟨c, hc, pk_us⟩
  · rw [pk_un e]; exact h j (by omega)
theorem T_up {n : Nat} {v : Int32} {F G : Nat → Int32} (h : ∀ j, j < n → G j = F j) : ∀ j, j < n + 1 → upd G n v j = upd F n v j := fun j hj => by
  by_cases e : j = n
  · subst e; rw [pk_us, pk_us]
  · rw [pk_un e, pk_un e]; exact h j (by omega)
theorem FD.also {L : List Nat} {K : Nat → Prop} {an tn : Nat → Nat} {N q : Nat} (D : FD L K an tn N) (hq : ¬ inF an tn N q) : FD L (fun b => K b ∨ b = q) an tn N := ⟨D.1, D.2.1, D.2.2.1, fun i hi => ⟨(D.2.2.2 i hi).1, (D.2.2.2 i hi).2.1, fun h => h.elim (D.2.2.2 i hi).2.2.1 (fun e => hq (e ▸ inF_a hi)), fun h => h.elim (D.2.2.2 i hi).2.2.2 (fun e => hq (e ▸ inF_t hi))⟩⟩
theorem FD.inL {L : List Nat} {K : Nat → Prop} {an tn : Nat → Nat} {N b : Nat} (D : FD L K an tn N) (h : inF an tn N b) : b ∈ L := by
  obtain ⟨i, hi, rfl | rfl⟩ := h
  · exact (D.2.2.2 i hi).1
  · exact (D.2.2.2 i hi).2.1
