/-! words as numbers of base 27 -/
def codeI (w : Nat) : Int32 := ([237308, 385418, 8740238, 271712, 51140948, -209256062, 453836, 8930039, 380396] : List Int32).getD w 0
def vn (d : Nat → Nat) : Nat → Nat
  | 0 => 0
  | j + 1 => 27 * vn d j + d j
theorem vn_eq {d e : Nat → Nat} : ∀ (a b : Nat), (∀ q, q < a → 1 ≤ d q ∧ d q ≤ 26) → (∀ q, q < b → 1 ≤ e q ∧ e q ≤ 26) → vn d a = vn e b → a = b ∧ ∀ q, q < a → d q = e q
  | 0, 0, _, _, _ => ⟨rfl, fun q hq => absurd hq (Nat.not_lt_zero _)⟩
  | 0, b + 1, _, he, h => by
    have := he b (Nat.lt_succ_self b)
    simp only [vn] at h
    omega
  | a + 1, 0, hd, _, h => by
    have := hd a (Nat.lt_succ_self a)
    simp only [vn] at h
    omega
  | a + 1, b + 1, hd, he, h => by
    have h1 := hd a (Nat.lt_succ_self a)
    have h2 := he b (Nat.lt_succ_self b)
    simp only [vn] at h
    have h3 : vn d a = vn e b ∧ d a = e b := by omega
    obtain ⟨h4, h5⟩ := vn_eq a b (fun q hq => hd q (by omega)) (fun q hq => he q (by omega)) h3.1
    subst h4
    refine ⟨rfl, fun q hq => ?_⟩
    rcases Nat.lt_succ_iff_lt_or_eq.mp hq with h6 | h6
    · exact h5 q h6
    · rw [h6]; exact h3.2
theorem vn_lt {d : Nat → Nat} : ∀ j, (∀ q, q < j → d q ≤ 26) → vn d j < 27 ^ j
  | 0, _ => by rw [vn]; decide
  | j + 1, h => by
    have ih := vn_lt j (fun q hq => h q (by omega))
    have h1 := h j (Nat.lt_succ_self j)
    rw [vn, Nat.pow_succ]
    omega
theorem vn_congr {d e : Nat → Nat} : ∀ j, (∀ q, q < j → d q = e q) → vn d j = vn e j
  | 0, _ => rfl
  | j + 1, h => by rw [vn, vn, vn_congr j (fun q hq => h q (by omega)), h j (Nat.lt_succ_self j)]
theorem vG_vn {F : Nat → Int32} {d : Nat → Nat} {i : Nat} : ∀ j, (∀ q, q < j → F (i + q) = nI (96 + d q)) → vG F i j = nI (vn d j)
  | 0, _ => rfl
  | j + 1, h => by
    rw [vG, vn, vG_vn j (fun q hq => h q (by omega)), h j (Nat.lt_succ_self j), show (27 : Int32) = nI 27 from rfl, show (96 : Int32) = nI 96 from rfl, pk_mul, nI_add, nI_subN (by omega)]
    congr 1
    omega
def eN (w j : Nat) : Nat := (sAt w j).toNatClampNeg - 96
theorem eN_ok : ∀ w, w < 9 → ∀ j, j < sLen w → sAt w j = nI (96 + eN w j) ∧ 1 ≤ eN w j ∧ eN w j ≤ 26 := by decide +kernel
theorem code_ok : ∀ w, w < 9 → w ≠ 5 → codeI w = nI (vn (eN w) (sLen w)) ∧ sLen w ≤ 6 ∧ 4 ≤ sLen w ∧ 0 < vn (eN w) (sLen w) ∧ vn (eN w) (sLen w) < 2 ^ 30 := by decide +kernel
theorem code_5 : codeI 5 = - nI (vn (eN 5) 6) ∧ sLen 5 = 7 ∧ sAt 5 6 = 103 ∧ 0 < vn (eN 5) 6 ∧ vn (eN 5) 6 < 2 ^ 30 := by decide +kernel
theorem lwE_ge {F : Nat → Int32} {n t : Nat} : frT F n t ≤ lwE F n t := runE_ge _ _ _ _ _ _
theorem lwE_le {F : Nat → Int32} {n t : Nat} (ht : t ≤ n) : lwE F n t ≤ n := runE_le _ _ _ _ _ _ (frT_le ht)
theorem word_says {F : Nat → Int32} {n t w : Nat} (ht : t ≤ n) (hw : w < 9) (h : saysP F (frT F n t) (teT F n t) w) : teT F n t = lwE F n t ∧ lwE F n t = frT F n t + sLen w ∧ wvW F (frT F n t) (lwE F n t - frT F n t) = codeI w := by
  obtain ⟨h1, h2⟩ := h
  have hl4 : 4 ≤ sLen w := (by decide +kernel : ∀ w, w < 9 → 4 ≤ sLen w) w hw
  have hge := teT_ge (F := F) (n := n) (t := t)
  have hlt : frT F n t < n := by
    by_cases h9 : frT F n t < n
    · exact h9
    · rw [teT, if_neg h9] at h1; omega
  have h0 := h2 0 (by omega)
  obtain ⟨e1, e2, e3⟩ := eN_ok w hw 0 (by omega)
  have hsm : withinI (F (frT F n t)) 97 122 = 1 := by
    rw [show frT F n t = frT F n t + 0 from rfl, h0, e1]
    exact within_in (lo := 97) (hi := 122) (by omega) (by omega) (by omega)
  have hte : teT F n t = lwE F n t := teT_small hlt hsm
  have hL : lwE F n t - frT F n t = sLen w := by rw [← hte]; exact h1
  refine ⟨hte, by omega, ?_⟩
  rw [hL]
  by_cases h5 : w = 5
  · subst h5
    obtain ⟨c1, c2, c3, c4, c5⟩ := code_5
    rw [c2, wvW, if_neg (by decide), if_pos rfl, c1, vG_vn (d := eN 5) 6 (fun q hq => (h2 q (by omega)).trans (eN_ok 5 (by decide) q (by omega)).1)]
  · obtain ⟨c1, c2, c3, c4, c5⟩ := code_ok w hw h5
    rw [wvW, if_neg (by omega), if_neg (by omega), c1, vG_vn (d := eN w) _ (fun q hq => (h2 q hq).trans (eN_ok w hw q hq).1)]
theorem wordW_none {F : Nat → Int32} {a b : Nat} (h : wordW F a b = -1) : ∀ w, w < 9 → ¬ saysP F a b w := by
  intro w hw hs
  unfold wordW at h
  by_cases h0 : saysP F a b 0
  · rw [cI_t h0] at h; exact absurd h (by decide)
  rw [cI_f h0] at h
  by_cases h1 : saysP F a b 1
  · rw [cI_t h1] at h; exact absurd h (by decide)
  rw [cI_f h1] at h
  by_cases h2 : saysP F a b 2
  · rw [cI_t h2] at h; exact absurd h (by decide)
  rw [cI_f h2] at h
  by_cases h3 : saysP F a b 3
  · rw [cI_t h3] at h; exact absurd h (by decide)
  rw [cI_f h3] at h
  by_cases h4 : saysP F a b 4
  · rw [cI_t h4] at h; exact absurd h (by decide)
  rw [cI_f h4] at h
  by_cases h5 : saysP F a b 5
  · rw [cI_t h5] at h; exact absurd h (by decide)
  rw [cI_f h5] at h
  by_cases h6 : saysP F a b 6
  · rw [cI_t h6] at h; exact absurd h (by decide)
  rw [cI_f h6] at h
  by_cases h7 : saysP F a b 7
  · rw [cI_t h7] at h; exact absurd h (by decide)
  rw [cI_f h7] at h
  by_cases h8 : saysP F a b 8
  · rw [cI_t h8] at h; exact absurd h (by decide)
  rcases (show w = 0 ∨ w = 1 ∨ w = 2 ∨ w = 3 ∨ w = 4 ∨ w = 5 ∨ w = 6 ∨ w = 7 ∨ w = 8 by omega) with rfl | rfl | rfl | rfl | rfl | rfl | rfl | rfl | rfl
  · exact h0 hs
  · exact h1 hs
  · exact h2 hs
  · exact h3 hs
  · exact h4 hs
  · exact h5 hs
  · exact h6 hs
  · exact h7 hs
  · exact h8 hs
theorem neg_ne {x z : Nat} (hx : x < 2 ^ 30) (hz : z < 2 ^ 30) (h : 0 < z) : - nI x ≠ nI z := fun e => by
  have h1 := congrArg Int32.toInt e
  rw [sb_negT (by omega), nI_toInt (by omega)] at h1
  omega
theorem neg_inj {x z : Nat} (hx : x < 2 ^ 30) (hz : z < 2 ^ 30) (e : - nI x = - nI z) : x = z := by
  have h1 := congrArg Int32.toInt e
  rw [sb_negT (by omega), sb_negT (by omega)] at h1
  omega
theorem word_none {F : Nat → Int32} {n t : Nat} (ht : t ≤ n) (hno : ∀ w, w < 9 → ¬ saysP F (frT F n t) (teT F n t) w) : (∀ w, w < 9 → w ≠ 5 → wvW F (frT F n t) (lwE F n t - frT F n t) ≠ codeI w) ∧ (wvW F (frT F n t) (lwE F n t - frT F n t) = codeI 5 → F (lwE F n t - 1) ≠ 103) := by
  have hge := lwE_ge (F := F) (n := n) (t := t)
  have hle := lwE_le (F := F) ht
  obtain ⟨L, hL⟩ : ∃ L, lwE F n t = frT F n t + L := ⟨lwE F n t - frT F n t, by omega⟩
  have hin : ∀ q, q < L → withinI (F (frT F n t + q)) 97 122 = 1 := fun q hq => runE_in F n 97 122 (n - frT F n t) (frT F n t) _ (by omega) (by have h9 : runE F n 97 122 (n - frT F n t) (frT F n t) = frT F n t + L := hL; omega)
  obtain ⟨d, hd⟩ : ∃ d : Nat → Nat, ∀ q, q < L → F (frT F n t + q) = nI (96 + d q) ∧ 1 ≤ d q ∧ d q ≤ 26 := by
    refine ⟨fun q => (F (frT F n t + q)).toNatClampNeg - 96, fun q hq => ?_⟩
    obtain ⟨k, h1, h2, e⟩ := withinN_of (lo := 97) (hi := 122) (by omega) (by omega) (hin q hq)
    show F (frT F n t + q) = nI (96 + ((F (frT F n t + q)).toNatClampNeg - 96)) ∧ 1 ≤ (F (frT F n t + q)).toNatClampNeg - 96 ∧ (F (frT F n t + q)).toNatClampNeg - 96 ≤ 26
    rw [e, nI_clamp (by omega), show 96 + (k - 96) = k by omega]
    exact ⟨rfl, by omega, by omega⟩
  have hsay : ∀ w, w < 9 → L = sLen w → (∀ q, q < L → d q = eN w q) → False := fun w hw h1 h2 => by
    have hl4 : 4 ≤ sLen w := (by decide +kernel : ∀ w, w < 9 → 4 ≤ sLen w) w hw
    have hte : teT F n t = lwE F n t := teT_small (by omega) (by have h9 := hin 0 (by omega); exact h9)
    refine hno w hw ⟨by rw [hte]; omega, fun j hj => ?_⟩
    rw [(hd j (by omega)).1, h2 j (by omega)]
    exact (eN_ok w hw j hj).1.symm
  have hv : ∀ j, j ≤ L → vG F (frT F n t) j = nI (vn d j) := fun j hj => vG_vn j (fun q hq => (hd q (by omega)).1)
  have hb : ∀ j, j ≤ L → j ≤ 6 → vn d j < 2 ^ 30 := fun j hj h6 => by
    have h1 := vn_lt j (fun q hq => (hd q (show q < L by omega)).2.2)
    have h2 : (27 : Nat) ^ j ≤ 27 ^ 6 := Nat.pow_le_pow_right (by decide) h6
    have h3 : (27 : Nat) ^ 6 < 2 ^ 30 := by decide
    omega
  rw [hL, Nat.add_sub_cancel_left]
  constructor
  · intro w hw h5 e
    obtain ⟨c1, c2, c3, c4, c5⟩ := code_ok w hw h5
    rw [c1] at e
    unfold wvW at e
    by_cases h7 : 7 < L
    · rw [if_pos h7] at e
      have := (nI_eq (a := 0) (by omega) (by omega)).mp e
      omega
    · rw [if_neg h7] at e
      by_cases h77 : L = 7
      · rw [if_pos h77, hv 6 (by omega)] at e
        exact neg_ne (hb 6 (by omega) (by omega)) c5 c4 e
      · rw [if_neg h77, hv L (Nat.le_refl _)] at e
        have h8 := hb L (Nat.le_refl _) (by omega)
        obtain ⟨h9, h10⟩ := vn_eq L (sLen w) (fun q hq => (hd q hq).2) (fun q hq => (eN_ok w hw q hq).2) ((nI_eq (by omega) (by omega)).mp e)
        exact hsay w hw h9 h10
  · intro e h103
    obtain ⟨c1, c2, c3, c4, c5⟩ := code_5
    rw [c1] at e
    unfold wvW at e
    by_cases h7 : 7 < L
    · rw [if_pos h7] at e
      have h1 := congrArg Int32.toInt e
      rw [sb_negT (by omega)] at h1
      have h2 : (0 : Int32).toInt = 0 := rfl
      omega
    · rw [if_neg h7] at e
      by_cases h77 : L = 7
      · rw [if_pos h77, hv 6 (by omega)] at e
        obtain ⟨h9, h10⟩ := vn_eq 6 6 (fun q hq => (hd q (by omega)).2) (fun q hq => (eN_ok 5 (by decide) q (by omega)).2) (neg_inj (hb 6 (by omega) (by omega)) c5 e)
        refine hsay 5 (by decide) (by omega) (fun q hq => ?_)
        by_cases h6 : q < 6
        · exact h10 q h6
        · have hq6 : q = 6 := by omega
          subst hq6
          have e1 := (hd 6 hq).1
          rw [show frT F n t + L - 1 = frT F n t + 6 by omega, e1, ← c3, (eN_ok 5 (by decide) 6 (by omega)).1] at h103
          have h11 := (eN_ok 5 (by decide) 6 (by omega)).2
          have h12 := (hd 6 hq).2
          have := (nI_eq (by omega) (by omega)).mp h103
          omega
      · rw [if_neg h77, hv L (Nat.le_refl _)] at e
        exact neg_ne c5 (hb L (Nat.le_refl _) (by omega)) (by
          rcases Nat.eq_zero_or_pos (vn d L) with h0 | h0
          · rw [h0] at e
            have h1 := congrArg Int32.toInt e
            rw [sb_negT (by omega)] at h1
            have h2 : (nI 0).toInt = 0 := rfl
            omega
          · exact h0) e.symm
