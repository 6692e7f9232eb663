/-! the model's rows of sixteen -/
abbrev MR : Type := (Nat → Int32) × NS
def rowF (s : NS) (k : Nat) : Int32 := if k < 4 then s.1 k else if k = 4 then s.2.1 else if k = 5 then s.2.2.1 else if k = 6 then s.2.2.2.2.1 else if k = 7 then s.2.2.2.2.2.1 else if k = 8 then s.2.2.2.1 else s.2.2.2.2.2.2.1
def cellR (R : MR) (k : Nat) : Int32 := if k < 6 then R.1 k else rowF R.2 (k - 6)
def mW (ρ : Nat → MR) : Nat → Int32 := fun j => cellR (ρ (j / 16)) (j % 16)
theorem mW_at (ρ : Nat → MR) {i k : Nat} (hk : k < 16) : mW ρ (16 * i + k) = cellR (ρ i) k := by
  unfold mW
  rw [show (16 * i + k) / 16 = i by omega, show (16 * i + k) % 16 = k by omega]
theorem cell_pl {R : MR} {k : Nat} (hk : k < 6) : cellR R k = R.1 k := if_pos hk
theorem cell_ti {R : MR} {k : Nat} (hk : k < 4) : cellR R (6 + k) = R.2.1 k := by
  rw [cellR, if_neg (by omega), rowF, if_pos (by omega), Nat.add_sub_cancel_left]
theorem q16 {q : Nat} (h : q < 16) : q = 0 ∨ q = 1 ∨ q = 2 ∨ q = 3 ∨ q = 4 ∨ q = 5 ∨ q = 6 ∨ q = 7 ∨ q = 8 ∨ q = 9 ∨ q = 10 ∨ q = 11 ∨ q = 12 ∨ q = 13 ∨ q = 14 ∨ q = 15 := by omega
theorem va_up_up {α : Type} {f : Nat → α} {i : Nat} {x z : α} : va_up (va_up f i x) i z = va_up f i z := by
  funext j
  by_cases h : j = i
  · rw [h, va_up_self, va_up_self]
  · rw [va_up_ne _ _ h, va_up_ne _ _ h, va_up_ne _ _ h]
theorem va_up_id {α : Type} {f : Nat → α} {i : Nat} {x : α} (h : f i = x) : va_up f i x = f := by
  funext j
  by_cases hj : j = i
  · rw [hj, va_up_self, h]
  · rw [va_up_ne _ _ hj]
section
variable {ρ : Nat → MR} {i k : Nat} {v : Int32} {R R2 : MR} {pl : Nat → Int32} {s s2 : NS}
theorem mW_upat (hk : k < 16) : mW (va_up ρ i R) (16 * i + k) = cellR R k := by rw [mW_at _ hk, va_up_self]
theorem mW_upd (hR : ρ i = R) (hk : k < 16) (h1 : cellR R2 k = v) (h2 : ∀ q, q < 16 → q ≠ k → cellR R2 q = cellR R q) (j : Nat) : upd (mW ρ) (16 * i + k) v j = mW (va_up ρ i R2) j := by
  by_cases hj : j / 16 = i
  · by_cases hq : j % 16 = k
    · have e : j = 16 * i + k := by omega
      rw [e, pk_us, mW_at _ hk, va_up_self, h1]
    · rw [pk_un (by omega)]
      unfold mW
      rw [hj, va_up_self, h2 (j % 16) (Nat.mod_lt _ (by decide)) hq, hR]
  · rw [pk_un (by omega)]
    unfold mW
    rw [va_up_ne _ _ hj]
theorem mW_upr (hk : k < 16) (h1 : cellR R2 k = v) (h2 : ∀ q, q < 16 → q ≠ k → cellR R2 q = cellR R q) (j : Nat) : upd (mW (va_up ρ i R)) (16 * i + k) v j = mW (va_up ρ i R2) j := by
  rw [mW_upd (R := R) (R2 := R2) (va_up_self _ _ _) hk h1 h2 j, va_up_up]
theorem mW_row (h : ∀ q, q < 16 → cellR R q = cellR R2 q) (j : Nat) : mW (va_up ρ i R) j = mW (va_up ρ i R2) j := by
  unfold mW
  by_cases hj : j / 16 = i
  · rw [hj, va_up_self, va_up_self, h _ (Nat.mod_lt _ (by decide))]
  · rw [va_up_ne _ _ hj, va_up_ne _ _ hj]
theorem mW_row0 (hR : ρ i = R) (h : ∀ q, q < 16 → cellR R q = cellR R2 q) (j : Nat) : mW ρ j = mW (va_up ρ i R2) j := by
  rw [← mW_row h j, va_up_id hR]
theorem mW_ups (j : Nat) : mW (va_up (va_up ρ i R) i R2) j = mW (va_up ρ i R2) j := by rw [va_up_up]
theorem mW_fill {g : Nat → Int32} (h1 : ∀ j, j / 16 ≠ i → g j = mW ρ j) (h2 : ∀ q, q < 16 → g (16 * i + q) = cellR R q) (j : Nat) : g j = mW (va_up ρ i R) j := by
  by_cases hj : j / 16 = i
  · have e : j = 16 * i + j % 16 := by omega
    rw [e, h2 _ (Nat.mod_lt _ (by decide)), mW_upat (Nat.mod_lt _ (by decide))]
  · rw [h1 j hj]
    unfold mW
    rw [va_up_ne _ _ hj]
theorem mW_pl (hR : ρ i = (pl, s)) (hk : k < 6) : mW ρ (16 * i + k) = pl k := by rw [mW_at _ (by omega), hR, cell_pl hk]
theorem mW_ti (hR : ρ i = (pl, s)) (hk : k < 4) : mW ρ (16 * i + 6 + k) = s.1 k := by rw [show 16 * i + 6 + k = 16 * i + (6 + k) by omega, mW_at _ (by omega), hR, cell_ti hk]
theorem mW_no (hR : ρ i = (pl, s)) : mW ρ (16 * i + 10) = s.2.1 := by rw [mW_at _ (by decide), hR]; rfl
theorem mW_st (hR : ρ i = (pl, s)) : mW ρ (16 * i + 11) = s.2.2.1 := by rw [mW_at _ (by decide), hR]; rfl
theorem mW_pu (hR : ρ i = (pl, s)) : mW ρ (16 * i + 12) = s.2.2.2.2.1 := by rw [mW_at _ (by decide), hR]; rfl
theorem mW_bo (hR : ρ i = (pl, s)) : mW ρ (16 * i + 13) = s.2.2.2.2.2.1 := by rw [mW_at _ (by decide), hR]; rfl
theorem mW_co (hR : ρ i = (pl, s)) : mW ρ (16 * i + 14) = s.2.2.2.1 := by rw [mW_at _ (by decide), hR]; rfl
theorem mW_sm (hR : ρ i = (pl, s)) : mW ρ (16 * i + 15) = s.2.2.2.2.2.2.1 := by rw [mW_at _ (by decide), hR]; rfl
theorem mW_tiu {X : Int32 × Int32 × Int32 × Int32 × Int32 × Int32 × Int32} {T : Nat → Int32} (hk : k < 4) (h : s = (T, X)) (hR : ρ i = (pl, s)) (j : Nat) : upd (mW ρ) (16 * i + 6 + k) v j = mW (va_up ρ i (pl, (upd T k v, X))) j := by
  rw [show 16 * i + 6 + k = 16 * i + (6 + k) by omega]
  refine mW_upd hR (by omega) ?_ ?_ j
  · rw [cell_ti hk]
    exact pk_us
  · intro q hq hne
    subst h
    unfold cellR
    by_cases h6 : q < 6
    · rw [if_pos h6, if_pos h6]
    · rw [if_neg h6, if_neg h6]
      unfold rowF
      by_cases h4 : q - 6 < 4
      · rw [if_pos h4, if_pos h4]
        exact pk_un (by omega)
      · rw [if_neg h4, if_neg h4]
theorem mW_tiu2 {X : Int32 × Int32 × Int32 × Int32 × Int32 × Int32 × Int32} {T : Nat → Int32} {w : Int32} (hk : k < 4) (j : Nat) : upd (mW (va_up ρ i (pl, (upd T k w, X)))) (16 * i + 6 + k) v j = mW (va_up ρ i (pl, (upd T k v, X))) j := by
  rw [mW_tiu (s := (upd T k w, X)) (pl := pl) hk rfl (va_up_self _ _ _) j, va_up_up]
  refine mW_row ?_ j
  intro q hq
  unfold cellR
  by_cases h6 : q < 6
  · rw [if_pos h6, if_pos h6]
  · rw [if_neg h6, if_neg h6]
    unfold rowF
    by_cases h4 : q - 6 < 4
    · rw [if_pos h4, if_pos h4]
      show upd (upd T k w) k v (q - 6) = upd T k v (q - 6)
      by_cases hk2 : q - 6 = k
      · rw [hk2, pk_us, pk_us]
      · rw [pk_un hk2, pk_un hk2, pk_un hk2]
    · rw [if_neg h4, if_neg h4]
theorem mW_tir {X : Int32 × Int32 × Int32 × Int32 × Int32 × Int32 × Int32} {T T2 : Nat → Int32} (h : ∀ j, j < 4 → T j = T2 j) (j : Nat) : mW (va_up ρ i (pl, (T, X))) j = mW (va_up ρ i (pl, (T2, X))) j := by
  refine mW_row ?_ j
  intro q hq
  unfold cellR
  by_cases h6 : q < 6
  · rw [if_pos h6, if_pos h6]
  · rw [if_neg h6, if_neg h6]
    unfold rowF
    by_cases h4 : q - 6 < 4
    · rw [if_pos h4, if_pos h4]
      exact h _ h4
    · rw [if_neg h4, if_neg h4]
end
/-! bounds, and the steps of the model told as the class's -/
def max0 (v : Int32) : Int32 := if v < 0 then 0 else v
theorem max0_eq {v : Int32} (h : ¬ v < 0) : (if 0 < v then v else 0) = v := by
  by_cases h2 : 0 < v
  · exact if_pos h2
  · rw [if_neg h2]
    exact Int32.le_antisymm (Int32.not_lt.mp h) (Int32.not_lt.mp h2)
theorem held_cap (x : Int32) : heldI x = if 99 < max0 x then 99 else max0 x := by
  unfold heldI max0
  by_cases h0 : x < 0
  · have h1 : x < 99 := Int32.lt_trans h0 (by decide)
    rw [if_pos h0, if_pos h1, if_neg (fun h2 => absurd (Int32.lt_trans h0 h2) Int32.lt_irrefl), if_neg (by decide)]
  · rw [if_neg h0]
    by_cases h1 : x < 99
    · rw [if_pos h1, max0_eq h0, if_neg (fun h2 => absurd (Int32.lt_trans h1 h2) Int32.lt_irrefl)]
    · rw [if_neg h1, if_pos (by decide)]
      by_cases h2 : 99 < x
      · rw [if_pos h2]
      · rw [if_neg h2]
        exact Int32.le_antisymm (Int32.not_lt.mp h1) (Int32.not_lt.mp h2)
def gT (s : NS) : Prop := ∀ j, j < 4 → ∃ a, a ≤ 99 ∧ s.1 j = nI a
def gR (r : Nat → Int32) : Prop := ∀ j, j < 4 → ∃ b, b ≤ 5 ∧ r j = nI b
def gI (ti : Nat → Int32) : Prop := ∀ j, j < 4 → ∃ b, b ≤ 9 ∧ ti j = nI b
def gC (c : Int32) : Prop := ∃ a, a ≤ 50 ∧ c = nI a
def gP (x : Int32) : Prop := ∃ p, p < 6 ∧ x = nI p
theorem held_in (x : Int32) : ∃ a, a ≤ 99 ∧ heldI x = nI a := by
  unfold heldI
  by_cases h : 0 < (if x < 99 then x else 99)
  · rw [if_pos h]
    by_cases h1 : x < 99
    · rw [if_pos h1] at h ⊢
      obtain ⟨j, hj, rfl⟩ := nI_of (fun h2 => absurd (Int32.lt_trans h h2) Int32.lt_irrefl)
      exact ⟨j, by have := (nI_ltI (b := 99) hj (by omega)).mp h1; omega, rfl⟩
    · rw [if_neg h1]
      exact ⟨99, Nat.le_refl _, rfl⟩
  · rw [if_neg h]
    exact ⟨0, by omega, rfl⟩
theorem held_nat {a : Nat} (h : a ≤ 99) : heldI (nI a) = nI a := by
  rw [held_cap, show max0 (nI a) = nI a from if_neg (nI_pos (by omega))]
  exact if_neg (nI_nlt (a := 99) (b := a) (by omega) (by omega) : ¬ nI 99 < nI a)
theorem max0_sub {a c : Nat} (ha : a < 2 ^ 30) (hc : c < 2 ^ 30) : max0 (nI a - nI c) = nI (a - c) := by
  unfold max0
  by_cases h : a < c
  · rw [if_pos (pk_sneg hc h), show a - c = 0 by omega]
    rfl
  · rw [nI_subN (by omega), if_neg (nI_pos (by omega))]
theorem held_sub {a c : Nat} (ha : a ≤ 99) (hc : c < 2 ^ 30) : heldI (nI a - nI c) = nI (a - c) := by
  rw [held_cap, max0_sub (by omega) hc]
  exact if_neg (nI_nlt (a := 99) (b := a - c) (by omega) (by omega) : ¬ nI 99 < nI (a - c))
def goT (r : Nat → Int32) (k : Nat) (s : NS) : Nat → Int32 := fun j => heldI (s.1 j - nI k * r j)
def goC (k : Nat) (c : Int32) : Int32 := if 0 < c - nI k then c - nI k else 0
def goK (r : Nat → Int32) (k : Nat) (s : NS) : NS := (goT r k s, s.2.1, s.2.2.1, goC k s.2.2.2.1, s.2.2.2.2)
theorem goT_nat {r : Nat → Int32} {k j a b : Nat} {s : NS} (ha : a ≤ 99) (hb : b ≤ 5) (hk : k ≤ 100) (h1 : s.1 j = nI a) (h2 : r j = nI b) : goT r k s j = nI (a - k * b) := by
  have h9 : k * b ≤ 100 * 5 := Nat.mul_le_mul hk hb
  show heldI (s.1 j - nI k * r j) = _
  rw [h1, h2, pk_mul, held_sub ha (by omega)]
theorem goT_0 {r : Nat → Int32} {s : NS} (hT : gT s) (hR : gR r) {j : Nat} (hj : j < 4) : goT r 0 s j = s.1 j := by
  obtain ⟨a, ha, h1⟩ := hT j hj
  obtain ⟨b, hb, h2⟩ := hR j hj
  rw [goT_nat ha hb (Nat.zero_le _) h1 h2, h1, Nat.zero_mul, Nat.sub_zero]
theorem goT_s {r : Nat → Int32} {s : NS} {k : Nat} (hT : gT s) (hR : gR r) (hk : k < 100) {j : Nat} (hj : j < 4) : max0 (goT r k s j + (-(r j))) = goT r (k + 1) s j := by
  obtain ⟨a, ha, h1⟩ := hT j hj
  obtain ⟨b, hb, h2⟩ := hR j hj
  rw [goT_nat ha hb (by omega) h1 h2, goT_nat ha hb (by omega) h1 h2, h2, ← Int32.sub_eq_add_neg, max0_sub (by omega) (by omega), Nat.succ_mul, Nat.sub_sub]
theorem goC_nat {c k : Nat} (hc : c < 2 ^ 30) (hk : k < 2 ^ 30) : goC k (nI c) = nI (c - k) := by
  unfold goC
  by_cases h : k < c
  · rw [nI_subN (by omega), if_pos (show (0 : Int32) < nI (c - k) from nI_lt (a := 0) (b := c - k) (by omega) (by omega))]
  · rw [show c - k = 0 by omega, if_neg (Int32.not_lt.mpr ?_)]
    · rfl
    · by_cases h2 : c < k
      · exact Int32.le_of_lt (pk_sneg hk h2)
      · rw [show c = k by omega, nI_subN (Nat.le_refl _), Nat.sub_self]
        exact Int32.le_refl _
theorem goC_0 {c : Int32} (h : gC c) : goC 0 c = c := by
  obtain ⟨a, ha, rfl⟩ := h
  rw [goC_nat (by omega) (by omega), Nat.sub_zero]
theorem goC_sp {c : Int32} {k : Nat} (h : gC c) (hk : k < 100) (hp : 0 < goC k c) : goC k c - 1 = goC (k + 1) c := by
  obtain ⟨a, ha, rfl⟩ := h
  rw [goC_nat (by omega) (by omega)] at hp ⊢
  rw [goC_nat (by omega) (by omega)]
  have h9 : 0 < a - k := Nat.pos_of_ne_zero (fun h8 => by rw [h8] at hp; exact absurd hp (by decide))
  rw [show (1 : Int32) = nI 1 from rfl, nI_subN (by omega), Nat.sub_sub]
theorem goC_sz {c : Int32} {k : Nat} (h : gC c) (hk : k < 100) (hp : goC k c ≤ 0) : goC k c - 0 = goC (k + 1) c := by
  obtain ⟨a, ha, rfl⟩ := h
  rw [goC_nat (by omega) (by omega)] at hp ⊢
  rw [goC_nat (by omega) (by omega)]
  have h9 : a - k = 0 := by have := (nI_leI (b := 0) (by omega) (by omega)).mp hp; omega
  rw [h9, show a - (k + 1) = 0 by omega]
  decide
theorem gT_go {r : Nat → Int32} {n : Int32} {s : NS} : gT (stepN r n s) := fun j _ => held_in _
theorem gC_go {r : Nat → Int32} {n : Nat} {s : NS} (h : gC s.2.2.2.1) (hn : n < 2 ^ 30) : gC (stepN r (nI n) s).2.2.2.1 := by
  obtain ⟨a, ha, e⟩ := h
  refine ⟨a - n, by omega, ?_⟩
  show goC n s.2.2.2.1 = _
  rw [e, goC_nat (by omega) hn]
/-! tiring -/
def tireN (κ so : Nat) (lt : Nat → Int32) (s : NS) : NS := (fun j => heldI (s.1 j + tiringI κ (nI so) (nI j) (lt so)), s.2)
def midT (so : Nat) (ti T : Nat → Int32) : Nat → Int32 := upd (upd T so (max0 (T so + ti so))) ((so + 1) % 4) (max0 (upd T so (max0 (T so + ti so)) ((so + 1) % 4) + ti so / 2))
theorem max0_add {a b : Nat} (ha : a ≤ 99) (hb : b ≤ 99) : max0 (nI a + nI b) = nI a + nI b := by
  rw [nI_add]
  exact if_neg (nI_pos (by omega))
theorem midT_eq {s : NS} {ti : Nat → Int32} (hT : gT s) (hI : gI ti) {so j : Nat} (hs : so < 4) (hj : j < 4) : midT so ti s.1 j = s.1 j + tirePl (nI so) (nI j) (ti so) := by
  obtain ⟨a, ha, h1⟩ := hT so hs
  obtain ⟨c, hc, h3⟩ := hT ((so + 1) % 4) (Nat.mod_lt _ (by decide))
  obtain ⟨d, hd, h4⟩ := hT j hj
  obtain ⟨b, hb, h2⟩ := hI so hs
  have hh : (nI b / 2 : Int32) = nI (b / 2) := pk_div (d := 2) (by omega) (by omega) (by omega)
  have hkin : nI so + 1 - (nI so + 1) / 4 * 4 = nI ((so + 1) % 4) := by rw [nI_1]; exact pk_rem (d := 4) (by omega) (by omega) (by omega)
  unfold midT tirePl
  rw [hkin]
  by_cases e2 : j = (so + 1) % 4
  · have e1 : ¬ (so + 1) % 4 = so := by omega
    rw [e2, pk_us, pk_un e1, if_neg (fun h9 => e1 ((nI_eq (by omega) (by omega)).mp h9)), if_pos rfl, h2, h3, hh, max0_add (by omega) (by omega)]
  · rw [pk_un e2]
    by_cases e1 : j = so
    · rw [e1, pk_us, if_pos rfl, h1, h2, max0_add (by omega) (by omega)]
    · rw [pk_un e1, if_neg (fun h9 => e1 ((nI_eq (by omega) (by omega)).mp h9)), if_neg (fun h9 => e2 ((nI_eq (by omega) (by omega)).mp h9))]
      exact (Int32.add_zero _).symm
theorem gT_tire {κ so : Nat} {ti : Nat → Int32} {s : NS} : gT (tireN κ so ti s) := fun j _ => held_in _
/-! a visit, told by the place it is at -/
def dN (p q : Nat) : Nat := if p < q then q - p else p - q
theorem absI_dN {p q : Nat} (hp : p < 2 ^ 30) (hq : q < 2 ^ 30) : absI (nI p - nI q) = nI (dN p q) := by
  unfold absI dN
  by_cases h : p < q
  · rw [if_neg (Int32.not_le.mpr (pk_sneg hq h)), if_pos h]
    have e : (0 : Int32) - (nI p - nI q) = nI q - nI p := by
      rw [Int32.zero_sub, Int32.neg_sub]
    rw [e, nI_subN (by omega)]
  · rw [nI_subN (by omega), if_pos (nI_pos' (by omega)), if_neg h]
def wentP (x : Int32) (lr : Nat → Int32) (s : NS) : NS := atPlace x (stepN lr (absI (x - s.2.1)) s)
def visP (x : Int32) (k κ κs so : Nat) (sg pr wa : Int32) (lt lr : Nat → Int32) (s : NS) : NS :=
  ((tireN κs so lt (wentP x lr s)).1, x, (wentP x lr s).2.2.1, (wentP x lr s).2.2.2.1,
   (if wa ≤ muchN κ so sg (wentP x lr s) then if ((s.2.2.2.2.2.1 >>> (nI k &&& 31)) &&& 1) = 1 then s.2.2.2.2.1 else if pr ≤ s.2.2.2.2.1 then s.2.2.2.2.1 - pr else s.2.2.2.2.1 else s.2.2.2.2.1),
   (if wa ≤ muchN κ so sg (wentP x lr s) then if ((s.2.2.2.2.2.1 >>> (nI k &&& 31)) &&& 1) = 1 then s.2.2.2.2.2.1 else if pr ≤ s.2.2.2.2.1 then s.2.2.2.2.2.1 ||| (1 <<< (nI k &&& 31)) else s.2.2.2.2.2.1 else s.2.2.2.2.2.1),
   s.2.2.2.2.2.2.1 + muchN κ so sg (wentP x lr s), s.2.2.2.2.2.2.2)
theorem callN_vis (m k κ so : Nat) (sg pr wa : Int32) (lt lr : Nat → Int32) (s : NS) : callN m k κ so sg pr wa lt lr s = visP (placeI m k s.2.2.2.2.2.2.2) k κ κ so sg pr wa lt lr s := rfl
theorem vsmN_vis (m k κ so : Nat) (sg : Int32) (lr : Nat → Int32) (s : NS) : vsmN m k κ so sg lr s = muchN κ so sg (wentP (placeI m k s.2.2.2.2.2.2.2) lr s) := rfl
def TabS (m : Nat) (sf : Nat → SHP) (Ki So St Pr : Nat → Int32) : Prop := ∀ k, k < m → Ki k = kindI (sf k).1 ∧ So k = nI (sf k).2.1 ∧ St k = (sf k).2.2.1 ∧ Pr k = (sf k).2.2.2 ∧ (sf k).1 < 4 ∧ (sf k).2.1 < 4
/-! rows of the steps -/
theorem row_but {R R2 : MR} {c : Nat} (hp : R.1 = R2.1) (ht : R.2.1 = R2.2.1) (h10 : c = 10 ∨ R.2.2.1 = R2.2.2.1) (h11 : c = 11 ∨ R.2.2.2.1 = R2.2.2.2.1) (h12 : c = 12 ∨ R.2.2.2.2.2.1 = R2.2.2.2.2.2.1) (h13 : c = 13 ∨ R.2.2.2.2.2.2.1 = R2.2.2.2.2.2.2.1) (h14 : c = 14 ∨ R.2.2.2.2.1 = R2.2.2.2.2.1) (h15 : c = 15 ∨ R.2.2.2.2.2.2.2.1 = R2.2.2.2.2.2.2.2.1) : ∀ q, q < 16 → q ≠ c → cellR R q = cellR R2 q := by
  intro q hq hne
  have e6 : ∀ j, j < 6 → cellR R j = cellR R2 j := fun j hj => by rw [cell_pl hj, cell_pl hj, hp]
  have e4 : ∀ j, j < 4 → cellR R (6 + j) = cellR R2 (6 + j) := fun j hj => by rw [cell_ti hj, cell_ti hj, ht]
  rcases q16 hq with rfl | rfl | rfl | rfl | rfl | rfl | rfl | rfl | rfl | rfl | rfl | rfl | rfl | rfl | rfl | rfl
  · exact e6 0 (by decide)
  · exact e6 1 (by decide)
  · exact e6 2 (by decide)
  · exact e6 3 (by decide)
  · exact e6 4 (by decide)
  · exact e6 5 (by decide)
  · exact e4 0 (by decide)
  · exact e4 1 (by decide)
  · exact e4 2 (by decide)
  · exact e4 3 (by decide)
  · exact h10.resolve_left (fun e => hne e.symm)
  · exact h11.resolve_left (fun e => hne e.symm)
  · exact h12.resolve_left (fun e => hne e.symm)
  · exact h13.resolve_left (fun e => hne e.symm)
  · exact h14.resolve_left (fun e => hne e.symm)
  · exact h15.resolve_left (fun e => hne e.symm)
theorem row_of {R R2 : MR} (hp : ∀ j, j < 6 → R.1 j = R2.1 j) (ht : ∀ j, j < 4 → R.2.1 j = R2.2.1 j) (h10 : R.2.2.1 = R2.2.2.1) (h11 : R.2.2.2.1 = R2.2.2.2.1) (h12 : R.2.2.2.2.2.1 = R2.2.2.2.2.2.1) (h13 : R.2.2.2.2.2.2.1 = R2.2.2.2.2.2.2.1) (h14 : R.2.2.2.2.1 = R2.2.2.2.2.1) (h15 : R.2.2.2.2.2.2.2.1 = R2.2.2.2.2.2.2.2.1) : ∀ q, q < 16 → cellR R q = cellR R2 q := by
  intro q hq
  have e6 : ∀ j, j < 6 → cellR R j = cellR R2 j := fun j hj => by rw [cell_pl hj, cell_pl hj, hp j hj]
  have e4 : ∀ j, j < 4 → cellR R (6 + j) = cellR R2 (6 + j) := fun j hj => by rw [cell_ti hj, cell_ti hj, ht j hj]
  rcases q16 hq with rfl | rfl | rfl | rfl | rfl | rfl | rfl | rfl | rfl | rfl | rfl | rfl | rfl | rfl | rfl | rfl
  · exact e6 0 (by decide)
  · exact e6 1 (by decide)
  · exact e6 2 (by decide)
  · exact e6 3 (by decide)
  · exact e6 4 (by decide)
  · exact e6 5 (by decide)
  · exact e4 0 (by decide)
  · exact e4 1 (by decide)
  · exact e4 2 (by decide)
  · exact e4 3 (by decide)
  · exact h10
  · exact h11
  · exact h12
  · exact h13
  · exact h14
  · exact h15
theorem goK_row0 {pl : Nat → Int32} {r : Nat → Int32} {s : NS} (hT : gT s) (hC : gC s.2.2.2.1) (hR : gR r) : ∀ q, q < 16 → cellR (pl, s) q = cellR (pl, goK r 0 s) q := row_of (fun _ _ => rfl) (fun j hj => (goT_0 hT hR hj).symm) rfl rfl rfl rfl (goC_0 hC).symm rfl
theorem goK_row1 {pl : Nat → Int32} {r : Nat → Int32} {s : NS} {k : Nat} : ∀ q, q < 16 → q ≠ 14 → cellR (pl, goK r (k + 1) s) q = cellR (pl, (goT r (k + 1) s, (goK r k s).2)) q := row_but (show pl = pl from rfl) (show goT r (k + 1) s = goT r (k + 1) s from rfl) (Or.inr (show s.2.1 = s.2.1 from rfl)) (Or.inr (show s.2.2.1 = s.2.2.1 from rfl)) (Or.inr (show s.2.2.2.2.1 = s.2.2.2.2.1 from rfl)) (Or.inr (show s.2.2.2.2.2.1 = s.2.2.2.2.2.1 from rfl)) (Or.inl rfl) (Or.inr (show s.2.2.2.2.2.2.1 = s.2.2.2.2.2.2.1 from rfl))
theorem goK_row2 {pl : Nat → Int32} {r : Nat → Int32} {s : NS} {n : Nat} : ∀ q, q < 16 → q ≠ 11 → cellR (pl, stepN r (nI n) s) q = cellR (pl, goK r n s) q := row_but rfl rfl (Or.inr rfl) (Or.inl rfl) (Or.inr rfl) (Or.inr rfl) (Or.inr rfl) (Or.inr rfl)
