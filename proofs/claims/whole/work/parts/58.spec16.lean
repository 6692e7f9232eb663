/-! a nose through the lane, in the model and in the class -/
def relT (T X : NS) : Prop := (∀ j, j < 4 → T.1 j = X.1 j) ∧ T.2.2.2.1 = 0 ∧ X.2.2.2.1 = 0 ∧ gT T
theorem held_id {s : NS} (h : gT s) {j : Nat} (hj : j < 4) : heldI (s.1 j) = s.1 j := by
  obtain ⟨a, ha, e⟩ := h j hj
  rw [e, held_nat ha]
theorem step_0 {r : Nat → Int32} {T : NS} (h : gT T) {j : Nat} (hj : j < 4) : heldI (T.1 j - 0 * r j) = T.1 j := by
  rw [Int32.zero_mul, Int32.sub_zero]
  exact held_id h hj
theorem relT_went {T X : NS} {r : Nat → Int32} {i : Nat} (h : relT T X) (hi : i < 6) (h0 : T.2.1 = nI (i - 1)) : relT (wentP (nI i) r T) (thrS r i X) := by
  obtain ⟨h1, h2, h3, h4⟩ := h
  unfold wentP thrS
  rw [h0, absI_dN (by omega) (by omega)]
  by_cases e : i = 0
  · subst e
    rw [if_pos rfl]
    refine ⟨fun j hj => ?_, ?_, h3, fun j _ => held_in _⟩
    · show heldI (T.1 j - 0 * r j) = X.1 j
      rw [step_0 h4 hj]
      exact h1 j hj
    · show (if 0 < T.2.2.2.1 - 0 then T.2.2.2.1 - 0 else 0) = 0
      rw [h2]
      decide
  · rw [if_neg e, show dN i (i - 1) = 1 by unfold dN; rw [if_neg (by omega)]; omega]
    refine ⟨fun j hj => ?_, ?_, ?_, fun j _ => held_in _⟩
    · show heldI (T.1 j - 1 * r j) = heldI (X.1 j - 1 * r j)
      rw [h1 j hj]
    · show (if 0 < T.2.2.2.1 - 1 then T.2.2.2.1 - 1 else 0) = 0
      rw [h2]
      decide
    · show (if 0 < X.2.2.2.1 - 1 then X.2.2.2.1 - 1 else 0) = 0
      rw [h3]
      decide
theorem relT_much {T X : NS} (h : relT T X) {κ so : Nat} {sg : Int32} (hs : so < 4) : muchN κ so sg T = muchN κ so sg X := by
  unfold muchN
  rw [h.1 so hs, h.2.1, h.2.2.1]
theorem relT_smell {T X : NS} {r ti : Nat → Int32} {i k κ so : Nat} {sg pr wa : Int32} {r2 : NS} (h : relT (wentP (nI i) r T) X) : relT (visP (nI i) k κ κ so sg pr wa ti r T) (smellN κ so sg ti X) := by
  obtain ⟨h1, h2, h3, h4⟩ := h
  refine ⟨fun j hj => ?_, h2, h3, fun j _ => held_in _⟩
  show heldI ((wentP (nI i) r T).1 j + _) = heldI (X.1 j + _)
  rw [h1 j hj]
theorem relT_cof {T X : NS} {r ti : Nat → Int32} {i k κ so κ2 κ3 so3 : Nat} {sg pr wa sg3 : Int32} (e2 : ∀ j, tiringI κ2 (nI so) (nI j) (ti so) = -10) (e3 : ∀ j, tiringI κ3 (nI so3) (nI j) (ti so3) = -10) (h : relT (wentP (nI i) r T) X) : relT (visP (nI i) k κ κ2 so sg pr wa ti r T) (smellN κ3 so3 sg3 ti X) := by
  obtain ⟨h1, h2, h3, h4⟩ := h
  refine ⟨fun j hj => ?_, h2, h3, fun j _ => held_in _⟩
  show heldI ((wentP (nI i) r T).1 j + tiringI κ2 (nI so) (nI j) (ti so)) = heldI (X.1 j + tiringI κ3 (nI so3) (nI j) (ti so3))
  rw [h1 j hj, e2, e3]
theorem tir2 (a b c : Int32) : tiringI 2 a b c = -10 := rfl
theorem relT_coffee {T X : NS} {r ti : Nat → Int32} {i k κ so : Nat} {sg pr wa : Int32} (h : relT (wentP (nI i) r T) X) : relT (visP (nI i) k κ 2 so sg pr wa ti r T) (smellN 2 0 1 ti X) := relT_cof (fun _ => tir2 _ _ _) (fun _ => tir2 _ _ _) h
theorem relT_0 (lp tu : Int32) (s : NS) : relT (freshN lp s) (freshT lp tu) := ⟨fun _ _ => rfl, rfl, rfl, fun _ _ => ⟨0, by omega, rfl⟩⟩
theorem gC_relT {T X : NS} (h : relT T X) : gC T.2.2.2.1 := ⟨0, by omega, h.2.1⟩
theorem pl_beta {m : Nat} {tu : Int32} {pw : Nat → Int32} (hm : m ≤ 6) (h : ∀ k, k < m → pw k = placeI m k tu) : ∀ p, p < m → placeN m p tu < m ∧ ∀ j, j < m → (pw j = nI p ↔ j = placeN m p tu) := by
  intro p hp
  refine ⟨placeN_lt hp, fun j hj => ?_⟩
  have h1 := placeN_lt (tu := tu) hj
  rw [h j hj, placeI_N hj, nI_eq (by omega) (by omega)]
  constructor
  · intro e
    rw [← e, placeN_inv hj]
  · intro e
    rw [e, placeN_inv hp]
theorem ex_beta {m a b : Nat} {tu : Int32} {pw : Nat → Int32} (hm : m ≤ 6) (ha : a < m) (hb : b < m) (hab : a ≠ b) (h : ∀ k, k < m → pw k = placeI m k tu) : ∀ p, p < m → exN m tu a b p < m ∧ ∀ j, j < m → (upd (upd pw a (pw b)) b (pw a) j = nI p ↔ j = exN m tu a b p) := by
  intro p hp
  refine ⟨exN_lt ha hb p hp, fun j hj => ?_⟩
  have la := placeN_lt (tu := tu) ha
  have lb := placeN_lt (tu := tu) hb
  have lj := placeN_lt (tu := tu) hj
  have hne : placeN m a tu ≠ placeN m b tu := fun e => hab (placeN_inj ha hb e)
  have hpp := placeN_inv (tu := tu) hp
  have hi : ∀ k, k < m → (placeN m k tu = p ↔ k = placeN m p tu) := fun k hk => ⟨fun e => by rw [← e, placeN_inv hk], fun e => by rw [e, placeN_inv hp]⟩
  have e1 : upd (upd pw a (pw b)) b (pw a) j = nI (placeN m (if j = b then a else if j = a then b else j) tu) := by
    by_cases c1 : j = b
    · rw [c1, pk_us, if_pos rfl, h a ha, placeI_N ha]
    · rw [pk_un c1, if_neg c1]
      by_cases c2 : j = a
      · rw [c2, pk_us, if_pos rfl, h b hb, placeI_N hb]
      · rw [pk_un c2, if_neg c2, h j hj, placeI_N hj]
  have e2 : exN m tu a b p = if p = placeN m b tu then a else if p = placeN m a tu then b else placeN m p tu := by
    unfold exN
    by_cases c1 : p = placeN m b tu
    · rw [c1, va_up_self, if_pos rfl]
    · rw [va_up_ne _ _ c1, if_neg c1]
      by_cases c2 : p = placeN m a tu
      · rw [c2, va_up_self, if_pos rfl]
      · rw [va_up_ne _ _ c2, if_neg c2]
  have l3 : placeN m (if j = b then a else if j = a then b else j) tu < m := by
    refine placeN_lt ?_
    split
    · exact ha
    · split
      · exact hb
      · exact hj
  rw [e1, nI_eq (by omega) (by omega), e2]
  have ia := hi a ha
  have ib := hi b hb
  have ij := hi j hj
  by_cases c1 : j = b
  · rw [if_pos c1]
    by_cases d1 : p = placeN m b tu
    · rw [if_pos d1]; constructor <;> intro e <;> omega
    · rw [if_neg d1]
      by_cases d2 : p = placeN m a tu
      · rw [if_pos d2]; constructor <;> intro e <;> omega
      · rw [if_neg d2]
        constructor
        · intro e; omega
        · intro e; rw [← e, c1] at hpp; omega
  · rw [if_neg c1]
    by_cases c2 : j = a
    · rw [if_pos c2]
      by_cases d1 : p = placeN m b tu
      · rw [if_pos d1]; constructor <;> intro e <;> omega
      · rw [if_neg d1]
        by_cases d2 : p = placeN m a tu
        · rw [if_pos d2]; constructor <;> intro e <;> omega
        · rw [if_neg d2]
          constructor
          · intro e; omega
          · intro e; rw [← e, c2] at hpp; omega
    · rw [if_neg c2]
      by_cases d1 : p = placeN m b tu
      · rw [if_pos d1]
        constructor
        · intro e; rw [d1] at e; exact absurd (placeN_inj hj hb e) c1
        · intro e; omega
      · rw [if_neg d1]
        by_cases d2 : p = placeN m a tu
        · rw [if_pos d2]
          constructor
          · intro e; rw [d2] at e; exact absurd (placeN_inj hj ha e) c2
          · intro e; omega
        · rw [if_neg d2]
          exact ij
theorem behind_s {κ so : Nat} {ti : Nat → Int32} {T : NS} {v : Nat} (h : T.1 so = tiredBy κ so (ti so) v) : (tireN κ so ti T).1 so = tiredBy κ so (ti so) (v + 1) := by
  show heldI (T.1 so + _) = heldI (tiredBy κ so (ti so) v + _)
  rw [h]
theorem small9_dn {p : Nat → Prop} (f t : Nat) : small9 p (f + 1) t = cI (p t) (nI t) (small9 p f (t + 1)) := rfl
theorem gI_upd {ti : Nat → Int32} {x t : Nat} (h : gI ti) (ht : t ≤ 9) : gI (upd ti x (nI t)) := by
  intro j hj
  by_cases e : j = x
  · rw [e, pk_us]; exact ⟨t, ht, rfl⟩
  · rw [pk_un e]; exact h j hj
