/-! what is foretold by places -/
def placeN (m k : Nat) (tu : Int32) : Nat := if tu = 0 then k else m - 1 - k
theorem placeN_lt {m k : Nat} {tu : Int32} (h : k < m) : placeN m k tu < m := by
  unfold placeN
  split <;> omega
theorem placeN_inv {m k : Nat} {tu : Int32} (h : k < m) : placeN m (placeN m k tu) tu = k := by
  unfold placeN
  split <;> omega
theorem placeI_N {m k : Nat} {tu : Int32} (h : k < m) : placeI m k tu = nI (placeN m k tu) := by
  unfold placeI placeN
  split
  · rfl
  · obtain ⟨d, rfl⟩ : ∃ d, m = d + 1 := ⟨m - 1, by omega⟩
    rw [show nI (d + 1) - 1 = nI d from nI_pred d, nI_subN (by omega)]
    rw [Nat.add_sub_cancel]
def lineF (m : Nat) (tu : Int32) (b : Nat → Int32) : Nat → Int32 := fun j => if j < m then nI (placeN m j tu) else b j
def freshT (lp tu : Int32) : NS := (fun _ => 0, 0, 0, 0, lp, 0, 0, tu)
def thrS (r : Nat → Int32) (i : Nat) (s : NS) : NS := if i = 0 then s else stepN r 1 s
abbrev TP : Type := Int32 × (Nat → Int32) × (Nat → Int32) × (Nat → SHP)
def thrStep (P : TP) (c : Int32) (k i : Nat) (p : NS × Int32) : NS × Int32 :=
  if nI k = c then (smellN 2 0 1 P.2.1 (thrS P.2.2.1 i p.1), p.2)
    else (smellN (P.2.2.2 k).1 (P.2.2.2 k).2.1 (P.2.2.2 k).2.2.1 P.2.1 (thrS P.2.2.1 i p.1), p.2 + muchN (P.2.2.2 k).1 (P.2.2.2 k).2.1 (P.2.2.2 k).2.2.1 (thrS P.2.2.1 i p.1))
def thrN (P : TP) (c : Int32) (β : Nat → Nat) (tu : Int32) : Nat → NS × Int32
  | 0 => (freshT P.1 tu, 0)
  | i + 1 => thrStep P c (β i) i (thrN P c β tu i)
theorem thrS_tu (r : Nat → Int32) (i : Nat) (s : NS) : (thrS r i s).2.2.2.2.2.2.2 = s.2.2.2.2.2.2.2 := by
  unfold thrS
  split <;> rfl
theorem smellN_tu (κ so : Nat) (sg : Int32) (ti : Nat → Int32) (s : NS) : (smellN κ so sg ti s).2.2.2.2.2.2.2 = s.2.2.2.2.2.2.2 := rfl
theorem thrStep_tu (P : TP) (c : Int32) (k i : Nat) (p : NS × Int32) : (thrStep P c k i p).1.2.2.2.2.2.2.2 = p.1.2.2.2.2.2.2.2 := by
  unfold thrStep
  have e := thrS_tu P.2.2.1 i p.1
  revert e
  generalize thrS P.2.2.1 i p.1 = s
  intro e
  split
  · show (smellN _ _ _ _ _).2.2.2.2.2.2.2 = _
    rw [smellN_tu]; exact e
  · show (smellN _ _ _ _ _).2.2.2.2.2.2.2 = _
    rw [smellN_tu]; exact e
theorem thrN_tu (P : TP) (c : Int32) (β : Nat → Nat) (tu : Int32) (i : Nat) : (thrN P c β tu i).1.2.2.2.2.2.2.2 = tu := by
  induction i with
  | zero => rfl
  | succ i ih => exact (thrStep_tu P c (β i) i _).trans ih
def exN (m : Nat) (tu : Int32) (x y : Nat) : Nat → Nat := va_up (va_up (fun j => placeN m j tu) (placeN m x tu) y) (placeN m y tu) x
theorem exN_lt {m : Nat} {tu : Int32} {x y : Nat} (hx : x < m) (hy : y < m) : ∀ j, j < m → exN m tu x y j < m := fun j hj => by
  unfold exN va_up
  repeat' split
  · exact hx
  · exact hy
  · exact placeN_lt hj
def chgIn (X : Nat → Nat → Int32) (a : Nat) : Nat → Nat → Int32 × Int32 → Int32 × Int32
  | 0, _, p => p
  | f + 1, b, p => chgIn X a f (b + 1) (if p.1 < X a b then (X a b, nI (10 * a + b)) else p)
def chgOut (X : Nat → Nat → Int32) (m : Nat) : Nat → Nat → Int32 × Int32 → Int32 × Int32
  | 0, _, p => p
  | f + 1, a, p => chgOut X m f (a + 1) (chgIn X a (m - (a + 1)) (a + 1) p)
def cofG (X : Nat → Int32) : Nat → Nat → Int32 × Int32 → Int32 × Int32
  | 0, _, p => p
  | f + 1, k, p => cofG X f (k + 1) (if p.1 < X k then (X k, nI k) else p)
theorem placeN_inj {m k j : Nat} {tu : Int32} (hk : k < m) (hj : j < m) (h : placeN m k tu = placeN m j tu) : k = j := by
  rw [← placeN_inv (tu := tu) hk, h, placeN_inv hj]
theorem lineF_eq {m : Nat} {tu : Int32} {β b0 : Nat → Int32} (h1 : ∀ k, k < m → β (placeN m k tu) = nI k) (h2 : ∀ j, m ≤ j → β j = b0 j) (j : Nat) : β j = lineF m tu b0 j := by
  unfold lineF
  split
  · rename_i h
    have h9 := h1 _ (placeN_lt (tu := tu) h)
    rwa [placeN_inv h] at h9
  · exact h2 _ (by omega)
theorem lineF_at {m k : Nat} {tu : Int32} {b0 : Nat → Int32} (h : k < m) : lineF m tu b0 (placeN m k tu) = nI k := by
  rw [lineF, if_pos (placeN_lt h), placeN_inv h]
theorem exF {m : Nat} {tu : Int32} {b0 : Nat → Int32} {x y j : Nat} (hj : j < m) : upd (upd (lineF m tu b0) (placeN m x tu) (nI y)) (placeN m y tu) (nI x) j = nI (exN m tu x y j) := by
  simp only [upd, va_up, exN, lineF, if_pos hj]
  repeat' split
  all_goals rfl
theorem exF_back {m : Nat} {tu : Int32} {b0 : Nat → Int32} {x y : Nat} (hx : x < m) (hy : y < m) (j : Nat) : upd (upd (upd (upd (lineF m tu b0) (placeN m x tu) (nI y)) (placeN m y tu) (nI x)) (placeN m x tu) (nI x)) (placeN m y tu) (nI y) j = lineF m tu b0 j := by
  by_cases h1 : j = placeN m y tu
  · rw [h1, lineF_at hy, pk_us]
  · rw [pk_un h1]
    by_cases h2 : j = placeN m x tu
    · rw [h2, lineF_at hx, pk_us]
    · rw [pk_un h2, pk_un h1, pk_un h2]
theorem mul10 (i : Nat) : (10 : Int32) * nI i = nI (10 * i) := pk_mul 10 i
