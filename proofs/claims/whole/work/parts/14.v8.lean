theorem ov_app2 {h : Nat → va_E} {b : List (Nat × va_E)} : ∀ {a : List (Nat × va_E)}, ov (a ++ b) h = ov a (ov b h)
  | [] => rfl
  | q :: t => by rw [List.cons_append, ov, ov, ov_app2]
theorem ov_upc {g : Nat → va_E} {k : Nat} {e : va_E} : ∀ {b : List (Nat × va_E)}, k ∉ b.map Prod.fst → va_up (ov b g) k e = ov b (va_up g k e)
  | [], _ => rfl
  | q :: t, n => by
    simp only [List.map_cons, List.mem_cons, not_or] at n
    rw [ov, ov, ← ov_upc n.2]
    funext j
    simp only [va_up]
    by_cases h1 : j = k
    · by_cases h2 : j = q.1
      · exact absurd (h1.symm.trans h2) n.1
      · simp [h1, n.1]
    · simp [h1]
theorem ov_comm {h : Nat → va_E} {b : List (Nat × va_E)} : ∀ {a : List (Nat × va_E)}, (∀ q ∈ a, q.1 ∉ b.map Prod.fst) → ov a (ov b h) = ov b (ov a h)
  | [], _ => rfl
  | q :: t, n => by
    rw [ov, ov, ov_comm (fun x hx => n x (List.mem_cons_of_mem _ hx)), ov_upc (n q List.mem_cons_self)]
/-- cells come: those that were looked at are 'old' then, 'new' are the cells that came -/
def qN {S : Type} (L0 : List Nat) (h0 : Nat → va_E) (old new : S → List (Nat × va_E)) (rr : S → Option Value) (post : S → Prop) : Option Value → List Nat → (Nat → va_E) → Prop := fun r L' h' => ∃ u : S, r = rr u ∧ L' = L0 ++ (new u).map Prod.fst ∧ h' = ov (old u ++ new u) h0 ∧ (∀ a ∈ (new u).map Prod.fst, a ∉ L0) ∧ ((new u).map Prod.fst).Nodup ∧ post u
section
variable {E : vEnv} {l : Launch} {y : MethodName} {cc : ByteArray} {nL : Nat} {ret : Option FieldType} {R : Room} {Z : List Frame → Array Value → State → State → Prop} {L : List Nat} {h : Nat → va_E} {k n : Nat} {vw : List (Nat × va_E)} {pc : Nat} {lv : List (Nat × Value)} {st : List Value}
theorem V.foldN {qs nw vw2 : List (Nat × va_E)} {L2 : List Nat} {st2 : List Value} (hv : VK L vw) (is : List Nat) (hk : is.map (fun i => (vw[i]?).map Prod.fst) = qs.map (fun q => some q.1)) (hf : ∀ a ∈ nw.map Prod.fst, a ∉ L) (hn : (nw.map Prod.fst).Nodup) (e : ovset vw is qs ++ nw = vw2) (eL : L ++ nw.map Prod.fst = L2) (hst : st = st2) (kk : V E l y cc nL ret R Z L2 h k n vw2 pc lv st2) : V E l y cc nL ret R Z (L ++ nw.map Prod.fst) (ov (qs ++ nw) (ov vw h)) k n [] pc lv st := by
  subst e; subst hst; subst eL
  have hk2 := ovset_keys hk
  have hv2 := hv.keys hk2
  intro _ p e s m args below meth c H locs ls hX hW hS hl
  refine kk ⟨?_, ?_⟩ p e s m args below meth c H locs ls hX ?_ hS hl
  · intro q hq
    rcases List.mem_append.mp hq with hq | hq
    · exact List.mem_append_left _ (hv2.1 q hq)
    · exact List.mem_append_right _ (List.mem_map.mpr ⟨q, hq, rfl⟩)
  · rw [List.map_append, List.nodup_append]
    refine ⟨hv2.2, hn, fun x hx z hz => ?_⟩
    intro hxz
    subst hxz
    obtain ⟨q, hq, rfl⟩ := List.mem_map.mp hx
    exact hf _ hz (hv2.1 q hq)
  · have hd : ∀ q ∈ nw, q.1 ∉ vw.map Prod.fst := fun q hq hm => by
      obtain ⟨x, hx, hxe⟩ := List.mem_map.mp hm
      exact hf q.1 (List.mem_map.mpr ⟨q, hq, rfl⟩) (hxe ▸ hv.1 x hx)
    rw [ov_app2, ← ov_put hv.2 hk, ← ov_comm hd, ← ov_app2]
    exact hW
/-- an array's places, told by another function -/
theorem V.arrEq {a N : Nat} {f g : Nat → Int32} {vw2 : List (Nat × va_E)} (p : Nat) (t : Nat) (hp : vw[p]? = some (a, .inl (eA E t, N, .inl f))) (he : ∀ j, j < N → f j = g j) (h2 : vw.set p (a, .inl (eA E t, N, .inl g)) = vw2) (kk : V E l y cc nL ret R Z L h k n vw2 pc lv st) : V E l y cc nL ret R Z L h k n vw pc lv st := by
  subst h2
  intro hv p1 e s m args below meth c H locs ls hX hW hS hl
  refine kk (hv.set hp) p1 e s m args below meth c H locs ls hX ?_ hS hl
  obtain ⟨i, hi⟩ := hW.get hv hp
  refine hW.put hv hp hi ?_ ?_
  · intro k q hq
    by_cases hk : k = i
    · subst hk
      rw [List.getElem?_set_self (List.getElem?_eq_some_iff.mp hi).1] at hq
      cases hq
      have h0 := hW.1 k _ hi
      have e1 : vp_cell (eA E t) (N, .inl g) = vp_cell (eA E t) (N, .inl f) := by
        rw [vp_cell_i, vp_cell_i]
        simp only [arrV]
        congr 1
        apply Array.ext
        · simp
        · intro j h1 h2
          simp only [Array.getElem_ofFn]
          rw [he j (by simpa using h1)]
      show H[a]? = some (vp_cell _ _)
      rw [e1]
      exact h0
    · rw [List.getElem?_set_ne (Ne.symm hk)] at hq
      exact hW.1 k q hq
  · exact hW.2.set hi
variable {y2 : MethodName} {b2 : ByteArray} {nL2 : Nat} {ret2 : Option FieldType} {na d mc ms index a ci N : Nat} {C : String} {T : u_T} {fs : List Value} {As rest : List Value} {vwc : List (Nat × va_E)}
theorem V.callIn {S : Type} {old new : S → List (Nat × va_E)} {post : S → Prop} (is : List Nat) (hM : CT E l y2 b2 nL2 none d mc ms L (ov vw h) vwc (.ref a :: As) (qN L (ov vw h) old new (fun _ => none) post)) (hC : is.map (fun i => vw[i]?) = vwc.map some) (hn : is.Nodup) (mi : MI y2 b2 nL2 none na) (hy : y2.name = "<init>") (hlink : Cond.methodLink y.cls index y2 ∈ wsAll) (hinst : Cond.instanceMethod y2 ∈ wsAll) (hAs : As.length = na) (hst : st = As.reverse ++ .ref a :: rest) (hw : (rest.map fun v => v.category).sum ≤ 8) (hR : d + 1 ≤ R.frames ∧ 8 + (nL2 + 11) + 36 * d ≤ R.locals) (hf : k + mc ≤ R.cells ∧ n + ms ≤ R.slots) (hd : decode cc pc = .ok (.invokespecial index, 3))
    {vw2 : S → List (Nat × va_E)} {L2 : S → List Nat} (hk : ∀ u, is.map (fun i => (vw[i]?).map Prod.fst) = (old u).map (fun q => some q.1)) (e : ∀ u, ovset vw is (old u) ++ new u = vw2 u) (eL : ∀ u, L ++ (new u).map Prod.fst = L2 u) (kk : ∀ u, post u → (∀ a ∈ (new u).map Prod.fst, a ∉ L) → ((new u).map Prod.fst).Nodup → V E l y cc nL ret R Z (L2 u) h (k + mc) (n + ms) (vw2 u) (pc + 3) lv rest) : V E l y cc nL ret R Z L h k n vw pc lv st := by
  refine V.callI is hM hC hn mi hy hlink hinst hAs hst hw hR hf hd ?_
  rintro hv _ _ _ ⟨u, rfl, rfl, rfl, h1, h2, hq⟩
  exact V.foldN hv is (hk u) h1 h2 (e u) (eL u) rfl (kk u hq h1 h2)
theorem V.callINn {host : String} {S : Type} {old new : S → List (Nat × va_E)} {post : S → Prop} (is : List Nat) (hM : CT E l y2 b2 nL2 none d mc ms L (ov vw h) vwc (.ref a :: As) (qN L (ov vw h) old new (fun _ => none) post)) (hC : is.map (fun i => vw[i]?) = vwc.map some) (hn : is.Nodup) (mi : MI y2 b2 nL2 none na) (hy : y2.name = "<init>") (hlink : (y.cls, index, y2, host) ∈ nwM) (hinst : Cond.instanceMethod y2 ∈ wsAll) (hAs : As.length = na) (hst : st = As.reverse ++ .ref a :: rest) (hw : (rest.map fun v => v.category).sum ≤ 8) (hR : d + 1 ≤ R.frames ∧ 8 + (nL2 + 11) + 36 * d ≤ R.locals) (hf : k + mc ≤ R.cells ∧ n + ms ≤ R.slots) (hd : decode cc pc = .ok (.invokespecial index, 3))
    {vw2 : S → List (Nat × va_E)} {L2 : S → List Nat} (hk : ∀ u, is.map (fun i => (vw[i]?).map Prod.fst) = (old u).map (fun q => some q.1)) (e : ∀ u, ovset vw is (old u) ++ new u = vw2 u) (eL : ∀ u, L ++ (new u).map Prod.fst = L2 u) (kk : ∀ u, post u → (∀ a ∈ (new u).map Prod.fst, a ∉ L) → ((new u).map Prod.fst).Nodup → V E l y cc nL ret R Z (L2 u) h (k + mc) (n + ms) (vw2 u) (pc + 3) lv rest) : V E l y cc nL ret R Z L h k n vw pc lv st := by
  refine V.callIN is hM hC hn mi hy hlink hinst hAs hst hw hR hf hd ?_
  rintro hv _ _ _ ⟨u, rfl, rfl, rfl, h1, h2, hq⟩
  exact V.foldN hv is (hk u) h1 h2 (e u) (eL u) rfl (kk u hq h1 h2)
end
/-! the nose as numbers: tired, place, steps, cold, purse, bought, smelt, turned -/
abbrev NS : Type := (Nat → Int32) × Int32 × Int32 × Int32 × Int32 × Int32 × Int32 × Int32
def coldB (c : Int32) : Int32 := if 0 < c then 1 else 0
def absI (x : Int32) : Int32 := if 0 ≤ x then x else 0 - x
def stepN (r : Nat → Int32) (n : Int32) (s : NS) : NS := (fun j => heldI (s.1 j - n * r j), s.2.1, s.2.2.1 + n, if 0 < s.2.2.2.1 - n then s.2.2.2.1 - n else 0, s.2.2.2.2.1, s.2.2.2.2.2.1, s.2.2.2.2.2.2.1, s.2.2.2.2.2.2.2)
def muchN (κ so : Nat) (sg : Int32) (s : NS) : Int32 := smeltI κ sg (s.1 so) (coldB s.2.2.2.1)
def smellN (κ so : Nat) (sg : Int32) (lt : Nat → Int32) (s : NS) : NS := (fun j => heldI (s.1 j + tiringI κ (nI so) (nI j) (lt so)), s.2.1, s.2.2.1, s.2.2.2.1, s.2.2.2.2.1, s.2.2.2.2.2.1, s.2.2.2.2.2.2.1 + muchN κ so sg s, s.2.2.2.2.2.2.2)
def placeI (m k : Nat) (tu : Int32) : Int32 := if tu = 0 then nI k else nI m - 1 - nI k
def atPlace (p : Int32) (s : NS) : NS := (s.1, p, s.2.2.1, s.2.2.2.1, s.2.2.2.2.1, s.2.2.2.2.2.1, s.2.2.2.2.2.2.1, s.2.2.2.2.2.2.2)
def freshN (pu : Int32) (s : NS) : NS := (fun _ => 0, 0, 0, 0, pu, 0, 0, s.2.2.2.2.2.2.2)
/-- what a visit's way and smelling make, ahead of buying -/
def wentN (m k κ so : Nat) (sg : Int32) (lt lr : Nat → Int32) (s : NS) : NS := smellN κ so sg lt (atPlace (placeI m k s.2.2.2.2.2.2.2) (stepN lr (absI (placeI m k s.2.2.2.2.2.2.2 - s.2.1)) s))
def vsmN (m k κ so : Nat) (sg : Int32) (lr : Nat → Int32) (s : NS) : Int32 := muchN κ so sg (atPlace (placeI m k s.2.2.2.2.2.2.2) (stepN lr (absI (placeI m k s.2.2.2.2.2.2.2 - s.2.1)) s))
def callN (m k κ so : Nat) (sg pr wa : Int32) (lt lr : Nat → Int32) (s : NS) : NS :=
  ((wentN m k κ so sg lt lr s).1, (wentN m k κ so sg lt lr s).2.1, (wentN m k κ so sg lt lr s).2.2.1, (wentN m k κ so sg lt lr s).2.2.2.1,
   (if wa ≤ vsmN m k κ so sg lr s then if ((s.2.2.2.2.2.1 >>> (nI k &&& 31)) &&& 1) = 1 then s.2.2.2.2.1 else if pr ≤ s.2.2.2.2.1 then s.2.2.2.2.1 - pr else s.2.2.2.2.1 else s.2.2.2.2.1),
   (if wa ≤ vsmN m k κ so sg lr s then if ((s.2.2.2.2.2.1 >>> (nI k &&& 31)) &&& 1) = 1 then s.2.2.2.2.2.1 else if pr ≤ s.2.2.2.2.1 then s.2.2.2.2.2.1 ||| (1 <<< (nI k &&& 31)) else s.2.2.2.2.2.1 else s.2.2.2.2.2.1),
   (wentN m k κ so sg lt lr s).2.2.2.2.2.2.1, s.2.2.2.2.2.2.2)
