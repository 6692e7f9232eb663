theorem VK.take {L : List Nat} {vw : List (Nat × va_E)} {q : Nat × va_E} (h : VK L (vw ++ [q])) : VK L vw ∧ q.1 ∈ L ∧ q.1 ∉ vw.map Prod.fst := by
  have h2 := h.2
  rw [List.map_append, List.nodup_append] at h2
  exact ⟨⟨fun x hx => h.1 x (List.mem_append_left _ hx), h2.1⟩, h.1 q (List.mem_append_right _ (List.mem_singleton.mpr rfl)), fun hm => h2.2.2 _ hm q.1 (by simp) rfl⟩
section
variable {E : vEnv} {l : Launch} {y : MethodName} {cc : ByteArray} {nL : Nat} {ret : Option FieldType} {R : Room} {Z : List Frame → Array Value → State → State → Prop} {L : List Nat} {h : Nat → va_E} {k n : Nat} {vw : List (Nat × va_E)} {pc : Nat} {lv : List (Nat × Value)} {st : List Value}
/-- a cell that the heap behind has anyway is looked away from -/
theorem V.unsee {a : Nat} {e : va_E} (hh : h a = e) (kk : V E l y cc nL ret R Z L h k n vw pc lv st) : V E l y cc nL ret R Z L h k n (vw ++ [(a, e)]) pc lv st := by
  intro hv p e1 s m args below meth c H locs ls hX hW hS hl
  obtain ⟨h1, h2, h3⟩ := hv.take
  refine kk h1 p e1 s m args below meth c H locs ls hX ?_ hS hl
  have e0 : ov (vw ++ [(a, e)]) h = ov vw h := by
    rw [ov_app h3]
    funext j
    simp only [va_up]
    by_cases hj : j = a
    · rw [if_pos hj, hj, ov_out h3, hh]
    · rw [if_neg hj]
  rw [e0] at hW
  exact hW
end
abbrev SHP : Type := Nat × Nat × Int32 × Int32
abbrev shC (s : SHP) : va_E := ob (kci s.1) [.int (nI s.2.1), .int s.2.2.1, .int s.2.2.2]
/-- the shops 0 .. m-1 that a row of references tells; none of them is at an address of the kind K -/
def ShopsAt (L : List Nat) (K : Nat → Prop) (m : Nat) (wf : Nat → Option Nat) (sf : Nat → SHP) (h : Nat → va_E) : Prop := ∀ k, k < m → ∃ q, wf k = some q ∧ q ∈ L ∧ ¬ K q ∧ h q = shC (sf k) ∧ (sf k).1 < 4 ∧ (sf k).2.1 < 4
theorem ShopsAt.mono {L : List Nat} {K K2 : Nat → Prop} {m : Nat} {wf : Nat → Option Nat} {sf : Nat → SHP} {h : Nat → va_E} (H : ShopsAt L K m wf sf h) (hs : ∀ a, K2 a → K a) : ShopsAt L K2 m wf sf h := fun k hk => by
  obtain ⟨q, h1, h2, h3, h4⟩ := H k hk
  exact ⟨q, h1, h2, fun hm => h3 (hs q hm), h4⟩
theorem ShopsAt.over {L : List Nat} {K : Nat → Prop} {m : Nat} {wf : Nat → Option Nat} {sf : Nat → SHP} {h : Nat → va_E} {vw : List (Nat × va_E)} (H : ShopsAt L K m wf sf h) (hs : ∀ a ∈ vw.map Prod.fst, K a) : ShopsAt L K m wf sf (ov vw h) := fun k hk => by
  obtain ⟨q, h1, h2, h3, h4, h5⟩ := H k hk
  exact ⟨q, h1, h2, h3, by rw [ov_out (fun hm => h3 (hs q hm))]; exact h4, h5⟩
/-- cells of the kind P as g has them, the others as h has them -/
noncomputable def mix (P : Nat → Prop) (g h : Nat → va_E) : Nat → va_E := fun a => @ite _ (P a) (Classical.propDecidable _) (g a) (h a)
theorem mix_in {P : Nat → Prop} {g h : Nat → va_E} {a : Nat} (p : P a) : mix P g h a = g a := if_pos p
theorem mix_out {P : Nat → Prop} {g h : Nat → va_E} {a : Nat} (p : ¬ P a) : mix P g h a = h a := if_neg p
theorem mix_self {P : Nat → Prop} {h : Nat → va_E} : mix P h h = h := by
  funext a
  by_cases p : P a
  · exact mix_in p
  · exact mix_out p
theorem mix_up {P : Nat → Prop} {g h : Nat → va_E} {a : Nat} {e : va_E} (p : P a) : va_up (mix P g h) a e = mix P (va_up g a e) h := by
  funext b
  by_cases hb : b = a
  · subst hb
    rw [va_up_self, mix_in p, va_up_self]
  · rw [va_up_ne _ _ hb]
    by_cases pb : P b
    · rw [mix_in pb, mix_in pb, va_up_ne _ _ hb]
    · rw [mix_out pb, mix_out pb]
theorem mix_ov {P : Nat → Prop} {g h : Nat → va_E} : ∀ {vw : List (Nat × va_E)}, (∀ a ∈ vw.map Prod.fst, ¬ P a) → mix P g (ov vw h) = ov vw (mix P g h)
  | [], _ => rfl
  | q :: t, hd => by
    funext b
    have ih := mix_ov (g := g) (h := h) (vw := t) (fun a ha => hd a (List.mem_cons_of_mem _ ha))
    show mix P g (ov (q :: t) h) b = va_up (ov t (mix P g h)) q.1 q.2 b
    rw [← ih]
    by_cases hb : b = q.1
    · subst hb
      rw [va_up_self, mix_out (hd q.1 List.mem_cons_self), ov, va_up_self]
    · rw [va_up_ne _ _ hb]
      by_cases pb : P b
      · rw [mix_in pb, mix_in pb]
      · rw [mix_out pb, mix_out pb, ov, va_up_ne _ _ hb]
theorem mix_mix {P Q : Nat → Prop} {g g2 h : Nat → va_E} (hs : ∀ a, P a → Q a) : mix P g2 (mix Q g h) = mix Q (mix P g2 g) h := by
  funext b
  by_cases pb : P b
  · rw [mix_in pb, mix_in (hs b pb), mix_in pb]
  · rw [mix_out pb]
    by_cases qb : Q b
    · rw [mix_in qb, mix_in qb, mix_out pb]
    · rw [mix_out qb, mix_out qb]
theorem ShopsAt.mixed {L : List Nat} {K P : Nat → Prop} {m : Nat} {wf : Nat → Option Nat} {sf : Nat → SHP} {g h : Nat → va_E} (H : ShopsAt L K m wf sf h) (hs : ∀ a, P a → K a) : ShopsAt L K m wf sf (mix P g h) := fun k hk => by
  obtain ⟨q, h1, h2, h3, h4, h5⟩ := H k hk
  exact ⟨q, h1, h2, h3, by rw [mix_out (fun p => h3 (hs q p))]; exact h4, h5⟩
/-- N noses, each with its row -/
abbrev noseC (t : Nat) (s : NS) : va_E := ob 3 [.ref t, .int s.2.1, .int s.2.2.1, .int s.2.2.2.1, .int s.2.2.2.2.1, .int s.2.2.2.2.2.1, .int s.2.2.2.2.2.2.1, .int s.2.2.2.2.2.2.2]
def FN (E : vEnv) (an tn : Nat → Nat) (N : Nat) (f : Nat → NS) (g : Nat → va_E) : Prop := ∀ i, i < N → g (an i) = noseC (tn i) (f i) ∧ g (tn i) = aI E 4 (f i).1
def inF (an tn : Nat → Nat) (N : Nat) : Nat → Prop := fun a => ∃ i, i < N ∧ (a = an i ∨ a = tn i)
/-- they are apart, ours, and none is at an address of the kind K -/
def FD (L : List Nat) (K : Nat → Prop) (an tn : Nat → Nat) (N : Nat) : Prop := (∀ i j, i < N → j < N → an i = an j → i = j) ∧ (∀ i j, i < N → j < N → tn i = tn j → i = j) ∧ (∀ i j, i < N → j < N → an i ≠ tn j) ∧ ∀ i, i < N → an i ∈ L ∧ tn i ∈ L ∧ ¬ K (an i) ∧ ¬ K (tn i)
theorem FN.set {E : vEnv} {L : List Nat} {K : Nat → Prop} {an tn : Nat → Nat} {N : Nat} {f : Nat → NS} {g : Nat → va_E} (H : FN E an tn N f g) (D : FD L K an tn N) {j : Nat} (hj : j < N) (s : NS) : FN E an tn N (va_up f j s) (va_up (va_up g (an j) (noseC (tn j) s)) (tn j) (aI E 4 s.1)) := by
  intro i hi
  obtain ⟨h1, h2⟩ := H i hi
  by_cases hij : i = j
  · subst hij
    rw [va_up_self, va_up_self, va_up_ne _ _ (D.2.2.1 i i hi hi), va_up_self]
    exact ⟨rfl, rfl⟩
  · rw [va_up_ne _ _ hij, va_up_ne _ _ (D.2.2.1 i j hi hj), va_up_ne _ _ (fun e => hij (D.1 i j hi hj e)), va_up_ne _ _ (fun e => hij (D.2.1 i j hi hj e)), va_up_ne _ _ (fun e => D.2.2.1 j i hj hi e.symm)]
    exact ⟨h1, h2⟩
theorem inF_a {an tn : Nat → Nat} {N i : Nat} (h : i < N) : inF an tn N (an i) := ⟨i, h, Or.inl rfl⟩
theorem inF_t {an tn : Nat → Nat} {N i : Nat} (h : i < N) : inF an tn N (tn i) := ⟨i, h, Or.inr rfl⟩
/-- what is returned, and a heap whose cells of the kind P are others -/
def qG {S : Type} (L0 : List Nat) (h0 : Nat → va_E) (P : Nat → Prop) (gf : S → Nat → va_E) (vw' : S → List (Nat × va_E)) (rr : S → Option Value) (post : S → Prop) : Option Value → List Nat → (Nat → va_E) → Prop := fun r L' h' => ∃ u : S, r = rr u ∧ L' = L0 ∧ h' = ov (vw' u) (mix P (gf u) h0) ∧ post u
section
variable {E : vEnv} {l : Launch} {y : MethodName} {cc : ByteArray} {nL : Nat} {ret : Option FieldType} {R : Room} {Z : List Frame → Array Value → State → State → Prop} {L : List Nat} {h : Nat → va_E} {k n : Nat} {vw : List (Nat × va_E)} {pc : Nat} {lv : List (Nat × Value)} {st : List Value}
theorem V.seeF {P : Nat → Prop} {g : Nat → va_E} (a : Nat) {e : va_E} (ha : a ∈ L) (hn : a ∉ vw.map Prod.fst) (hP : P a) (hh : g a = e) (kk : V E l y cc nL ret R Z L (mix P g h) k n (vw ++ [(a, e)]) pc lv st) : V E l y cc nL ret R Z L (mix P g h) k n vw pc lv st := V.see a ha hn (by rw [mix_in hP]; exact hh) kk
theorem V.sinkF {P : Nat → Prop} {g : Nat → va_E} {a : Nat} {e : va_E} (hP : P a) (kk : V E l y cc nL ret R Z L (mix P (va_up g a e) h) k n vw pc lv st) : V E l y cc nL ret R Z L (mix P g h) k n (vw ++ [(a, e)]) pc lv st := by
  intro hv p e1 s m args below meth c H locs ls hX hW hS hl
  obtain ⟨h1, h2, h3⟩ := hv.take
  refine kk h1 p e1 s m args below meth c H locs ls hX ?_ hS hl
  rw [ov_app h3, ov_upc h3, mix_up hP] at hW
  exact hW
theorem V.mixIn (P : Nat → Prop) (kk : V E l y cc nL ret R Z L (mix P h h) k n vw pc lv st) : V E l y cc nL ret R Z L h k n vw pc lv st := by
  rw [mix_self] at kk
  exact kk
variable {y2 : MethodName} {b2 : ByteArray} {nL2 : Nat} {ret2 : Option FieldType} {na d mc ms index a ci N : Nat} {C : String} {T : u_T} {fs : List Value} {As rest : List Value} {vwc : List (Nat × va_E)}
theorem V.foldG {P : Nat → Prop} {g : Nat → va_E} {vw2 qs : List (Nat × va_E)} {st2 : List Value} (hv : VK L vw) (is : List Nat) (hk : is.map (fun i => (vw[i]?).map Prod.fst) = qs.map (fun q => some q.1)) (hd : ∀ a ∈ vw.map Prod.fst, ¬ P a) (e : ovset vw is qs = vw2) (hst : st = st2) (kk : V E l y cc nL ret R Z L (mix P g h) k n vw2 pc lv st2) : V E l y cc nL ret R Z L (ov qs (mix P g (ov vw h))) k n [] pc lv st := by
  rw [mix_ov hd]
  exact V.fold hv is hk e hst kk
theorem V.callVg {S : Type} {P : Nat → Prop} {gf : S → Nat → va_E} {vw' : S → List (Nat × va_E)} {rr : S → Option Value} {post : S → Prop} (is : List Nat) (hM : CT E l y2 b2 nL2 ret2 d mc ms L (ov vw h) vwc (.ref a :: As) (qG L (ov vw h) P gf vw' rr post)) (hC : is.map (fun i => vw[i]?) = vwc.map some) (hn : is.Nodup) (mi : MI y2 b2 nL2 ret2 na) (p : Nat) (hp : vw[p]? = some (a, .inr (ci, fs))) (hc : vwCl[ci]? = some (C, T, N)) (hlink : Cond.methodLink y.cls index y2 ∈ wsAll) (hinst : Cond.instanceMethod y2 ∈ wsAll) (hsel : Cond.selects C y2 y2 ∈ wsAll) (hAs : As.length = na) (hst : st = As.reverse ++ .ref a :: rest) (hw : (rest.map fun v => v.category).sum ≤ 8) (hR : d + 1 ≤ R.frames ∧ 8 + (nL2 + 11) + 36 * d ≤ R.locals) (hf : k + mc ≤ R.cells ∧ n + ms ≤ R.slots) (hd : decode cc pc = .ok (.invokevirtual index, 3))
    {vw2 : S → List (Nat × va_E)} {st2 : S → List Value} (hP : ∀ a ∈ vw.map Prod.fst, ¬ P a) (hk : ∀ u, is.map (fun i => (vw[i]?).map Prod.fst) = (vw' u).map (fun q => some q.1)) (e : ∀ u, ovset vw is (vw' u) = vw2 u) (hst2 : ∀ u, (rr u).toList ++ rest = st2 u) (kk : ∀ u, post u → V E l y cc nL ret R Z L (mix P (gf u) h) (k + mc) (n + ms) (vw2 u) (pc + 3) lv (st2 u)) : V E l y cc nL ret R Z L h k n vw pc lv st := by
  refine V.callV is hM hC hn mi p hp hc hlink hinst hsel hAs hst hw hR hf hd ?_
  rintro hv _ _ _ ⟨u, rfl, rfl, rfl, hq⟩
  exact V.foldG hv is (hk u) hP (e u) (hst2 u) (kk u hq)
end
noncomputable def boolI (p : Prop) : Int32 := @ite _ p (Classical.propDecidable p) 1 0
theorem boolI_t {p : Prop} (h : p) : boolI p = 1 := if_pos h
theorem boolI_f {p : Prop} (h : ¬ p) : boolI p = 0 := if_neg h
theorem boolI_01 (p : Prop) : boolI p = 0 ∨ boolI p = 1 := by
  by_cases h : p
  · exact Or.inr (boolI_t h)
  · exact Or.inl (boolI_f h)
def tiredBy (κ so : Nat) (ti : Int32) : Nat → Int32
  | 0 => 0
  | n + 1 => heldI (tiredBy κ so ti n + tiringI κ (nI so) (nI so) ti)
def behindI (s : SHP) (ti : Int32) (v : Nat) : Int32 := smeltI s.1 s.2.2.1 (tiredBy s.1 s.2.1 ti v) 0
/-- the told i fits, were the tire of a sort so -/
def tellFits (sf : Nat → SHP) (tk tv : Nat → Nat) (ts : Nat → Int32) (so : Int32) (ti : Int32) (i : Nat) : Prop := nI (sf (tk i)).2.1 = so → behindI (sf (tk i)) ti (tv i) = ts i
theorem sw_out {x : Int32} (n : Nat) (hn : n < 2 ^ 30) (h : ∀ j, j < n + 1 → x ≠ nI j) : x.toInt < 0 ∨ (n : Int) < x.toInt := by
  by_cases h0 : x < 0
  · left
    have := Int32.lt_iff_toInt_lt.mp h0
    simpa using this
  · right
    obtain ⟨j, hj, rfl⟩ := nI_of h0
    rw [nI_toInt hj]
    by_cases hjn : j < n + 1
    · exact absurd rfl (h j hjn)
    · omega
/-! walks: what a nose is behind the first i visits of a row -/
abbrev WP : Type := Nat × (Nat → SHP) × Int32 × (Nat → Int32) × (Nat → Int32)
def visitN (p : WP) (k : Nat) (s : NS) : NS := callN p.1 k (p.2.1 k).1 (p.2.1 k).2.1 (p.2.1 k).2.2.1 (p.2.1 k).2.2.2 p.2.2.1 p.2.2.2.1 p.2.2.2.2 s
def visitS (p : WP) (k : Nat) (s : NS) : Int32 := vsmN p.1 k (p.2.1 k).1 (p.2.1 k).2.1 (p.2.1 k).2.2.1 p.2.2.2.2 s
def walkN (p : WP) (ρ : Nat → Nat) (s : NS) : Nat → NS
  | 0 => s
  | i + 1 => visitN p (ρ i) (walkN p ρ s i)
theorem visitN_tu (p : WP) (k : Nat) (s : NS) : (visitN p k s).2.2.2.2.2.2.2 = s.2.2.2.2.2.2.2 := rfl
theorem walkN_tu (p : WP) (ρ : Nat → Nat) (s : NS) : ∀ i, (walkN p ρ s i).2.2.2.2.2.2.2 = s.2.2.2.2.2.2.2
  | 0 => rfl
  | i + 1 => (visitN_tu p (ρ i) _).trans (walkN_tu p ρ s i)
theorem walkN_congr {p : WP} {ρ ρ2 : Nat → Nat} {s : NS} : ∀ {i : Nat}, (∀ j, j < i → ρ j = ρ2 j) → walkN p ρ s i = walkN p ρ2 s i
  | 0, _ => rfl
  | i + 1, h => by rw [walkN, walkN, h i (Nat.lt_succ_self i), walkN_congr (fun j hj => h j (Nat.lt_succ_of_lt hj))]
theorem nin_app {vw : List (Nat × va_E)} {a b : Nat} {e : va_E} (h : a ∉ vw.map Prod.fst) (hne : a ≠ b) : a ∉ (vw ++ [(b, e)]).map Prod.fst := by
  rw [List.map_append]
  intro hm
  rcases List.mem_append.mp hm with hm | hm
  · exact h hm
  · exact hne (by simpa using hm)
theorem mix_same {P : Nat → Prop} {g g2 h : Nat → va_E} : mix P g2 (mix P g h) = mix P g2 h := by
  funext b
  by_cases pb : P b
  · rw [mix_in pb, mix_in pb]
  · rw [mix_out pb, mix_out pb, mix_out pb]
section
variable {E : vEnv} {l : Launch} {y : MethodName} {cc : ByteArray} {nL : Nat} {ret : Option FieldType} {R : Room} {Z : List Frame → Array Value → State → State → Prop} {L : List Nat} {h : Nat → va_E} {k n : Nat} {vw : List (Nat × va_E)} {pc : Nat} {lv : List (Nat × Value)} {st : List Value}
theorem V.base {h2 : Nat → va_E} (e : h = h2) (kk : V E l y cc nL ret R Z L h2 k n vw pc lv st) : V E l y cc nL ret R Z L h k n vw pc lv st := by
  rw [e]; exact kk
end
theorem ne_of_nin {P : Nat → Prop} {q b : Nat} (hq : ¬ P q) (hb : P b) : q ≠ b := fun e => hq (e ▸ hb)
