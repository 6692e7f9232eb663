section
variable {E : vEnv} {l : Launch} {y : MethodName} {cc : ByteArray} {nL : Nat} {ret : Option FieldType} {R : Room} {Z : List Frame → Array Value → State → State → Prop} {L : List Nat} {h : Nat → va_E} {k n : Nat} {vw : List (Nat × va_E)} {pc : Nat} {lv : List (Nat × Value)} {st : List Value}
variable {y2 : MethodName} {b2 : ByteArray} {nL2 : Nat} {ret2 : Option FieldType} {na d mc ms index a ci N : Nat} {C : String} {T : u_T} {fs : List Value} {As rest : List Value} {vwc : List (Nat × va_E)}
theorem V.sinkU {e : va_E} (kk : V E l y cc nL ret R Z L (va_up h a e) k n vw pc lv st) : V E l y cc nL ret R Z L h k n (vw ++ [(a, e)]) pc lv st := by
  intro hv p e1 s m args below meth c H locs ls hX hW hS hl
  have hv2 := hv.take
  refine kk hv2.1 p e1 s m args below meth c H locs ls hX ?_ hS hl
  have e2 : ov (vw ++ [(a, e)]) h = ov vw (va_up h a e) := ov_app2
  rw [← e2]
  exact hW
theorem V.callVn {S : Type} {old new : S → List (Nat × va_E)} {rr : S → Option Value} {post : S → Prop} (is : List Nat) (hM : CT E l y2 b2 nL2 ret2 d mc ms L (ov vw h) vwc (.ref a :: As) (qN L (ov vw h) old new rr post)) (hC : is.map (fun i => vw[i]?) = vwc.map some) (hn : is.Nodup) (mi : MI y2 b2 nL2 ret2 na) (p : Nat) (hp : vw[p]? = some (a, .inr (ci, fs))) (hc : vwCl[ci]? = some (C, T, N)) (hlink : Cond.methodLink y.cls index y2 ∈ wsAll) (hinst : Cond.instanceMethod y2 ∈ wsAll) (hsel : Cond.selects C y2 y2 ∈ wsAll) (hAs : As.length = na) (hst : st = As.reverse ++ .ref a :: rest) (hw : (rest.map fun v => v.category).sum ≤ 8) (hR : d + 1 ≤ R.frames ∧ 8 + (nL2 + 11) + 36 * d ≤ R.locals) (hf : k + mc ≤ R.cells ∧ n + ms ≤ R.slots) (hd : decode cc pc = .ok (.invokevirtual index, 3))
    {vw2 : S → List (Nat × va_E)} {st2 : S → List Value} (hk : ∀ u, is.map (fun i => (vw[i]?).map Prod.fst) = (old u).map (fun q => some q.1)) (e : ∀ u, ovset vw is (old u) ++ new u = vw2 u) (hst2 : ∀ u, (rr u).toList ++ rest = st2 u) (kk : ∀ u, post u → (∀ a ∈ (new u).map Prod.fst, a ∉ L) → ((new u).map Prod.fst).Nodup → V E l y cc nL ret R Z (L ++ (new u).map Prod.fst) h (k + mc) (n + ms) (vw2 u) (pc + 3) lv (st2 u)) : V E l y cc nL ret R Z L h k n vw pc lv st := by
  refine V.callV is hM hC hn mi p hp hc hlink hinst hsel hAs hst hw hR hf hd ?_
  rintro hv _ _ _ ⟨u, rfl, rfl, rfl, h1, h2, hq⟩
  exact V.foldN hv is (hk u) h1 h2 (e u) rfl (hst2 u) (kk u hq h1 h2)
/-- cells changed, and others made that are not looked at: behind, the base is hb, and ours are also qs -/
def qX {S : Type} (L0 : List Nat) (qs : S → List Nat) (hb : S → Nat → va_E) (vw' : S → List (Nat × va_E)) (rr : S → Option Value) (post : S → Prop) : Option Value → List Nat → (Nat → va_E) → Prop := fun r L' h' => ∃ u : S, r = rr u ∧ L' = L0 ++ qs u ∧ h' = ov (vw' u) (hb u) ∧ post u
end
theorem ShopsAt.push {L : List Nat} {K : Nat → Prop} {m q : Nat} {wf : Nat → Option Nat} {sf : Nat → SHP} {h : Nat → va_E} (H : ShopsAt L K m wf sf h) (hq : q ∉ L) (hK : ∀ a, K a → a ∈ L) (s : SHP) (h1 : s.1 < 4) (h2 : s.2.1 < 4) : ShopsAt (L ++ [q]) K (m + 1) (va_up wf m (some q)) (va_up sf m s) (va_up h q (shC s)) := fun k hk => by
  by_cases hkm : k = m
  · subst hkm
    exact ⟨q, va_up_self _ _ _, by simp, fun hh => hq (hK q hh), by rw [va_up_self, va_up_self], by rw [va_up_self]; exact h1, by rw [va_up_self]; exact h2⟩
  · obtain ⟨z, z1, z2, z3, z4, z5, z6⟩ := H k (by omega)
    refine ⟨z, by rw [va_up_ne _ _ hkm]; exact z1, List.mem_append_left _ z2, z3, ?_, by rw [va_up_ne _ _ hkm]; exact z5, by rw [va_up_ne _ _ hkm]; exact z6⟩
    rw [va_up_ne _ _ (show z ≠ q from fun e9 => hq (by rw [← e9]; exact z2)), va_up_ne _ _ hkm]
    exact z4
