/-- addresses that came, one behind another -/
def Fr (L qs : List Nat) : Prop := (∀ a ∈ qs, a ∉ L) ∧ qs.Nodup
theorem Fr.nil {L : List Nat} : Fr L [] := ⟨fun _ h => by simp at h, List.nodup_nil⟩
theorem Fr.more {L qs ns : List Nat} (h : Fr L qs) (h1 : ∀ a ∈ ns, a ∉ L ++ qs) (h2 : ns.Nodup) : Fr L (qs ++ ns) := by
  refine ⟨fun a ha hL => ?_, ?_⟩
  · rcases List.mem_append.mp ha with ha | ha
    · exact h.1 a ha hL
    · exact h1 a ha (List.mem_append_left _ hL)
  · rw [List.nodup_append]
    exact ⟨h.2, h2, fun a ha b hb e => h1 b hb (List.mem_append_right _ (e ▸ ha))⟩
theorem Fr.one {L qs : List Nat} {q : Nat} (h : Fr L qs) (hq : q ∉ L ++ qs) : Fr L (qs ++ [q]) := h.more (fun a ha => by rw [List.mem_singleton.mp ha]; exact hq) (List.nodup_cons.mpr ⟨List.not_mem_nil, List.nodup_nil⟩)
section
variable {E : vEnv} {l : Launch} {y : MethodName} {cc : ByteArray} {nL : Nat} {ret : Option FieldType} {R : Room} {Z : List Frame → Array Value → State → State → Prop} {L : List Nat} {h : Nat → va_E} {k n : Nat} {vw : List (Nat × va_E)} {pc : Nat} {lv : List (Nat × Value)} {st : List Value}
theorem V.arrEqQ {a N : Nat} {f g : Nat → Option Nat} {vw2 : List (Nat × va_E)} (p : Nat) (t : Nat) (hp : vw[p]? = some (a, .inl (eA E t, N, .inr (.inr (.inr (.inr f)))))) (he : ∀ j, j < N → f j = g j) (h2 : vw.set p (a, .inl (eA E t, N, .inr (.inr (.inr (.inr g))))) = vw2) (kk : V E l y cc nL ret R Z L h k n vw2 pc lv st) : V E l y cc nL ret R Z L h k n vw pc lv st := by
  subst h2
  intro hv p1 e s m args below meth c H locs ls hX hW hS hl
  refine kk (hv.set hp) p1 e s m args below meth c H locs ls hX ?_ hS hl
  obtain ⟨i, hi⟩ := hW.get hv hp
  refine hW.put hv hp hi ?_ ?_
  · intro k q hq
    by_cases hk : k = i
    · subst hk
      rw [List.getElem?_set_self (List.getElem?_eq_some_iff.mp hi).1] at hq
      cases hq
      have h0 := hW.1 k _ hi
      have e1 : vp_cell (eA E t) (N, .inr (.inr (.inr (.inr g)))) = vp_cell (eA E t) (N, .inr (.inr (.inr (.inr f)))) := by
        rw [vp_cell_q, vp_cell_q]
        simp only [arrV]
        congr 1
        apply Array.ext
        · simp
        · intro j h1 h2
          simp only [Array.getElem_ofFn]
          rw [he j (by simpa using h1)]
      show H[a]? = some (vp_cell _ _)
      rw [e1]
      exact h0
    · rw [List.getElem?_set_ne (Ne.symm hk)] at hq
      exact hW.1 k q hq
  · exact hW.2.set hi
end
