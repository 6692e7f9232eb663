theorem FD.off {L : List Nat} {K : Nat → Prop} {an tn : Nat → Nat} {N a : Nat} (D : FD L K an tn N) (ha : K a) : ¬ inF an tn N a := by
  rintro ⟨i, hi, rfl | rfl⟩
  · exact (D.2.2.2 i hi).2.2.1 ha
  · exact (D.2.2.2 i hi).2.2.2 ha
theorem FN.over {E : vEnv} {an tn : Nat → Nat} {N : Nat} {f : Nat → NS} {g : Nat → va_E} {vw : List (Nat × va_E)} (H : FN E an tn N f g) (hd : ∀ a ∈ vw.map Prod.fst, ¬ inF an tn N a) : FN E an tn N f (ov vw g) := fun i hi => by
  rw [ov_out (fun hm => hd _ hm (inF_a hi)), ov_out (fun hm => hd _ hm (inF_t hi))]
  exact H i hi
theorem FN.mixed {E : vEnv} {an tn : Nat → Nat} {N : Nat} {f : Nat → NS} {g h : Nat → va_E} (H : FN E an tn N f g) : FN E an tn N f (mix (inF an tn N) g h) := fun i hi => by
  rw [mix_in (inF_a hi), mix_in (inF_t hi)]
  exact H i hi
