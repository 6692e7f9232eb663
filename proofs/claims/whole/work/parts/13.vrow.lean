theorem fas_X10_143 {κ : Nat} (h : κ < 4) : FA RX10 143 (kci κ) 0 := by
  rcases (show κ = 0 ∨ κ = 1 ∨ κ = 2 ∨ κ = 3 by omega) with rfl | rfl | rfl | rfl
  · exact fa_X10_143_5
  · exact fa_X10_143_2
  · exact fa_X10_143_0
  · exact fa_X10_143_4
theorem fas_X10_146 {κ : Nat} (h : κ < 4) : FA RX10 146 (kci κ) 1 := by
  rcases (show κ = 0 ∨ κ = 1 ∨ κ = 2 ∨ κ = 3 by omega) with rfl | rfl | rfl | rfl
  · exact fa_X10_146_5
  · exact fa_X10_146_2
  · exact fa_X10_146_0
  · exact fa_X10_146_4
theorem fas_X10_149 {κ : Nat} (h : κ < 4) : FA RX10 149 (kci κ) 2 := by
  rcases (show κ = 0 ∨ κ = 1 ∨ κ = 2 ∨ κ = 3 by omega) with rfl | rfl | rfl | rfl
  · exact fa_X10_149_5
  · exact fa_X10_149_2
  · exact fa_X10_149_0
  · exact fa_X10_149_4
theorem fas_X3_63 {κ : Nat} (h : κ < 4) : FA RX3 63 (kci κ) 0 := by
  rcases (show κ = 0 ∨ κ = 1 ∨ κ = 2 ∨ κ = 3 by omega) with rfl | rfl | rfl | rfl
  · exact fa_X3_63_5
  · exact fa_X3_63_2
  · exact fa_X3_63_0
  · exact fa_X3_63_4
theorem fas_X3_100 {κ : Nat} (h : κ < 4) : FA RX3 100 (kci κ) 2 := by
  rcases (show κ = 0 ∨ κ = 1 ∨ κ = 2 ∨ κ = 3 by omega) with rfl | rfl | rfl | rfl
  · exact fa_X3_100_5
  · exact fa_X3_100_2
  · exact fa_X3_100_0
  · exact fa_X3_100_4
theorem fas_X7_31 {κ : Nat} (h : κ < 4) : FA RX7 31 (kci κ) 0 := by
  rcases (show κ = 0 ∨ κ = 1 ∨ κ = 2 ∨ κ = 3 by omega) with rfl | rfl | rfl | rfl
  · exact fa_X7_31_5
  · exact fa_X7_31_2
  · exact fa_X7_31_0
  · exact fa_X7_31_4
theorem set_same {vw : List (Nat × va_E)} {p : Nat} {q : Nat × va_E} (hp : vw[p]? = some q) : vw.set p q = vw := by
  apply List.ext_getElem?
  intro j
  by_cases hj : j = p
  · subst hj
    rw [List.getElem?_set_self (List.getElem?_eq_some_iff.mp hp).1, hp]
  · rw [List.getElem?_set_ne (Ne.symm hj)]
section
variable {E : vEnv} {l : Launch} {y : MethodName} {cc : ByteArray} {nL : Nat} {ret : Option FieldType} {R : Room} {Z : List Frame → Array Value → State → State → Prop} {L : List Nat} {h : Nat → va_E} {k n : Nat} {vw : List (Nat × va_E)} {pc : Nat} {lv : List (Nat × Value)} {st : List Value}
variable {index : Nat} {rest : List Value}
theorem V.tiring {q κ : Nat} {so sg pr tf ti : Int32} (hk : κ < 4) (p : Nat) (hp : vw[p]? = some (q, .inr (kci κ, [.int so, .int sg, .int pr]))) (hlink : Cond.methodLink y.cls index ⟨"RoseLane$Shop", "tiring", "(II)I"⟩ ∈ wsAll) (hst : st = .int ti :: .int tf :: .ref q :: rest) (hw : (rest.map fun v => v.category).sum ≤ 8) (hR : 2 ≤ R.frames ∧ 58 ≤ R.locals) (hf : k ≤ R.cells ∧ n ≤ R.slots) (hd : decode cc pc = .ok (.invokevirtual index, 3)) (kk : V E l y cc nL ret R Z L h k n vw (pc + 3) lv (.int (tiringI κ so tf ti) :: rest)) : V E l y cc nL ret R Z L h k n vw pc lv st := by
  rcases (show κ = 0 ∨ κ = 1 ∨ κ = 2 ∨ κ = 3 by omega) with rfl | rfl | rfl | rfl
  · refine V.callUp (x := ⟨"RoseLane$Shop", "tiring", "(II)I"⟩) (owner := "RoseLane$Shop") (As := [.int tf, .int ti]) (rest := rest) [p] (c_Plain_tiring E l L _ q so sg pr tf ti) (by rw [List.map_cons, List.map_nil, hp]; rfl) (by simp) (CUof.A (x := ⟨"RoseLane$Shop", "tiring", "(II)I"⟩) mi_X5_tiring hlink w_497 w_510 w_505 (by decide) ⟨by decide, by decide, by decide⟩ ⟨by omega, by omega⟩) p hp rfl rfl hst hw hf hd (vw2 := fun _ => vw) (st2 := fun _ => .int (tiringI 0 so tf ti) :: rest) (fun _ => by rw [List.map_cons, List.map_nil, hp]; rfl) (fun _ => set_same hp) (fun _ => rfl) (fun _ _ => kk)
  · refine V.callUp (x := ⟨"RoseLane$Shop", "tiring", "(II)I"⟩) (owner := "RoseLane$Shop") (As := [.int tf, .int ti]) (rest := rest) [p] (c_Musk_tiring E l L _ q so sg pr tf ti) (by rw [List.map_cons, List.map_nil, hp]; rfl) (by simp) (CUof.A (x := ⟨"RoseLane$Shop", "tiring", "(II)I"⟩) mi_X2_tiring hlink w_497 w_501 w_502 (by decide) ⟨by decide, by decide, by decide⟩ ⟨by omega, by omega⟩) p hp rfl rfl hst hw hf hd (vw2 := fun _ => vw) (st2 := fun _ => .int (tiringI 1 so tf ti) :: rest) (fun _ => by rw [List.map_cons, List.map_nil, hp]; rfl) (fun _ => set_same hp) (fun _ => rfl) (fun _ _ => kk)
  · refine V.callUp (x := ⟨"RoseLane$Shop", "tiring", "(II)I"⟩) (owner := "RoseLane$Shop") (As := [.int tf, .int ti]) (rest := rest) [p] (c_Coffee_tiring E l L _ q so sg pr tf ti) (by rw [List.map_cons, List.map_nil, hp]; rfl) (by simp) (CUof.A (x := ⟨"RoseLane$Shop", "tiring", "(II)I"⟩) mi_X0_tiring hlink w_497 w_498 w_499 (by decide) ⟨by decide, by decide, by decide⟩ ⟨by omega, by omega⟩) p hp rfl rfl hst hw hf hd (vw2 := fun _ => vw) (st2 := fun _ => .int (tiringI 2 so tf ti) :: rest) (fun _ => by rw [List.map_cons, List.map_nil, hp]; rfl) (fun _ => set_same hp) (fun _ => rfl) (fun _ _ => kk)
  · refine V.callUp (x := ⟨"RoseLane$Shop", "tiring", "(II)I"⟩) (owner := "RoseLane$Shop") (As := [.int tf, .int ti]) (rest := rest) [p] (c_Nothing_tiring E l L _ q so sg pr tf ti) (by rw [List.map_cons, List.map_nil, hp]; rfl) (by simp) (CUof.A (x := ⟨"RoseLane$Shop", "tiring", "(II)I"⟩) mi_X4_tiring hlink w_497 w_507 w_508 (by decide) ⟨by decide, by decide, by decide⟩ ⟨by omega, by omega⟩) p hp rfl rfl hst hw hf hd (vw2 := fun _ => vw) (st2 := fun _ => .int (tiringI 3 so tf ti) :: rest) (fun _ => by rw [List.map_cons, List.map_nil, hp]; rfl) (fun _ => set_same hp) (fun _ => rfl) (fun _ _ => kk)

theorem V.smeltBy {q κ : Nat} {so sg pr td cb : Int32} (hk : κ < 4) (p : Nat) (hp : vw[p]? = some (q, .inr (kci κ, [.int so, .int sg, .int pr]))) (hlink : Cond.methodLink y.cls index ⟨"RoseLane$Shop", "smeltBy", "(IZ)I"⟩ ∈ wsAll) (hst : st = .int cb :: .int td :: .ref q :: rest) (hw : (rest.map fun v => v.category).sum ≤ 8) (hR : 2 ≤ R.frames ∧ 59 ≤ R.locals) (hf : k ≤ R.cells ∧ n ≤ R.slots) (hd : decode cc pc = .ok (.invokevirtual index, 3)) (kk : V E l y cc nL ret R Z L h k n vw (pc + 3) lv (.int (smeltI κ sg td cb) :: rest)) : V E l y cc nL ret R Z L h k n vw pc lv st := by
  rcases (show κ = 0 ∨ κ = 1 ∨ κ = 2 ∨ κ = 3 by omega) with rfl | rfl | rfl | rfl
  · refine V.callUp (x := ⟨"RoseLane$Shop", "smeltBy", "(IZ)I"⟩) (owner := "RoseLane$Shop") (As := [.int td, .int cb]) (rest := rest) [p] (c_Shop_smeltBy_5 E l L _ q so sg pr td cb) (by rw [List.map_cons, List.map_nil, hp]; rfl) (by simp) (CUof.U (x := ⟨"RoseLane$Shop", "smeltBy", "(IZ)I"⟩) mi_X6_smeltBy hlink w_474 w_480 w_473 rfl ⟨by decide, by decide, by decide⟩ ⟨by omega, by omega⟩) p hp rfl rfl hst hw hf hd (vw2 := fun _ => vw) (st2 := fun _ => .int (smeltI 0 sg td cb) :: rest) (fun _ => by rw [List.map_cons, List.map_nil, hp]; rfl) (fun _ => set_same hp) (fun _ => rfl) (fun _ _ => kk)
  · refine V.callUp (x := ⟨"RoseLane$Shop", "smeltBy", "(IZ)I"⟩) (owner := "RoseLane$Shop") (As := [.int td, .int cb]) (rest := rest) [p] (c_Shop_smeltBy_2 E l L _ q so sg pr td cb) (by rw [List.map_cons, List.map_nil, hp]; rfl) (by simp) (CUof.U (x := ⟨"RoseLane$Shop", "smeltBy", "(IZ)I"⟩) mi_X6_smeltBy hlink w_474 w_476 w_473 rfl ⟨by decide, by decide, by decide⟩ ⟨by omega, by omega⟩) p hp rfl rfl hst hw hf hd (vw2 := fun _ => vw) (st2 := fun _ => .int (smeltI 1 sg td cb) :: rest) (fun _ => by rw [List.map_cons, List.map_nil, hp]; rfl) (fun _ => set_same hp) (fun _ => rfl) (fun _ _ => kk)
  · refine V.callUp (x := ⟨"RoseLane$Shop", "smeltBy", "(IZ)I"⟩) (owner := "RoseLane$Shop") (As := [.int td, .int cb]) (rest := rest) [p] (c_Shop_smeltBy_0 E l L _ q so sg pr td cb) (by rw [List.map_cons, List.map_nil, hp]; rfl) (by simp) (CUof.U (x := ⟨"RoseLane$Shop", "smeltBy", "(IZ)I"⟩) mi_X6_smeltBy hlink w_474 w_475 w_473 rfl ⟨by decide, by decide, by decide⟩ ⟨by omega, by omega⟩) p hp rfl rfl hst hw hf hd (vw2 := fun _ => vw) (st2 := fun _ => .int (smeltI 2 sg td cb) :: rest) (fun _ => by rw [List.map_cons, List.map_nil, hp]; rfl) (fun _ => set_same hp) (fun _ => rfl) (fun _ _ => kk)
  · refine V.callUp (x := ⟨"RoseLane$Shop", "smeltBy", "(IZ)I"⟩) (owner := "RoseLane$Shop") (As := [.int td, .int cb]) (rest := rest) [p] (c_Nothing_smeltBy E l L _ q so sg pr td cb) (by rw [List.map_cons, List.map_nil, hp]; rfl) (by simp) (CUof.O (x := ⟨"RoseLane$Shop", "smeltBy", "(IZ)I"⟩) mi_X4_smeltBy hlink w_474 w_477 w_478 w_473 w_481 ⟨by decide, by decide, by decide⟩ ⟨by omega, by omega⟩) p hp rfl rfl hst hw hf hd (vw2 := fun _ => vw) (st2 := fun _ => .int (smeltI 3 sg td cb) :: rest) (fun _ => by rw [List.map_cons, List.map_nil, hp]; rfl) (fun _ => set_same hp) (fun _ => rfl) (fun _ _ => kk)

theorem V.kind {q κ : Nat} {so sg pr : Int32} (hk : κ < 4) (p : Nat) (hp : vw[p]? = some (q, .inr (kci κ, [.int so, .int sg, .int pr]))) (hlink : Cond.methodLink y.cls index ⟨"RoseLane$Shop", "kind", "()I"⟩ ∈ wsAll) (hst : st = .ref q :: rest) (hw : (rest.map fun v => v.category).sum ≤ 8) (hR : 2 ≤ R.frames ∧ 59 ≤ R.locals) (hf : k ≤ R.cells ∧ n ≤ R.slots) (hd : decode cc pc = .ok (.invokevirtual index, 3)) (kk : V E l y cc nL ret R Z L h k n vw (pc + 3) lv (.int (kindI κ) :: rest)) : V E l y cc nL ret R Z L h k n vw pc lv st := by
  rcases (show κ = 0 ∨ κ = 1 ∨ κ = 2 ∨ κ = 3 by omega) with rfl | rfl | rfl | rfl
  · refine V.callUp (x := ⟨"RoseLane$Shop", "kind", "()I"⟩) (owner := "RoseLane$Shop") (As := []) (rest := rest) [p] (c_Plain_kind E l L _ q so sg pr) (by rw [List.map_cons, List.map_nil, hp]; rfl) (by simp) (CUof.A (x := ⟨"RoseLane$Shop", "kind", "()I"⟩) mi_X5_kind hlink w_455 w_465 w_466 (by decide) ⟨by decide, by decide, by decide⟩ ⟨by omega, by omega⟩) p hp rfl rfl hst hw hf hd (vw2 := fun _ => vw) (st2 := fun _ => .int (kindI 0) :: rest) (fun _ => by rw [List.map_cons, List.map_nil, hp]; rfl) (fun _ => set_same hp) (fun _ => rfl) (fun _ _ => kk)
  · refine V.callUp (x := ⟨"RoseLane$Shop", "kind", "()I"⟩) (owner := "RoseLane$Shop") (As := []) (rest := rest) [p] (c_Musk_kind E l L _ q so sg pr) (by rw [List.map_cons, List.map_nil, hp]; rfl) (by simp) (CUof.A (x := ⟨"RoseLane$Shop", "kind", "()I"⟩) mi_X2_kind hlink w_455 w_459 w_460 (by decide) ⟨by decide, by decide, by decide⟩ ⟨by omega, by omega⟩) p hp rfl rfl hst hw hf hd (vw2 := fun _ => vw) (st2 := fun _ => .int (kindI 1) :: rest) (fun _ => by rw [List.map_cons, List.map_nil, hp]; rfl) (fun _ => set_same hp) (fun _ => rfl) (fun _ _ => kk)
  · refine V.callUp (x := ⟨"RoseLane$Shop", "kind", "()I"⟩) (owner := "RoseLane$Shop") (As := []) (rest := rest) [p] (c_Coffee_kind E l L _ q so sg pr) (by rw [List.map_cons, List.map_nil, hp]; rfl) (by simp) (CUof.A (x := ⟨"RoseLane$Shop", "kind", "()I"⟩) mi_X0_kind hlink w_455 w_456 w_457 (by decide) ⟨by decide, by decide, by decide⟩ ⟨by omega, by omega⟩) p hp rfl rfl hst hw hf hd (vw2 := fun _ => vw) (st2 := fun _ => .int (kindI 2) :: rest) (fun _ => by rw [List.map_cons, List.map_nil, hp]; rfl) (fun _ => set_same hp) (fun _ => rfl) (fun _ _ => kk)
  · refine V.callUp (x := ⟨"RoseLane$Shop", "kind", "()I"⟩) (owner := "RoseLane$Shop") (As := []) (rest := rest) [p] (c_Nothing_kind E l L _ q so sg pr) (by rw [List.map_cons, List.map_nil, hp]; rfl) (by simp) (CUof.A (x := ⟨"RoseLane$Shop", "kind", "()I"⟩) mi_X4_kind hlink w_455 w_462 w_463 (by decide) ⟨by decide, by decide, by decide⟩ ⟨by omega, by omega⟩) p hp rfl rfl hst hw hf hd (vw2 := fun _ => vw) (st2 := fun _ => .int (kindI 3) :: rest) (fun _ => by rw [List.map_cons, List.map_nil, hp]; rfl) (fun _ => set_same hp) (fun _ => rfl) (fun _ _ => kk)

end
