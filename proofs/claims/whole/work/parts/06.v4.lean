
/-! cells that are objects, arrays of ints, booleans, chars, Shops, Noses -/
abbrev ob (ci : Nat) (fs : List Value) : va_E := .inr (ci, fs)
abbrev aI (E : vEnv) (N : Nat) (f : Nat → Int32) : va_E := .inl (eA E 0, N, .inl f)
abbrev aZ (E : vEnv) (N : Nat) (f : Nat → Int32) : va_E := .inl (eA E 1, N, .inl f)
abbrev aC (E : vEnv) (N : Nat) (f : Nat → Int32) : va_E := .inl (eA E 2, N, .inl f)
abbrev aS (E : vEnv) (N : Nat) (f : Nat → Option Nat) : va_E := .inl (eA E 3, N, .inr (.inr (.inr (.inr f))))
abbrev aN (E : vEnv) (N : Nat) (f : Nat → Option Nat) : va_E := .inl (eA E 4, N, .inr (.inr (.inr (.inr f))))
/-- a field that a class may read by its pool's place: class number ci, slot k -/
def FA (own : String) (index ci k : Nat) : Prop := ∃ (C : String) (T : u_T) (N : Nat) (rf : String), vwCl[ci]? = some (C, T, N) ∧ k < N ∧ (∀ w ∈ u_ws C T N, w ∈ wsAll) ∧ Cond.fieldLink own index rf (T k).2.1 (T k).2.2.1 ∈ wsAll ∧ (rf = (T k).1 ∨ Cond.sameField rf (T k).1 (T k).2.1 (T k).2.2.1 ∈ wsAll)
/-- .. and write -/
def FP (own : String) (index ci k : Nat) (ty : FieldType) (fin : Bool) : Prop := ∃ (C : String) (T : u_T) (N : Nat) (tf : Nat → FieldType), vwCl[ci]? = some (C, T, N) ∧ k < N ∧ (∀ w ∈ u_ws C T N, w ∈ wsAll) ∧ Cond.fieldLink own index (T k).1 (T k).2.1 (T k).2.2.1 ∈ wsAll ∧ (∀ k, k < N → parseFieldDescriptor (T k).2.2.1 = some (tf k)) ∧ (∀ a, a < N → ∀ b, b < N → a ≠ b → (T a).2.1 ≠ (T b).2.1) ∧ (T k).2.2.2 = fin ∧ parseFieldDescriptor (T k).2.2.1 = some ty ∧ (fin = true → (T k).1 = own)
section
variable {E : vEnv} {l : Launch} {y : MethodName} {cc : ByteArray} {nL : Nat} {ret : Option FieldType} {R : Room} {Z : List Frame → Array Value → State → State → Prop} {L : List Nat} {h : Nat → va_E} {k n : Nat} {vw : List (Nat × va_E)} {pc : Nat} {lv : List (Nat × Value)} {st : List Value}
theorem V.getf {a ci index : Nat} {fs : List Value} {v : Value} (p k1 : Nat) (hp : vw[p]? = some (a, .inr (ci, fs))) (hf : FA y.cls index ci k1) (hv1 : fs[k1]? = some v) (hd : decode cc pc = .ok (.getfield index, 3)) (kk : V E l y cc nL ret R Z L h k n vw (pc + 3) lv (v :: st)) : V E l y cc nL ret R Z L h k n vw pc lv (.ref a :: st) := by
  intro hv p1 e s m args below meth c H locs ls hX hW hS hl
  obtain ⟨i, hi⟩ := hW.get hv hp
  obtain ⟨C, T, N, rf, h1, h2, h3, h4, h5⟩ := hf
  refine va_get hX.1 hX.2.1 hX.2.2.2.2.2.1 h3 hX.2.2.2.2.1 hX.2.2.2.2.2.2.2.2.2.1 hW.1 i hi h1 k1 h2 (hX.2.2.2.2.2.1 _ h4) (fun x hx => ?_) hv1 hd (kk hv p1 e s m args below meth c H locs ls hX hW hS hl)
  rcases h5 with rfl | h5
  · exact hx
  · exact u_same (hX.2.2.2.2.2.1 _ h5) x hx
theorem V.putf {a ci index : Nat} {fs : List Value} {v : Value} {ty : FieldType} {vw2 : List (Nat × va_E)} (p k1 : Nat) (hp : vw[p]? = some (a, .inr (ci, fs))) (hf : FP y.cls index ci k1 ty false) (hn : narrow ty v = v) (hfit : fits ty v = true) (hl1 : k1 < fs.length) (h2 : vw.set p (a, .inr (ci, fs.set k1 v)) = vw2) (hd : decode cc pc = .ok (.putfield index, 3)) (kk : V E l y cc nL ret R Z L h k n vw2 (pc + 3) lv st) : V E l y cc nL ret R Z L h k n vw pc lv (v :: .ref a :: st) := by
  intro hv p1 e s m args below meth c H locs ls hX hW hS hl
  obtain ⟨i, hi⟩ := hW.get hv hp
  obtain ⟨C, T, N, tf, g1, g2, g3, g4, g5, g6, g7, g8, -⟩ := hf
  subst h2
  exact va_put hX.1 hX.2.1 hX.2.2.2.2.2.1 g3 tf g5 g6 hX.2.2.2.2.1 hX.2.2.2.2.2.2.2.2.2.1 hW.1 hW.2 hS i hi g1 k1 g2 (hX.2.2.2.2.2.1 _ g4) (fun _ h9 => h9) g7 g8 hn hfit hl1 hd (fun H1 locs1 q1 q2 q3 => kk (hv.set hp) p1 e s m args below meth c H1 locs1 ls hX (hW.put hv hp hi q1 q2) q3 hl)
theorem V.putF {a ci index : Nat} {fs : List Value} {v : Value} {ty : FieldType} {vw2 : List (Nat × va_E)} (p k1 : Nat) (hp : vw[p]? = some (a, .inr (ci, fs))) (hf : FP y.cls index ci k1 ty true) (hy : y.name = "<init>") (hn : narrow ty v = v) (hfit : fits ty v = true) (hl1 : k1 < fs.length) (h2 : vw.set p (a, .inr (ci, fs.set k1 v)) = vw2) (hd : decode cc pc = .ok (.putfield index, 3)) (kk : V E l y cc nL ret R Z L h k n vw2 (pc + 3) lv st) : V E l y cc nL ret R Z L h k n vw pc lv (v :: .ref a :: st) := by
  intro hv p1 e s m args below meth c H locs ls hX hW hS hl
  obtain ⟨i, hi⟩ := hW.get hv hp
  obtain ⟨C, T, N, tf, g1, g2, g3, g4, g5, g6, g7, g8, g9⟩ := hf
  subst h2
  exact va_putF hX.1 hX.2.1 hX.2.2.2.2.2.1 g3 tf g5 g6 hX.2.2.2.2.1 hX.2.2.2.2.2.2.2.2.2.1 hW.1 hW.2 hS i hi g1 k1 g2 (hX.2.2.2.2.2.1 _ g4) (fun _ h9 => h9) g7 (hX.2.2.2.2.2.2.2.2.1.trans hy) (g9 rfl) g8 hn hfit hl1 hd (fun H1 locs1 q1 q2 q3 => kk (hv.set hp) p1 e s m args below meth c H1 locs1 ls hX (hW.put hv hp hi q1 q2) q3 hl)
theorem V.iald {a N : Nat} {f : Nat → Int32} {i : Int32} (p : Nat) (hp : vw[p]? = some (a, aI E N f)) (hin : vp_in i N) (hd : decode cc pc = .ok (.iaload, 1)) (kk : V E l y cc nL ret R Z L h k n vw (pc + 1) lv (.int (f i.toNatClampNeg) :: st)) : V E l y cc nL ret R Z L h k n vw pc lv (.int i :: .ref a :: st) := by
  intro hv p1 e s m args below meth c H locs ls hX hW hS hl
  obtain ⟨j, hj⟩ := hW.get hv hp
  exact va_iald hX.1 hX.2.1 hX.2.2.2.2.2.2.2.2.2.1 hW.1 j 0 hj rfl hin hd (kk hv p1 e s m args below meth c H locs ls hX hW hS hl)
theorem V.zald {a N : Nat} {f : Nat → Int32} {i : Int32} (p : Nat) (hp : vw[p]? = some (a, aZ E N f)) (hin : vp_in i N) (hd : decode cc pc = .ok (.baload, 1)) (kk : V E l y cc nL ret R Z L h k n vw (pc + 1) lv (.int (f i.toNatClampNeg) :: st)) : V E l y cc nL ret R Z L h k n vw pc lv (.int i :: .ref a :: st) := by
  intro hv p1 e s m args below meth c H locs ls hX hW hS hl
  obtain ⟨j, hj⟩ := hW.get hv hp
  exact va_zald hX.1 hX.2.1 hX.2.2.2.2.2.2.2.2.2.1 hW.1 j 1 hj rfl hin hd (kk hv p1 e s m args below meth c H locs ls hX hW hS hl)
theorem V.cald {a N : Nat} {f : Nat → Int32} {i : Int32} (p : Nat) (hp : vw[p]? = some (a, aC E N f)) (hin : vp_in i N) (hd : decode cc pc = .ok (.caload, 1)) (kk : V E l y cc nL ret R Z L h k n vw (pc + 1) lv (.int (f i.toNatClampNeg) :: st)) : V E l y cc nL ret R Z L h k n vw pc lv (.int i :: .ref a :: st) := by
  intro hv p1 e s m args below meth c H locs ls hX hW hS hl
  obtain ⟨j, hj⟩ := hW.get hv hp
  exact va_cald hX.1 hX.2.1 hX.2.2.2.2.2.2.2.2.2.1 hW.1 j 2 hj rfl hin hd (kk hv p1 e s m args below meth c H locs ls hX hW hS hl)
theorem V.aldS {a N : Nat} {f : Nat → Option Nat} {i : Int32} (p : Nat) (hp : vw[p]? = some (a, aS E N f)) (hin : vp_in i N) (hd : decode cc pc = .ok (.aaload, 1)) (kk : V E l y cc nL ret R Z L h k n vw (pc + 1) lv (va_rf (f i.toNatClampNeg) :: st)) : V E l y cc nL ret R Z L h k n vw pc lv (.int i :: .ref a :: st) := by
  intro hv p1 e s m args below meth c H locs ls hX hW hS hl
  obtain ⟨j, hj⟩ := hW.get hv hp
  exact va_aldq hX.1 hX.2.1 hX.2.2.2.2.2.2.2.2.2.1 hW.1 j 3 hj rfl hin hd (kk hv p1 e s m args below meth c H locs ls hX hW hS hl)
theorem V.aldN {a N : Nat} {f : Nat → Option Nat} {i : Int32} (p : Nat) (hp : vw[p]? = some (a, aN E N f)) (hin : vp_in i N) (hd : decode cc pc = .ok (.aaload, 1)) (kk : V E l y cc nL ret R Z L h k n vw (pc + 1) lv (va_rf (f i.toNatClampNeg) :: st)) : V E l y cc nL ret R Z L h k n vw pc lv (.int i :: .ref a :: st) := by
  intro hv p1 e s m args below meth c H locs ls hX hW hS hl
  obtain ⟨j, hj⟩ := hW.get hv hp
  exact va_aldq hX.1 hX.2.1 hX.2.2.2.2.2.2.2.2.2.1 hW.1 j 4 hj rfl hin hd (kk hv p1 e s m args below meth c H locs ls hX hW hS hl)
theorem V.iast {a N : Nat} {f : Nat → Int32} {i x : Int32} {vw2 : List (Nat × va_E)} (p : Nat) (hp : vw[p]? = some (a, aI E N f)) (hin : vp_in i N) (h2 : vw.set p (a, aI E N (upd f i.toNatClampNeg x)) = vw2) (hd : decode cc pc = .ok (.iastore, 1)) (kk : V E l y cc nL ret R Z L h k n vw2 (pc + 1) lv st) : V E l y cc nL ret R Z L h k n vw pc lv (.int x :: .int i :: .ref a :: st) := by
  intro hv p1 e s m args below meth c H locs ls hX hW hS hl
  obtain ⟨j, hj⟩ := hW.get hv hp
  subst h2
  exact va_iast hX.1 hX.2.1 hX.2.2.2.2.2.2.2.2.2.1 hW.1 hW.2 hS j 0 hj rfl hin hd (fun H1 locs1 q1 q2 q3 => kk (hv.set hp) p1 e s m args below meth c H1 locs1 ls hX (hW.put hv hp hj q1 q2) q3 hl)
theorem V.zast {a N : Nat} {f : Nat → Int32} {i x : Int32} {vw2 : List (Nat × va_E)} (p : Nat) (hp : vw[p]? = some (a, aZ E N f)) (hin : vp_in i N) (h2 : vw.set p (a, aZ E N (upd f i.toNatClampNeg (vp_nar .boolean x))) = vw2) (hd : decode cc pc = .ok (.bastore, 1)) (kk : V E l y cc nL ret R Z L h k n vw2 (pc + 1) lv st) : V E l y cc nL ret R Z L h k n vw pc lv (.int x :: .int i :: .ref a :: st) := by
  intro hv p1 e s m args below meth c H locs ls hX hW hS hl
  obtain ⟨j, hj⟩ := hW.get hv hp
  subst h2
  exact va_zast hX.1 hX.2.1 hX.2.2.2.2.2.2.2.2.2.1 hW.1 hW.2 hS j 1 hj rfl hin hd (fun H1 locs1 q1 q2 q3 => kk (hv.set hp) p1 e s m args below meth c H1 locs1 ls hX (hW.put hv hp hj q1 q2) q3 hl)
theorem V.cast {a N : Nat} {f : Nat → Int32} {i x : Int32} {vw2 : List (Nat × va_E)} (p : Nat) (hp : vw[p]? = some (a, aC E N f)) (hin : vp_in i N) (h2 : vw.set p (a, aC E N (upd f i.toNatClampNeg (vp_nar .char x))) = vw2) (hd : decode cc pc = .ok (.castore, 1)) (kk : V E l y cc nL ret R Z L h k n vw2 (pc + 1) lv st) : V E l y cc nL ret R Z L h k n vw pc lv (.int x :: .int i :: .ref a :: st) := by
  intro hv p1 e s m args below meth c H locs ls hX hW hS hl
  obtain ⟨j, hj⟩ := hW.get hv hp
  subst h2
  exact va_cast hX.1 hX.2.1 hX.2.2.2.2.2.2.2.2.2.1 hW.1 hW.2 hS j 2 hj rfl hin hd (fun H1 locs1 q1 q2 q3 => kk (hv.set hp) p1 e s m args below meth c H1 locs1 ls hX (hW.put hv hp hj q1 q2) q3 hl)
theorem V.astN {a N b ci : Nat} {vs : List Value} {f : Nat → Option Nat} {i : Int32} {vw2 : List (Nat × va_E)} (p pk : Nat) (hp : vw[p]? = some (a, aN E N f)) (hk : vw[pk]? = some (b, .inr (3, vs))) (hin : vp_in i N) (h2 : vw.set p (a, aN E N (va_up f i.toNatClampNeg (some b))) = vw2) (hd : decode cc pc = .ok (.aastore, 1)) (kk : V E l y cc nL ret R Z L h k n vw2 (pc + 1) lv st) : V E l y cc nL ret R Z L h k n vw pc lv (.ref b :: .int i :: .ref a :: st) := by
  intro hv p1 e s m args below meth c H locs ls hX hW hS hl
  obtain ⟨j, hj⟩ := hW.get hv hp
  obtain ⟨j2, hj2⟩ := hW.get hv hk
  subst h2
  exact va_astq hX.1 hX.2.1 hX.2.2.2.2.2.2.2.2.2.1 hW.1 hW.2 hS j 4 j2 3 hj rfl hj2 rfl hin hd (fun H1 locs1 q1 q2 q3 => kk (hv.set hp) p1 e s m args below meth c H1 locs1 ls hX (hW.put hv hp hj q1 q2) q3 hl)
theorem V.astS {a N b ci : Nat} {C : String} {T : u_T} {M : Nat} {vs : List Value} {f : Nat → Option Nat} {i : Int32} {vw2 : List (Nat × va_E)} (p pk : Nat) (hp : vw[p]? = some (a, aS E N f)) (hk : vw[pk]? = some (b, .inr (ci, vs))) (hc : vwCl[ci]? = some (C, T, M)) (hca : (C, "RoseLane$Shop") ∈ nwC) (hin : vp_in i N) (h2 : vw.set p (a, aS E N (va_up f i.toNatClampNeg (some b))) = vw2) (hd : decode cc pc = .ok (.aastore, 1)) (kk : V E l y cc nL ret R Z L h k n vw2 (pc + 1) lv st) : V E l y cc nL ret R Z L h k n vw pc lv (.ref b :: .int i :: .ref a :: st) := by
  intro hv p1 e s m args below meth c H locs ls hX hW hS hl
  obtain ⟨j, hj⟩ := hW.get hv hp
  obtain ⟨j2, hj2⟩ := hW.get hv hk
  subst h2
  have hSF := hX.2.2.2.2.2.2.2.2.2.2
  exact va_astqO hX.1 hX.2.1 hX.2.2.2.2.2.2.2.2.2.1 hW.1 hW.2 hS j 3 j2 ci hj rfl (hSF.2.2.2.2.2.2.1 _ hca) hj2 hc hin hd (fun H1 locs1 q1 q2 q3 => kk (hv.set hp) p1 e s m args below meth c H1 locs1 ls hX (hW.put hv hp hj q1 q2) q3 hl)
theorem V.new {index ci N : Nat} {C : String} {T : u_T} {fs : List Value} (tf : Nat → FieldType) (hc : vwCl[ci]? = some (C, T, N)) (hin : ∀ w ∈ u_ws C T N, w ∈ wsAll) (hty : ∀ k, k < N → parseFieldDescriptor (T k).2.2.1 = some (tf k)) (hcl : Cond.classLink y.cls index C ∈ wsAll) (hinst : Cond.instantiable C N ∈ wsAll) (hini : Cond.initialized C ∈ wsAll) (hfs : ∀ j, j < N → defaultValue (tf j) = vp_V fs j) (hk : k + 1 ≤ R.cells) (hn : n + N ≤ R.slots) (hd : decode cc pc = .ok (.new index, 3)) (kk : ∀ q : Nat, q ∉ L → V E l y cc nL ret R Z (L ++ [q]) h (k + 1) (n + N) (vw ++ [(q, .inr (ci, fs))]) (pc + 3) lv (.ref q :: st)) : V E l y cc nL ret R Z L h k n vw pc lv st := by
  intro hv p1 e s m args below meth c H locs ls hX hW hS hl
  refine va_new hX.1 hX.2.1 hX.2.2.2.2.2.1 hin tf hty hX.2.2.2.2.1 (hX.2.2.2.2.2.1 _ hcl) (hX.2.2.2.2.2.1 _ hinst) (hX.2.2.2.2.2.1 _ hini) hX.2.2.2.2.2.2.2.2.2.1 hW.1 hW.2 hS (fun q hq => Nat.le_trans hX.2.2.2.2.2.2.1 hq) hc hfs hk hn hd (fun q H1 q1 q2 q3 => ?_)
  obtain ⟨hq, hW2⟩ := WH.new hv q1 q2
  exact kk q hq ((hv.more (fun a ha => List.mem_append_left _ ha)).app (List.mem_append_right _ (List.mem_singleton.mpr rfl)) (fun hm => by obtain ⟨x, hx, hxe⟩ := List.mem_map.mp hm; exact hq (hxe ▸ hv.1 x hx))) p1 e s m args below meth c H1 locs ls hX hW2 q3 hl
theorem V.newa {atype : ArrayType} {x : Int32} {N : Nat} (t : Nat) (hw : Cond.arrayClass (newarray.typeOf atype) ∈ wsAll) (ht : (tysE E)[t]? = some (eA E t, newarray.typeOf atype)) (ha : ∀ cA : ClassId, vp_cell cA (N, .inl (fun _ => 0)) = arrV cA N (fun _ => defaultValue (newarray.typeOf atype))) (hx : ¬ x < 0) (hN : x.toNatClampNeg = N) (hby : N * componentBytes (newarray.typeOf atype) ≤ 536870912) (hk : k + 1 ≤ R.cells) (hn : n + N ≤ R.slots) (hd : decode cc pc = .ok (.newarray atype, 2)) (kk : ∀ q : Nat, q ∉ L → V E l y cc nL ret R Z (L ++ [q]) h (k + 1) (n + N) (vw ++ [(q, .inl (eA E t, N, .inl (fun _ => 0)))]) (pc + 2) lv (.ref q :: st)) : V E l y cc nL ret R Z L h k n vw pc lv (.int x :: st) := by
  intro hv p1 e s m args below meth c H locs ls hX hW hS hl
  refine va_newa (a0 := (N, .inl (fun _ => 0))) hX.1 hX.2.1 (hX.2.2.2.2.2.1 _ hw) rfl hX.2.2.2.2.2.2.2.2.2.1 hW.1 hW.2 hS (fun q hq => Nat.le_trans hX.2.2.2.2.2.2.1 hq) ha hx hN hby hk hn hd (fun q cA H1 q0 q1 q2 q3 => ?_)
  have hcA : cA = eA E t := by
    have h1 := (q0.2 5 (cA, newarray.typeOf atype) rfl).2
    have h2 := ((hX.2.2.2.2.2.2.2.2.2.1).2 t _ ht).2
    cases atype <;> exact Option.some.inj (h1.symm.trans h2)
  subst hcA
  obtain ⟨hq, hW2⟩ := WH.new hv q1 q2
  exact kk q hq ((hv.more (fun a ha => List.mem_append_left _ ha)).app (List.mem_append_right _ (List.mem_singleton.mpr rfl)) (fun hm => by obtain ⟨x, hx, hxe⟩ := List.mem_map.mp hm; exact hq (hxe ▸ hv.1 x hx))) p1 e s m args below meth c H1 locs ls hX hW2 q3 hl
theorem V.newqS {index : Nat} {x : Int32} {N : Nat} (hw : Cond.classLink y.cls index "RoseLane$Shop" ∈ wsAll) (hx : ¬ x < 0) (hN : x.toNatClampNeg = N) (hby : N * 4 ≤ 536870912) (hk : k + 1 ≤ R.cells) (hn : n + N ≤ R.slots) (hd : decode cc pc = .ok (.anewarray index, 3)) (kk : ∀ q : Nat, q ∉ L → V E l y cc nL ret R Z (L ++ [q]) h (k + 1) (n + N) (vw ++ [(q, aS E N (fun _ => none))]) (pc + 3) lv (.ref q :: st)) : V E l y cc nL ret R Z L h k n vw pc lv (.int x :: st) := by
  intro hv p1 e s m args below meth c H locs ls hX hW hS hl
  have hSF := hX.2.2.2.2.2.2.2.2.2.2
  refine va_newq hX.1 hX.2.1 hX.2.2.2.2.1 (hX.2.2.2.2.2.1 _ hw) (hSF.2.2.2.2.2.2.2.2.1) hX.2.2.2.2.2.2.2.2.2.1 hW.1 hW.2 hS (fun q hq => Nat.le_trans hX.2.2.2.2.2.2.1 hq) hx hN hby hk hn hd (fun q cA H1 q0 q1 q2 q3 => ?_)
  have hcA : cA = eA E 3 := by
    obtain ⟨-, -, -, -, -, h1⟩ := (q0.2 5 (cA, .object "RoseLane$Shop") rfl).2
    obtain ⟨-, -, -, -, -, h2⟩ := ((hX.2.2.2.2.2.2.2.2.2.1).2 3 _ rfl).2
    exact Option.some.inj (h1.symm.trans h2)
  subst hcA
  obtain ⟨hq, hW2⟩ := WH.new hv q1 q2
  exact kk q hq ((hv.more (fun a ha => List.mem_append_left _ ha)).app (List.mem_append_right _ (List.mem_singleton.mpr rfl)) (fun hm => by obtain ⟨x, hx, hxe⟩ := List.mem_map.mp hm; exact hq (hxe ▸ hv.1 x hx))) p1 e s m args below meth c H1 locs ls hX hW2 q3 hl
theorem V.newqN {index : Nat} {x : Int32} {N : Nat} (hw : Cond.classLink y.cls index "RoseLane$Nose" ∈ wsAll) (hx : ¬ x < 0) (hN : x.toNatClampNeg = N) (hby : N * 4 ≤ 536870912) (hk : k + 1 ≤ R.cells) (hn : n + N ≤ R.slots) (hd : decode cc pc = .ok (.anewarray index, 3)) (kk : ∀ q : Nat, q ∉ L → V E l y cc nL ret R Z (L ++ [q]) h (k + 1) (n + N) (vw ++ [(q, aN E N (fun _ => none))]) (pc + 3) lv (.ref q :: st)) : V E l y cc nL ret R Z L h k n vw pc lv (.int x :: st) := by
  intro hv p1 e s m args below meth c H locs ls hX hW hS hl
  have hSF := hX.2.2.2.2.2.2.2.2.2.2
  refine va_newq hX.1 hX.2.1 hX.2.2.2.2.1 (hX.2.2.2.2.2.1 _ hw) (hSF.2.2.2.2.2.2.2.2.2) hX.2.2.2.2.2.2.2.2.2.1 hW.1 hW.2 hS (fun q hq => Nat.le_trans hX.2.2.2.2.2.2.1 hq) hx hN hby hk hn hd (fun q cA H1 q0 q1 q2 q3 => ?_)
  have hcA : cA = eA E 4 := by
    obtain ⟨-, -, -, -, -, h1⟩ := (q0.2 5 (cA, .object "RoseLane$Nose") rfl).2
    obtain ⟨-, -, -, -, -, h2⟩ := ((hX.2.2.2.2.2.2.2.2.2.1).2 4 _ rfl).2
    exact Option.some.inj (h1.symm.trans h2)
  subst hcA
  obtain ⟨hq, hW2⟩ := WH.new hv q1 q2
  exact kk q hq ((hv.more (fun a ha => List.mem_append_left _ ha)).app (List.mem_append_right _ (List.mem_singleton.mpr rfl)) (fun hm => by obtain ⟨x, hx, hxe⟩ := List.mem_map.mp hm; exact hq (hxe ▸ hv.1 x hx))) p1 e s m args below meth c H1 locs ls hX hW2 q3 hl
end
