/-! rows of the skeleton, ahead of the walk (its lw_At has one more conjunct: the name) -/
def R_law : String := "RoseLaneLaw"
def lw_P (b : Addr) (xs : List Int32) (args : Array Value) (s : State) : Prop := args = #[.ref b] ∧ s.IntsAt b xs ∧ xs.length ≤ 2048 ∧ (Jvm.Cond.and given_1 narrow_1).before args s = true
def lw_Q (_ : Array Value) (s : State) (o : Outcome) (t : State) : Prop := o = .returned (some (.int 1)) ∧ Framed s o t [] 600000 7302250
def lw_Z (below : List Frame) (a : Array Value) (s : State) : State → Prop := fun t => ∃ o, t.status = .running ∧ Ended t below o ∧ lw_Q a s o t
/-- the law's own end, with 1 on the stack, nothing written that was there before, its room as the claim has it -/
theorem lw_ret {p : Program} {l : Launch} {e : Env} {s : State} {m : MethodId} {below : List Frame} {meth : Method} {c : Code} {b : Nat} (hx : p.tables.exec = Jvm.exec) (hb : c.code = code) (hr : meth.sig.returnType = ret) (hlocks : meth.locks = false) {pc : Nat} {H : Heap} {ls : Array Slot} (hdg : decode code pc = .ok (.ireturn, 1)) : W p l e room_1 s m #[Value.ref b] below meth c H [] 600000 7302250 (lw_Z below #[Value.ref b] s) (F0 m pc ls [.int 1]) := by
  intro T hT X
  obtain ⟨fs, hret, hrun, hended, hW, hframe⟩ := X.leave (v := some (.int 1)) (hlocks := hlocks) (fun h => by rw [hr] at h; cases h)
  have hmeth' : T.vm.method? m = some meth := X.method'
  refine ⟨T.setFrames fs, ?_, .returned (some (.int 1)), hrun, hended, rfl, ⟨_, rfl⟩, hW, hframe⟩
  jvm_step X.here [X.here.top, hx, hb, hdg, hmeth', hr, ret, narrow_b1]
  (try refine ⟨rfl, ?_⟩); (try refine ⟨rfl, ?_⟩)
  first | (intro acts; rw [hret _ acts rfl rfl rfl]) | rw [hret _ _ rfl rfl rfl]
  exact Steps.refl _
/-- what holds at the law's entry: the machine, the code, the tables' words (any of lw_tbl by 'hts w (by decide +kernel)'), the script of L ints xs at the cell b, what the Statement gives of the start (any of its parts by flat_of_before) -/
def lw_At (p : Program) (s : State) (m : MethodId) (meth : Method) (c : Code) (b L : Nat) (xs : Nat → Int32) : Prop :=
  p.tables.exec = Jvm.exec ∧ c.code = code ∧ meth.sig.returnType = ret ∧ c.maxLocals = 4 ∧ s.vm.findClass R_law = some m.cls ∧ (∀ w ∈ lw_tbl, w.before #[Value.ref b] s = true) ∧ va_X b L xs s s.heap ∧ b < s.heap.size ∧ meth.locks = false ∧ (Jvm.Cond.and given_1 narrow_1).before #[Value.ref b] s = true ∧ meth.name = "law"

/-! what holds at the start -/
def nar : List Cond := flatC (Jvm.Cond.and given_1 narrow_1)
theorem kn_all {args : Array Value} {s : State} (hts : ∀ w ∈ wsAll, w.before args s = true) : ∃ D : va_G, ∀ (k : Nat) (q : vw_C), vwCl[k]? = some q → u_Kn s q.1 q.2.1 q.2.2 (D.1 k) (D.2 k) := by
  have h : ∀ k : Nat, ∃ d : ClassId × (Nat → Nat), ∀ q : vw_C, vwCl[k]? = some q → u_Kn s q.1 q.2.1 q.2.2 d.1 d.2 := by
    intro k
    match k with
    | 0 => obtain ⟨c, i, h⟩ := u_known (C := RX0) (T := TX0) (N := 3) (n := 3) hts in_X0 (hts _ w_188); exact ⟨(c, i), fun q hq => by cases hq; exact h⟩
    | 1 => obtain ⟨c, i, h⟩ := u_known (C := RX1) (T := TX1) (N := 6) (n := 6) hts in_X1 (hts _ w_64); exact ⟨(c, i), fun q hq => by cases hq; exact h⟩
    | 2 => obtain ⟨c, i, h⟩ := u_known (C := RX2) (T := TX2) (N := 3) (n := 3) hts in_X2 (hts _ w_416); exact ⟨(c, i), fun q hq => by cases hq; exact h⟩
    | 3 => obtain ⟨c, i, h⟩ := u_known (C := RX3) (T := TX3) (N := 8) (n := 8) hts in_X3 (hts _ w_104); exact ⟨(c, i), fun q hq => by cases hq; exact h⟩
    | 4 => obtain ⟨c, i, h⟩ := u_known (C := RX4) (T := TX4) (N := 3) (n := 3) hts in_X4 (hts _ w_428); exact ⟨(c, i), fun q hq => by cases hq; exact h⟩
    | 5 => obtain ⟨c, i, h⟩ := u_known (C := RX5) (T := TX5) (N := 3) (n := 3) hts in_X5 (hts _ w_402); exact ⟨(c, i), fun q hq => by cases hq; exact h⟩
    | 6 => obtain ⟨c, i, h⟩ := u_known (C := RX7) (T := TX7) (N := 4) (n := 4) hts in_X7 (hts _ w_143); exact ⟨(c, i), fun q hq => by cases hq; exact h⟩
    | 7 => obtain ⟨c, i, h⟩ := u_known (C := RX8) (T := TX8) (N := 8) (n := 8) hts in_X8 (hts _ w_28); exact ⟨(c, i), fun q hq => by cases hq; exact h⟩
    | 8 => obtain ⟨c, i, h⟩ := u_known (C := RX9) (T := TX9) (N := 4) (n := 4) hts in_X9 (hts _ w_164); exact ⟨(c, i), fun q hq => by cases hq; exact h⟩
    | 9 => obtain ⟨c, i, h⟩ := u_known (C := RX10) (T := TX10) (N := 16) (n := 16) hts in_X10 (hts _ w_20); exact ⟨(c, i), fun q hq => by cases hq; exact h⟩
    | 10 => obtain ⟨c, i, h⟩ := u_known (C := RX11) (T := TX11) (N := 25) (n := 25) hts in_X11 (hts _ w_699); exact ⟨(c, i), fun q hq => by cases hq; exact h⟩
    | k + 11 => exact ⟨(0, fun _ => 0), fun q hq => by simp [vwCl] at hq⟩
  obtain ⟨f, hf⟩ := Classical.axiomOfChoice h
  exact ⟨(fun k => (f k).1, fun k => (f k).2), hf⟩
theorem arr_p {args : Array Value} {s : State} {ty : FieldType} (h : (Cond.arrayClass ty).before args s = true) : ∃ cA : ClassId, ArrOfT s cA ty ∧ s.vm.findClass ("[" ++ ty.toString) = some cA := by
  obtain ⟨c, k, comp, h1, h2, h3⟩ := Cond.arrayClass_spec h
  exact ⟨c, fun n z => ⟨fun k h => (by cases h), k, h2, comp, h3⟩, h1⟩
theorem arr_o {args : Array Value} {s : State} {C : String} (h : (Cond.arrayOver (.object C)).before args s = true) : ∃ cA : ClassId, ArrOfT s cA (.object C) ∧ va_RA s cA (.object C) := by
  obtain ⟨comp, c, k, h1, h2, h3, h4, h5⟩ := Cond.arrayOver_spec h
  exact ⟨c, fun n z => ⟨fun k h => (by cases h), k, h3, comp, h4⟩, k, comp, h3, h4, h1, h5⟩
theorem tb {w : Cond} (i : Nat) (h : tables_1[i]? = some w) : w ∈ lw_tbl := List.mem_append_right _ (List.mem_of_getElem? h)
def tmS (i : Nat) : Term := .string "RoseLane$Text" ((strs.getD i (0, "", [])).1)
def lenS : List Nat := strs.map (fun q => q.2.2.length)
def bytS : List (List Int32) := strs.map (fun q => q.2.2)
theorem nr_nM : ∀ q ∈ nwM, Cond.methodLinkNest q.1 q.2.1 q.2.2.1 q.2.2.2 ∈ tables_1 := by decide +kernel
theorem nr_nF : ∀ q ∈ nwF, Cond.fieldLinkNest q.1 q.2.1 q.2.2.1 q.2.2.2.1 q.2.2.2.2.1 q.2.2.2.2.2 ∈ tables_1 := by decide +kernel
theorem nr_nD : ∀ q ∈ nwD, Cond.declares q ∈ tables_1 := by decide +kernel
theorem nr_nC : ∀ q ∈ nwC, Cond.castable q.1 q.2 ∈ tables_1 := by decide +kernel
theorem nr_nN : ∀ q ∈ nwN, Cond.not (.castable q.1 q.2) ∈ nar := by decide +kernel
theorem nr_sR : ∀ i, i < 9 → Cond.stringRef "RoseLane$Text" ((strs.getD i (0, "", [])).1) ((strs.getD i (0, "", [])).2.1) ∈ tables_1 := by decide +kernel
theorem nr_s1 : ∀ i, i < 9 → Cond.exactly (tmS i) "java/lang/String" ∈ nar := by decide +kernel
theorem nr_s2 : ∀ i, i < 9 → Cond.eq (.field (tmS i) "java/lang/String" "coder" "B") (.int 0) ∈ nar := by decide +kernel
theorem nr_s3 : ∀ i, i < 9 → Cond.arrayOf (.field (tmS i) "java/lang/String" "value" "[B") .byte ∈ nar := by decide +kernel
theorem nr_s4 : ∀ i, i < 9 → Cond.eq (.length (.field (tmS i) "java/lang/String" "value" "[B")) (.int (Int32.ofNat (lenS.getD i 0))) ∈ nar := by decide +kernel
theorem nr_s5 : ∀ i, i < 9 → ∀ j, j < lenS.getD i 0 → Cond.eq (.elem (.field (tmS i) "java/lang/String" "value" "[B") (.int (Int32.ofNat j))) (.int ((bytS.getD i []).getD j 0)) ∈ nar := by decide +kernel
theorem nr_s6 : ∀ i, i < 9 → ∀ j, j < 9 → i ≠ j → Cond.not (Cond.eq (tmS i) (tmS j)) ∈ nar ∨ Cond.not (Cond.eq (tmS j) (tmS i)) ∈ nar := by decide +kernel
theorem nr_l : ∀ i, i < 9 → lenS.getD i 0 < 8 := by decide +kernel
theorem nr_stNum1 : Cond.arrayOf (.static "RoseLane" "NUMBERS" "[I") .int ∈ nar := by decide +kernel
theorem nr_stNum2 : Cond.eq (.length (.static "RoseLane" "NUMBERS" "[I")) (.int (Int32.ofNat 9)) ∈ nar := by decide +kernel
theorem nr_stNum3 : ∀ j, j < 9 → Cond.eq (.elem (.static "RoseLane" "NUMBERS" "[I") (.int (Int32.ofNat j))) (.int (stNum.getD j 0)) ∈ nar := by decide +kernel
theorem nr_stLow1 : Cond.arrayOf (.static "RoseLane" "LEAST" "[I") .int ∈ nar := by decide +kernel
theorem nr_stLow2 : Cond.eq (.length (.static "RoseLane" "LEAST" "[I")) (.int (Int32.ofNat 27)) ∈ nar := by decide +kernel
theorem nr_stLow3 : ∀ j, j < 27 → Cond.eq (.elem (.static "RoseLane" "LEAST" "[I") (.int (Int32.ofNat j))) (.int (stLow.getD j 0)) ∈ nar := by decide +kernel
theorem nr_stTop1 : Cond.arrayOf (.static "RoseLane" "MOST" "[I") .int ∈ nar := by decide +kernel
theorem nr_stTop2 : Cond.eq (.length (.static "RoseLane" "MOST" "[I")) (.int (Int32.ofNat 27)) ∈ nar := by decide +kernel
theorem nr_stTop3 : ∀ j, j < 27 → Cond.eq (.elem (.static "RoseLane" "MOST" "[I") (.int (Int32.ofNat j))) (.int (stTop.getD j 0)) ∈ nar := by decide +kernel
theorem nr_cs : Cond.eq (.static "java/lang/String" "COMPACT_STRINGS" "Z") (.int 1) ∈ nar := by decide +kernel
theorem nr_sf : Cond.isRef (.static "jdk/internal/util/Preconditions" "SIOOBE_FORMATTER" "Ljava/util/function/BiFunction;") ∈ nar := by decide +kernel
set_option maxHeartbeats 4000000 in
theorem startE {p : Program} {s : State} {m : MethodId} {meth : Method} {c : Code} {b L : Nat} {xs : Nat → Int32} (C0 : lw_At p s m meth c b L xs) : ∃ E : vEnv, ez E = s.heap.size ∧ eb E = b ∧ eL E = L ∧ exs E = xs ∧ VX E yL_law cL_law 4 ret p s m #[Value.ref b] meth c := by
  obtain ⟨hx, hb, hr, hml, hown, hts, hX, hbl, hlocks, hgv, hname⟩ := C0
  have hn : ∀ w ∈ nar, w.before #[Value.ref b] s = true := flat_of_before _ hgv
  have hw : ∀ w ∈ wsAll, w.before #[Value.ref b] s = true := fun w h => hts w (wTbl h)
  have htb : ∀ w ∈ tables_1, w.before #[Value.ref b] s = true := fun w h => hts w (List.mem_append_right _ h)
  have hA : ∀ a : Nat, a < s.heap.size → ¬ (fun q : Nat => s.heap.size ≤ q) a := fun a h => Nat.not_le.mpr h
  obtain ⟨D, hD⟩ := kn_all hw
  obtain ⟨c0, a0, b0⟩ := arr_p (hw _ w_62)
  obtain ⟨c1, a1, b1⟩ := arr_p (hw _ w_186)
  obtain ⟨c2, a2, b2⟩ := arr_p (hw _ w_61)
  obtain ⟨c3, a3, b3⟩ := arr_o (hts _ (tb (w := Cond.arrayOver (.object "RoseLane$Shop")) 70 (by decide +kernel)))
  obtain ⟨c4, a4, b4⟩ := arr_o (hts _ (tb (w := Cond.arrayOver (.object "RoseLane$Nose")) 162 (by decide +kernel)))
  obtain ⟨t0, e0, T0⟩ := va_Tof (tm := .static "RoseLane" "NUMBERS" "[I") (f := fun j => .int (stNum.getD j 0)) (N := 9) (by decide) (hn _ nr_stNum1) (va_eqt (hn _ nr_stNum2)) (fun j hj => va_eqt (hn _ (nr_stNum3 j hj))) hA
  obtain ⟨t1, e1, T1⟩ := va_Tof (tm := .static "RoseLane" "LEAST" "[I") (f := fun j => .int (stLow.getD j 0)) (N := 27) (by decide) (hn _ nr_stLow1) (va_eqt (hn _ nr_stLow2)) (fun j hj => va_eqt (hn _ (nr_stLow3 j hj))) hA
  obtain ⟨t2, e2, T2⟩ := va_Tof (tm := .static "RoseLane" "MOST" "[I") (f := fun j => .int (stTop.getD j 0)) (N := 27) (by decide) (hn _ nr_stTop1) (va_eqt (hn _ nr_stTop2)) (fun j hj => va_eqt (hn _ (nr_stTop3 j hj))) hA
  obtain ⟨adK, adV, hS, hSe⟩ := vk_Sof (N := 9) (tm := tmS) (len := lenS) (byt := bytS) (fun i hi => by have := nr_l i hi; omega) (fun i hi => hn _ (nr_s1 i hi)) (fun i hi => hn _ (nr_s2 i hi)) (fun i hi => hn _ (nr_s3 i hi)) (fun i hi => hn _ (nr_s4 i hi)) (fun i hi j hj => hn _ (nr_s5 i hi j hj)) (fun i j hi hj hne => (nr_s6 i hi j hj hne).elim (fun h => Or.inl (hn _ h)) (fun h => Or.inr (hn _ h))) hA
  refine ⟨(D, (fun k => if k = 0 then c0 else if k = 1 then c1 else if k = 2 then c2 else if k = 3 then c3 else c4), s.heap.size, (b, L, xs), (fun k => if k = 0 then t0 else if k = 1 then t1 else t2), adK, adV), rfl, rfl, rfl, rfl, hx, hb, hr, hml, hown, hw, Nat.le_refl _, hlocks, hname, ⟨hD, fun k q hq => ?_⟩, hbl, ⟨hX, ?_, T0, ?_, T1, ?_, T2, ?_, ?_, hS⟩, ⟨fun i q hq => ?_, fun q hq => va_Nw.of rfl (htb _ (nr_nM q hq)), fun q hq => va_Nw.of rfl (htb _ (nr_nF q hq)), fun x hx => va_Nw.of rfl (htb _ (nr_nD x hx)), fun q hq => va_Nw.of rfl (htb _ (nr_nC q hq)), fun q hq => va_Nc.of (hn _ (nr_nN q hq)), ?_, ?_⟩⟩
  · match k, hq with
    | 0, hq => cases hq; exact ⟨a0, b0⟩
    | 1, hq => cases hq; exact ⟨a1, b1⟩
    | 2, hq => cases hq; exact ⟨a2, b2⟩
    | 3, hq => cases hq; exact ⟨a3, b3⟩
    | 4, hq => cases hq; exact ⟨a4, b4⟩
    | k + 5, hq => simp [tysE] at hq
  · exact va_Zof (hts _ (tb (w := Cond.laysStatic "RoseLane" "NUMBERS" "[I") 374 (by decide +kernel))) (hw _ w_1) e0 hA
  · exact va_Zof (hts _ (tb (w := Cond.laysStatic "RoseLane" "LEAST" "[I") 380 (by decide +kernel))) (hw _ w_1) e1 hA
  · exact va_Zof (hts _ (tb (w := Cond.laysStatic "RoseLane" "MOST" "[I") 382 (by decide +kernel))) (hw _ w_1) e2 hA
  · exact va_Zof (hts _ (tb (w := Cond.laysStatic "java/lang/String" "COMPACT_STRINGS" "Z") 321 (by decide +kernel))) (hw _ w_10) (va_eqt (hn _ nr_cs)) hA
  · exact va_Zqof (hts _ (tb (w := Cond.laysStatic "jdk/internal/util/Preconditions" "SIOOBE_FORMATTER" "Ljava/util/function/BiFunction;") 337 (by decide +kernel))) (hw _ w_12) (hn _ nr_sf) hA
  · have hi : i < 9 := (List.getElem?_eq_some_iff.mp hq).1
    have hg : strs.getD i (0, "", []) = q := by rw [List.getD_eq_getElem?_getD, hq]; rfl
    have h1 := htb _ (nr_sR i hi)
    have h2 := hSe i hi
    unfold tmS at h2
    rw [hg] at h1 h2
    exact vk_R.of h1 h2
  · exact va_AO.of (hts _ (tb (w := Cond.arrayOver (.object "RoseLane$Shop")) 70 (by decide +kernel)))
  · exact va_AO.of (hts _ (tb (w := Cond.arrayOver (.object "RoseLane$Nose")) 162 (by decide +kernel)))
