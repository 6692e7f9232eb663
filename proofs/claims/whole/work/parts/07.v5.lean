theorem VK.nil {L : List Nat} : VK L [] := ⟨fun _ hh => absurd hh List.not_mem_nil, List.nodup_nil⟩
def rmk (d mc ms : Nat) : Room := { frames := d, cells := mc, slots := ms, locals := 36 * d }
/-- a method's end: what it returns, and what our cells are then -/
def mQ (E : vEnv) (Q : Option Value → List Nat → (Nat → va_E) → Prop) : Array Value → State → Outcome → State → Prop := fun _ st o t =>
  (∃ (r : Option Value) (L' : List Nat) (h' : Nat → va_E), o = .returned r ∧ Q r L' h' ∧ WH E L' h' t.heap) ∧ va_F (fr E) st t
def mZ (E : vEnv) (Q : Option Value → List Nat → (Nat → va_E) → Prop) (mc ms : Nat) : List Frame → Array Value → State → State → Prop := fun below args s => MQ below (mQ E Q) args s mc ms (fr E)
def pcE (E : vEnv) (L : List Nat) (h : Nat → va_E) (As : List Value) : Array Value → State → Prop := va_Pc As (fun U => ez E ≤ U.heap.size ∧ WH E L h U.heap ∧ va_K (eD E) vwCl (tysE E) U ∧ SF E U U.heap)
/-- a method's contract: called over these cells with these arguments, it returns with Q; at most mc cells of ms slots come -/
def CT (E : vEnv) (l : Launch) (y : MethodName) (b : ByteArray) (nL : Nat) (ret : Option FieldType) (d mc ms : Nat) (L : List Nat) (h : Nat → va_E) (vw : List (Nat × va_E)) (As : List Value) (Q : Option Value → List Nat → (Nat → va_E) → Prop) : Prop :=
  VK L vw → Met l y (Cond.code y b nL ret :: wsAll) (rmk d mc ms) (pcE E L (ov vw h) As) (mQ E Q) mc ms (fr E)
/-- what a call needs to know of the method -/
def MI (y : MethodName) (b : ByteArray) (nL : Nat) (ret : Option FieldType) (na : Nat) : Prop := Cond.code y b nL ret ∈ wsAll ∧ Cond.initialized y.cls ∈ wsAll ∧ (y.cls ≠ "java/lang/invoke/MethodHandle" ∧ y.cls ≠ "java/lang/invoke/VarHandle") ∧ (parseMethodDescriptor y.desc).map (fun d => d.parameters.length) = some na ∧ plainName y.cls = true
theorem pcE_blind {E : vEnv} {L : List Nat} {h : Nat → va_E} {As : List Value} : FrameBlind (pcE E L h As) := by
  intro a U g mk q
  obtain ⟨h1, h2, h3, h4, hb, h5, h6⟩ := q
  exact ⟨h1, h2, h3, va_K.moved (u := U) (U := U.calling g mk a) (Vm.Alike.refl U.vm) h4, hb, SF1.moved (u := U) (U := U.calling g mk a) (Vm.Alike.refl U.vm) h5, SF2.same (u := U) (U := U.calling g mk a) rfl h6⟩
theorem pcE_in {E : vEnv} {L : List Nat} {h : Nat → va_E} {As : List Value} {s : State} {H : Heap} {locs : List Loc} (hz : ez E ≤ s.heap.size) (hW : WH E L h H) (hS : va_S (fr E) s.heap H locs) (hK : va_K (eD E) vwCl (tysE E) s) (hF : SF E s s.heap) : ∀ U : State, U.heap = H → s.WarmedH U.vm → pcE E L h As As.toArray U := by
  intro U hU hw
  obtain ⟨hb, h5, h6⟩ := hF
  refine ⟨rfl, by rw [hU]; exact Nat.le_trans hz hS.1, by rw [hU]; exact hW, va_K.moved hw.alike hK, hb, ?_, h6.warm hw⟩
  rw [hU]
  exact SF1.moved hw.alike (h5.kept hb (Nat.lt_of_lt_of_le hb hz) hS.2.1)
section
variable {E : vEnv} {l : Launch} {y : MethodName} {cc : ByteArray} {nL : Nat} {ret : Option FieldType} {R : Room} {Z : List Frame → Array Value → State → State → Prop} {L : List Nat} {h : Nat → va_E} {k n : Nat} {vw : List (Nat × va_E)} {pc : Nat} {lv : List (Nat × Value)} {st : List Value}
theorem CT.ofV {d mc ms : Nat} {As : List Value} {Q : Option Value → List Nat → (Nat → va_E) → Prop} (hy : plainName y.cls = true) (hn : (lg_sl As).length ≤ nL)
    (kk : V E l y cc nL ret (rmk d mc ms) (mZ E Q mc ms) L h 0 0 vw 0 (lv_args 0 As) []) : CT E l y cc nL ret d mc ms L h vw As Q := by
  intro hv
  refine Met.ofW (cc := cc) (maxL := nL) (ret := ret) hy rfl ?_
  intro p e s m args below meth c s₁ B hml hq
  obtain ⟨rfl, hz, hW, hK, hF⟩ := hq
  have hts := atoms_spec (ws := Cond.code y cc nL ret :: wsAll) B.pre
  have hl := lv_entry As hn
  rw [lg_entry_eq]
  exact kk hv p e s m _ below meth c s.heap [] _ ⟨B.exec, B.bytes, B.returns, hml, findClass_of_methodNamed B.named, fun w hw => hts w (List.mem_cons_of_mem _ hw), hz, B.notSynchronized, (name_of_methodNamed B.named B.method).1, hK, hF⟩ hW va_S.rf hl
theorem V.widen {k2 n2 : Nat} (h1 : k ≤ k2) (h2 : n ≤ n2) (kk : V E l y cc nL ret R Z L h k2 n2 vw pc lv st) : V E l y cc nL ret R Z L h k n vw pc lv st := by
  intro hv p e s m args below meth c H locs ls hX hW hS hl
  exact W.widen h1 h2 (kk hv p e s m args below meth c H locs ls hX hW hS hl)
theorem V.locals {lv2 : List (Nat × Value)} (ks : List Nat) (e : lv_pick lv ks = lv2) (kk : V E l y cc nL ret R Z L h k n vw pc lv2 st) : V E l y cc nL ret R Z L h k n vw pc lv st := by
  intro hv p e s m args below meth c H locs ls hX hW hS hl
  exact kk hv p _ s m args below meth c H locs ls hX hW hS (lv_sub hl ks (by assumption))
theorem V.iret {Q : Option Value → List Nat → (Nat → va_E) → Prop} {v : Int32} (hr : ret = some .int) (hd : decode cc pc = .ok (.ireturn, 1)) (kk : Q (some (.int v)) L (ov vw h)) : V E l y cc nL ret R (mZ E Q k n) L h k n vw pc lv [.int v] := by
  intro hv p e s m args below meth c H locs ls hX hW hS hl
  exact W.iret hX.1 hX.2.1 (hX.2.2.1.trans hr) (fun t ht _ => ⟨⟨_, _, _, rfl, kk, by rw [ht]; exact hW⟩, hS.F ht⟩) hS.2.2 hd hX.2.2.2.2.2.2.2.1
theorem V.zret {Q : Option Value → List Nat → (Nat → va_E) → Prop} {v : Int32} {ty : FieldType} (hr : ret = some ty) (hn : narrow ty (.int v) = .int v) (hd : decode cc pc = .ok (.ireturn, 1)) (kk : Q (some (.int v)) L (ov vw h)) : V E l y cc nL ret R (mZ E Q k n) L h k n vw pc lv [.int v] := by
  intro hv p e s m args below meth c H locs ls hX hW hS hl
  exact W.zret hX.1 hX.2.1 (hX.2.2.1.trans hr) hn (fun t ht _ => ⟨⟨_, _, _, rfl, kk, by rw [ht]; exact hW⟩, hS.F ht⟩) hS.2.2 hd hX.2.2.2.2.2.2.2.1
theorem V.vret {Q : Option Value → List Nat → (Nat → va_E) → Prop} (hr : ret = none) (hd : decode cc pc = .ok (.return_, 1)) (kk : Q none L (ov vw h)) : V E l y cc nL ret R (mZ E Q k n) L h k n vw pc lv [] := by
  intro hv p e s m args below meth c H locs ls hX hW hS hl
  exact W.vret hX.1 hX.2.1 (hX.2.2.1.trans hr) (fun t ht _ => ⟨⟨_, _, _, rfl, kk, by rw [ht]; exact hW⟩, hS.F ht⟩) hS.2.2 hd hX.2.2.2.2.2.2.2.1
theorem V.aret {Q : Option Value → List Nat → (Nat → va_E) → Prop} {v : Value} {C : String} (hr : ret = some (.object C)) (hv1 : v = .null ∨ ∃ a, v = .ref a) (hd : decode cc pc = .ok (.areturn, 1)) (kk : Q (some v) L (ov vw h)) : V E l y cc nL ret R (mZ E Q k n) L h k n vw pc lv [v] := by
  intro hv p e s m args below meth c H locs ls hX hW hS hl
  exact W.aret hX.1 hX.2.1 (hX.2.2.1.trans hr) (Or.inl ⟨_, rfl⟩) hv1 (fun t ht _ => ⟨⟨_, _, _, rfl, kk, by rw [ht]; exact hW⟩, hS.F ht⟩) hS.2.2 hd hX.2.2.2.2.2.2.2.1
/-- behind a call -/
theorem wAfter {p : Program} {l : Launch} {e : Env} {R : Room} {s : State} {m : MethodId} {args : Array Value} {below : List Frame} {meth : Method} {c : Code} {H : Heap} {locs : List Loc} {cells slots : Nat} {Q : State → Prop} {pc : Nat} {ls : Array Slot} {rest st0 : List Value} {a : Array Value} {mc ms : Nat} {QQ : Option Value → List Nat → (Nat → va_E) → Prop}
    (hr : va_Run p l e R s m args below meth c H locs cells slots mc ms (F0 m pc ls st0) rest (mQ E QQ a) (fr E)) (hS : va_S (fr E) s.heap H locs)
    (kk : ∀ (r : Option Value) (L' : List Nat) (h' : Nat → va_E) (H1 : Heap) (locs1 : List Loc), QQ r L' h' → WH E L' h' H1 → va_S (fr E) s.heap H1 locs1 → W p l e R s m args below meth c H1 locs1 (cells + mc) (slots + ms) Q (F0 m (pc + 3) ls (r.toList ++ rest))) : W p l e R s m args below meth c H locs cells slots Q (F0 m pc ls st0) := by
  intro T hT X
  obtain ⟨v, st₀, t, T', Lo, h0, X', hL, e1, e2, ⟨⟨r, L', h', hv, hp, hb⟩, hz, hk⟩, st⟩ := hr T hT X
  cases hv
  rw [h0] at hz hk
  obtain ⟨t2, a1, b1⟩ := kk v L' h' T'.heap (locs ++ Lo) hp (by rw [e1]; exact hb)
    ⟨Nat.le_trans hS.1 (by rw [e1]; exact hz), fun q h1 h2 => by rw [e1, hk q (Nat.lt_of_lt_of_le h1 hS.1) h2]; exact hS.2.1 q h1 h2, fun q hq => by
      rcases List.mem_append.mp hq with h | h
      · exact hS.2.2 q h
      · exact hL q h⟩ T' rfl X'
  exact ⟨t2, st t2 a1, b1⟩
theorem callBof {R : Room} {s : State} {args : Array Value} {own : String} {index : Nat} {y : MethodName} {b : ByteArray} {nL na d mc ms : Nat} {ret : Option FieldType} (hts : ∀ w ∈ wsAll, w.before args s = true) (mi : MI y b nL ret na) (hlink : Cond.methodLink own index y ∈ wsAll) (hR : d + 1 ≤ R.frames ∧ 8 + (nL + 11) + 36 * d ≤ R.locals) : CallB R s args own index y b nL ret (Cond.code y b nL ret :: wsAll) (rmk d mc ms) mc ms na := by
  obtain ⟨h1, h2, h3, h4, -⟩ := mi
  refine ⟨rfl, rfl, hR.1, hR.2, ?_, List.mem_cons_self, hts _ h1, hts _ h2, h3, fun sig h => ?_, hts _ hlink⟩
  · intro w hw a' U hU
    have hw2 : w ∈ wsAll := by
      rcases List.mem_cons.mp hw with rfl | hw
      · exact h1
      · exact hw
    exact word_at hU (wGood hw2) (hts _ hw2)
  · rw [h] at h4
    exact (Option.some.inj h4).symm
theorem callNof {R : Room} {s : State} {args : Array Value} {own host : String} {index : Nat} {y : MethodName} {b : ByteArray} {nL na d mc ms : Nat} {ret : Option FieldType} (hts : ∀ w ∈ wsAll, w.before args s = true) (mi : MI y b nL ret na) (hlink : va_Nw (.methodLinkNest own index y host) s) (hR : d + 1 ≤ R.frames ∧ 8 + (nL + 11) + 36 * d ≤ R.locals) : va_CN R s args own index y host b nL ret (Cond.code y b nL ret :: wsAll) (rmk d mc ms) mc ms na := by
  obtain ⟨h1, h2, h3, h4, -⟩ := mi
  refine va_cnB na hts ?_ rfl rfl rfl hlink (hts _ h2) ⟨h3.1, h3.2, h4⟩ hR
  intro w hw
  rcases List.mem_cons.mp hw with rfl | hw
  · exact ⟨h1, wGood h1⟩
  · exact ⟨hw, wGood hw⟩
abbrev RQ : Type := Option Value → List Nat → (Nat → va_E) → Prop
theorem recvOf {s : State} {H : Heap} (hK : va_K (eD E) vwCl (tysE E) s) (hW : WH E L (ov vw h) H) (hv : VK L vw) {p a ci N : Nat} {C : String} {T : u_T} {fs : List Value} (hp : vw[p]? = some (a, .inr (ci, fs))) (hc : vwCl[ci]? = some (C, T, N)) : ∃ cell : Cell, H[a]? = some cell ∧ cell.vm.isStatics = false ∧ s.vm.findClass C = some cell.cls := by
  obtain ⟨j, hj⟩ := hW.get hv hp
  exact va_recv hK hW.1 hc hj
variable {y2 : MethodName} {b2 : ByteArray} {nL2 : Nat} {ret2 : Option FieldType} {na d mc ms index a ci N : Nat} {C : String} {T : u_T} {fs : List Value} {As rest : List Value} {vwc : List (Nat × va_E)} {Q2 : Option Value → List Nat → (Nat → va_E) → Prop}
theorem V.callV (is : List Nat) (hM : CT E l y2 b2 nL2 ret2 d mc ms L (ov vw h) vwc (.ref a :: As) Q2) (hC : is.map (fun i => vw[i]?) = vwc.map some) (hn : is.Nodup) (mi : MI y2 b2 nL2 ret2 na) (p : Nat) (hp : vw[p]? = some (a, .inr (ci, fs))) (hc : vwCl[ci]? = some (C, T, N)) (hlink : Cond.methodLink y.cls index y2 ∈ wsAll) (hinst : Cond.instanceMethod y2 ∈ wsAll) (hsel : Cond.selects C y2 y2 ∈ wsAll) (hAs : As.length = na) (hst : st = As.reverse ++ .ref a :: rest) (hw : (rest.map fun v => v.category).sum ≤ 8) (hR : d + 1 ≤ R.frames ∧ 8 + (nL2 + 11) + 36 * d ≤ R.locals) (hf : k + mc ≤ R.cells ∧ n + ms ≤ R.slots) (hd : decode cc pc = .ok (.invokevirtual index, 3))
    (kk : VK L vw → ∀ r L' h', Q2 r L' h' → V E l y cc nL ret R Z L' h' (k + mc) (n + ms) [] (pc + 3) lv (r.toList ++ rest)) : V E l y cc nL ret R Z L h k n vw pc lv st := by
  intro hv p1 e s m args below meth c H locs ls hX hW hS hl
  have hts := hX.2.2.2.2.2.1
  have hM2 := hM (hv.sub is hn hC)
  rw [ov_places hv.2 is hC] at hM2
  refine wAfter (rest := rest) (va_runV (As := As) (rest := rest) ⟨hX.1, hX.2.1, hX.2.2.2.1, hX.2.2.2.2.1, hts⟩ hM2 ⟨callBof hts mi hlink hR, hts _ hinst, hts _ hsel⟩ ⟨pcE_blind, recvOf hX.2.2.2.2.2.2.2.2.2.1 hW hv hp hc, pcE_in hX.2.2.2.2.2.2.1 hW hS hX.2.2.2.2.2.2.2.2.2.1 hX.2.2.2.2.2.2.2.2.2.2⟩ rfl hAs hl.1 hst (lv_room hw) hd hf) hS (fun r L' h' H1 locs1 q1 q2 q3 => ?_)
  exact kk hv r L' h' q1 VK.nil p1 e s m args below meth c H1 locs1 ls hX q2 q3 hl
theorem V.callS (is : List Nat) (hM : CT E l y2 b2 nL2 ret2 d mc ms L (ov vw h) vwc As Q2) (hC : is.map (fun i => vw[i]?) = vwc.map some) (hn : is.Nodup) (mi : MI y2 b2 nL2 ret2 na) (hlink : Cond.methodLink y.cls index y2 ∈ wsAll) (hstat : Cond.static y2 ∈ wsAll) (hAs : As.length = na) (hst : st = As.reverse ++ rest) (hw : (rest.map fun v => v.category).sum ≤ 8) (hR : d + 1 ≤ R.frames ∧ 8 + (nL2 + 11) + 36 * d ≤ R.locals) (hf : k + mc ≤ R.cells ∧ n + ms ≤ R.slots) (hd : decode cc pc = .ok (.invokestatic index, 3))
    (kk : VK L vw → ∀ r L' h', Q2 r L' h' → V E l y cc nL ret R Z L' h' (k + mc) (n + ms) [] (pc + 3) lv (r.toList ++ rest)) : V E l y cc nL ret R Z L h k n vw pc lv st := by
  intro hv p1 e s m args below meth c H locs ls hX hW hS hl
  have hts := hX.2.2.2.2.2.1
  have hM2 := hM (hv.sub is hn hC)
  rw [ov_places hv.2 is hC] at hM2
  refine wAfter (rest := rest) (va_runS (As := As) (rest := rest) ⟨hX.1, hX.2.1, hX.2.2.2.1, hX.2.2.2.2.1, hts⟩ hM2 ⟨callBof hts mi hlink hR, hts _ hstat⟩ ⟨pcE_blind, pcE_in hX.2.2.2.2.2.2.1 hW hS hX.2.2.2.2.2.2.2.2.2.1 hX.2.2.2.2.2.2.2.2.2.2⟩ rfl hAs hl.1 hst (lv_room hw) hd hf) hS (fun r L' h' H1 locs1 q1 q2 q3 => ?_)
  exact kk hv r L' h' q1 VK.nil p1 e s m args below meth c H1 locs1 ls hX q2 q3 hl
theorem V.callSN {host : String} (is : List Nat) (hM : CT E l y2 b2 nL2 ret2 d mc ms L (ov vw h) vwc As Q2) (hC : is.map (fun i => vw[i]?) = vwc.map some) (hn : is.Nodup) (mi : MI y2 b2 nL2 ret2 na) (hlink : (y.cls, index, y2, host) ∈ nwM) (hstat : Cond.static y2 ∈ wsAll) (hAs : As.length = na) (hst : st = As.reverse ++ rest) (hw : (rest.map fun v => v.category).sum ≤ 8) (hR : d + 1 ≤ R.frames ∧ 8 + (nL2 + 11) + 36 * d ≤ R.locals) (hf : k + mc ≤ R.cells ∧ n + ms ≤ R.slots) (hd : decode cc pc = .ok (.invokestatic index, 3))
    (kk : VK L vw → ∀ r L' h', Q2 r L' h' → V E l y cc nL ret R Z L' h' (k + mc) (n + ms) [] (pc + 3) lv (r.toList ++ rest)) : V E l y cc nL ret R Z L h k n vw pc lv st := by
  intro hv p1 e s m args below meth c H locs ls hX hW hS hl
  have hts := hX.2.2.2.2.2.1
  have hM2 := hM (hv.sub is hn hC)
  rw [ov_places hv.2 is hC] at hM2
  refine wAfter (rest := rest) (va_runSN (As := As) (rest := rest) ⟨hX.1, hX.2.1, hX.2.2.2.1, hX.2.2.2.2.1, hts⟩ hM2 ⟨callNof hts mi (hX.2.2.2.2.2.2.2.2.2.2.2.2.2.1 _ hlink) hR, hts _ hstat, trivial⟩ ⟨pcE_blind, pcE_in hX.2.2.2.2.2.2.1 hW hS hX.2.2.2.2.2.2.2.2.2.1 hX.2.2.2.2.2.2.2.2.2.2⟩ rfl hAs hl.1 hst (lv_room hw) hd hf) hS (fun r L' h' H1 locs1 q1 q2 q3 => ?_)
  exact kk hv r L' h' q1 VK.nil p1 e s m args below meth c H1 locs1 ls hX q2 q3 hl
theorem V.callI (is : List Nat) (hM : CT E l y2 b2 nL2 none d mc ms L (ov vw h) vwc (.ref a :: As) Q2) (hC : is.map (fun i => vw[i]?) = vwc.map some) (hn : is.Nodup) (mi : MI y2 b2 nL2 none na) (hy : y2.name = "<init>") (hlink : Cond.methodLink y.cls index y2 ∈ wsAll) (hinst : Cond.instanceMethod y2 ∈ wsAll) (hAs : As.length = na) (hst : st = As.reverse ++ .ref a :: rest) (hw : (rest.map fun v => v.category).sum ≤ 8) (hR : d + 1 ≤ R.frames ∧ 8 + (nL2 + 11) + 36 * d ≤ R.locals) (hf : k + mc ≤ R.cells ∧ n + ms ≤ R.slots) (hd : decode cc pc = .ok (.invokespecial index, 3))
    (kk : VK L vw → ∀ r L' h', Q2 r L' h' → V E l y cc nL ret R Z L' h' (k + mc) (n + ms) [] (pc + 3) lv (r.toList ++ rest)) : V E l y cc nL ret R Z L h k n vw pc lv st := by
  intro hv p1 e s m args below meth c H locs ls hX hW hS hl
  have hts := hX.2.2.2.2.2.1
  have hM2 := hM (hv.sub is hn hC)
  rw [ov_places hv.2 is hC] at hM2
  refine wAfter (rest := rest) (va_runI (As := As) (rest := rest) ⟨hX.1, hX.2.1, hX.2.2.2.1, hX.2.2.2.2.1, hts⟩ hM2 ⟨callBof hts mi hlink hR, hy, hts _ hinst⟩ ⟨pcE_blind, pcE_in hX.2.2.2.2.2.2.1 hW hS hX.2.2.2.2.2.2.2.2.2.1 hX.2.2.2.2.2.2.2.2.2.2⟩ rfl hAs hl.1 hst (lv_room hw) hd hf) hS (fun r L' h' H1 locs1 q1 q2 q3 => ?_)
  exact kk hv r L' h' q1 VK.nil p1 e s m args below meth c H1 locs1 ls hX q2 q3 hl
theorem V.callIN {host : String} (is : List Nat) (hM : CT E l y2 b2 nL2 none d mc ms L (ov vw h) vwc (.ref a :: As) Q2) (hC : is.map (fun i => vw[i]?) = vwc.map some) (hn : is.Nodup) (mi : MI y2 b2 nL2 none na) (hy : y2.name = "<init>") (hlink : (y.cls, index, y2, host) ∈ nwM) (hinst : Cond.instanceMethod y2 ∈ wsAll) (hAs : As.length = na) (hst : st = As.reverse ++ .ref a :: rest) (hw : (rest.map fun v => v.category).sum ≤ 8) (hR : d + 1 ≤ R.frames ∧ 8 + (nL2 + 11) + 36 * d ≤ R.locals) (hf : k + mc ≤ R.cells ∧ n + ms ≤ R.slots) (hd : decode cc pc = .ok (.invokespecial index, 3))
    (kk : VK L vw → ∀ r L' h', Q2 r L' h' → V E l y cc nL ret R Z L' h' (k + mc) (n + ms) [] (pc + 3) lv (r.toList ++ rest)) : V E l y cc nL ret R Z L h k n vw pc lv st := by
  intro hv p1 e s m args below meth c H locs ls hX hW hS hl
  have hts := hX.2.2.2.2.2.1
  have hM2 := hM (hv.sub is hn hC)
  rw [ov_places hv.2 is hC] at hM2
  refine wAfter (rest := rest) (va_runIN (As := As) (rest := rest) ⟨hX.1, hX.2.1, hX.2.2.2.1, hX.2.2.2.2.1, hts⟩ hM2 ⟨callNof hts mi (hX.2.2.2.2.2.2.2.2.2.2.2.2.2.1 _ hlink) hR, hy, hts _ hinst⟩ ⟨pcE_blind, pcE_in hX.2.2.2.2.2.2.1 hW hS hX.2.2.2.2.2.2.2.2.2.1 hX.2.2.2.2.2.2.2.2.2.2⟩ rfl hAs hl.1 hst (lv_room hw) hd hf) hS (fun r L' h' H1 locs1 q1 q2 q3 => ?_)
  exact kk hv r L' h' q1 VK.nil p1 e s m args below meth c H1 locs1 ls hX q2 q3 hl
end
