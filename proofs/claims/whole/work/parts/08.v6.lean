section
variable {E : vEnv} {l : Launch} {y : MethodName} {cc : ByteArray} {nL : Nat} {ret : Option FieldType} {R : Room} {Z : List Frame → Array Value → State → State → Prop} {L : List Nat} {h : Nat → va_E} {k n : Nat} {vw : List (Nat × va_E)} {pc : Nat} {lv : List (Nat × Value)} {st : List Value}
variable {y2 : MethodName} {b2 : ByteArray} {nL2 : Nat} {ret2 : Option FieldType} {na d mc ms index a ci N : Nat} {C : String} {T : u_T} {fs : List Value} {As rest : List Value} {vwc : List (Nat × va_E)} {Q2 : Option Value → List Nat → (Nat → va_E) → Prop}
/-- no cell comes: what is returned, and what the cells that the callee looked at are then -/
def qP {S : Type} (L0 : List Nat) (h0 : Nat → va_E) (vw' : S → List (Nat × va_E)) (rr : S → Option Value) (post : S → Prop) : Option Value → List Nat → (Nat → va_E) → Prop := fun r L' h' => ∃ u : S, r = rr u ∧ L' = L0 ∧ h' = ov (vw' u) h0 ∧ post u
theorem V.fold {vw2 qs : List (Nat × va_E)} {st2 : List Value} (hv : VK L vw) (is : List Nat) (hk : is.map (fun i => (vw[i]?).map Prod.fst) = qs.map (fun q => some q.1)) (e : ovset vw is qs = vw2) (hst : st = st2) (kk : V E l y cc nL ret R Z L h k n vw2 pc lv st2) : V E l y cc nL ret R Z L (ov qs (ov vw h)) k n [] pc lv st := by
  subst e; subst hst
  intro _ p e s m args below meth c H locs ls hX hW hS hl
  refine kk (hv.keys (ovset_keys hk)) p e s m args below meth c H locs ls hX ?_ hS hl
  rw [← ov_put hv.2 hk]
  exact hW
/-- a cell of the heap behind the list is looked at -/
theorem V.see (a : Nat) {e : va_E} (ha : a ∈ L) (hn : a ∉ vw.map Prod.fst) (hh : h a = e) (kk : V E l y cc nL ret R Z L h k n (vw ++ [(a, e)]) pc lv st) : V E l y cc nL ret R Z L h k n vw pc lv st := by
  intro hv p e1 s m args below meth c H locs ls hX hW hS hl
  refine kk (hv.app ha hn) p e1 s m args below meth c H locs ls hX ?_ hS hl
  rw [ov_app hn]
  have e0 : va_up (ov vw h) a e = ov vw h := by
    funext j
    simp only [va_up]
    by_cases hj : j = a
    · rw [if_pos hj, hj, ov_out hn, hh]
    · rw [if_neg hj]
  rw [e0]
  exact hW
/-- a new list over the same heap -/
theorem V.over {h2 : Nat → va_E} {vw2 : List (Nat × va_E)} (hv2 : VK L vw2) (e : ov vw h = ov vw2 h2) (kk : V E l y cc nL ret R Z L h2 k n vw2 pc lv st) : V E l y cc nL ret R Z L h k n vw pc lv st := by
  intro _ p e1 s m args below meth c H locs ls hX hW hS hl
  exact kk hv2 p e1 s m args below meth c H locs ls hX (by rw [← e]; exact hW) hS hl
theorem V.withVK (kk : VK L vw → V E l y cc nL ret R Z L h k n vw pc lv st) : V E l y cc nL ret R Z L h k n vw pc lv st := fun hv => kk hv hv
theorem V.stack {st2 : List Value} (e : st = st2) (kk : V E l y cc nL ret R Z L h k n vw pc lv st2) : V E l y cc nL ret R Z L h k n vw pc lv st := e ▸ kk
theorem V.callVp {S : Type} {vw' : S → List (Nat × va_E)} {rr : S → Option Value} {post : S → Prop} (is : List Nat) (hM : CT E l y2 b2 nL2 ret2 d mc ms L (ov vw h) vwc (.ref a :: As) (qP L (ov vw h) vw' rr post)) (hC : is.map (fun i => vw[i]?) = vwc.map some) (hn : is.Nodup) (mi : MI y2 b2 nL2 ret2 na) (p : Nat) (hp : vw[p]? = some (a, .inr (ci, fs))) (hc : vwCl[ci]? = some (C, T, N)) (hlink : Cond.methodLink y.cls index y2 ∈ wsAll) (hinst : Cond.instanceMethod y2 ∈ wsAll) (hsel : Cond.selects C y2 y2 ∈ wsAll) (hAs : As.length = na) (hst : st = As.reverse ++ .ref a :: rest) (hw : (rest.map fun v => v.category).sum ≤ 8) (hR : d + 1 ≤ R.frames ∧ 8 + (nL2 + 11) + 36 * d ≤ R.locals) (hf : k + mc ≤ R.cells ∧ n + ms ≤ R.slots) (hd : decode cc pc = .ok (.invokevirtual index, 3))
    {vw2 : S → List (Nat × va_E)} {st2 : S → List Value} (hk : ∀ u, is.map (fun i => (vw[i]?).map Prod.fst) = (vw' u).map (fun q => some q.1)) (e : ∀ u, ovset vw is (vw' u) = vw2 u) (hst2 : ∀ u, (rr u).toList ++ rest = st2 u) (kk : ∀ u, post u → V E l y cc nL ret R Z L h (k + mc) (n + ms) (vw2 u) (pc + 3) lv (st2 u)) : V E l y cc nL ret R Z L h k n vw pc lv st := by
  refine V.callV is hM hC hn mi p hp hc hlink hinst hsel hAs hst hw hR hf hd ?_
  rintro hv _ _ _ ⟨u, rfl, rfl, rfl, hq⟩
  exact V.fold hv is (hk u) (e u) (hst2 u) (kk u hq)
theorem V.callSp {S : Type} {vw' : S → List (Nat × va_E)} {rr : S → Option Value} {post : S → Prop} (is : List Nat) (hM : CT E l y2 b2 nL2 ret2 d mc ms L (ov vw h) vwc As (qP L (ov vw h) vw' rr post)) (hC : is.map (fun i => vw[i]?) = vwc.map some) (hn : is.Nodup) (mi : MI y2 b2 nL2 ret2 na) (hlink : Cond.methodLink y.cls index y2 ∈ wsAll) (hstat : Cond.static y2 ∈ wsAll) (hAs : As.length = na) (hst : st = As.reverse ++ rest) (hw : (rest.map fun v => v.category).sum ≤ 8) (hR : d + 1 ≤ R.frames ∧ 8 + (nL2 + 11) + 36 * d ≤ R.locals) (hf : k + mc ≤ R.cells ∧ n + ms ≤ R.slots) (hd : decode cc pc = .ok (.invokestatic index, 3))
    {vw2 : S → List (Nat × va_E)} {st2 : S → List Value} (hk : ∀ u, is.map (fun i => (vw[i]?).map Prod.fst) = (vw' u).map (fun q => some q.1)) (e : ∀ u, ovset vw is (vw' u) = vw2 u) (hst2 : ∀ u, (rr u).toList ++ rest = st2 u) (kk : ∀ u, post u → V E l y cc nL ret R Z L h (k + mc) (n + ms) (vw2 u) (pc + 3) lv (st2 u)) : V E l y cc nL ret R Z L h k n vw pc lv st := by
  refine V.callS is hM hC hn mi hlink hstat hAs hst hw hR hf hd ?_
  rintro hv _ _ _ ⟨u, rfl, rfl, rfl, hq⟩
  exact V.fold hv is (hk u) (e u) (hst2 u) (kk u hq)
theorem V.callSNp {host : String} {S : Type} {vw' : S → List (Nat × va_E)} {rr : S → Option Value} {post : S → Prop} (is : List Nat) (hM : CT E l y2 b2 nL2 ret2 d mc ms L (ov vw h) vwc As (qP L (ov vw h) vw' rr post)) (hC : is.map (fun i => vw[i]?) = vwc.map some) (hn : is.Nodup) (mi : MI y2 b2 nL2 ret2 na) (hlink : (y.cls, index, y2, host) ∈ nwM) (hstat : Cond.static y2 ∈ wsAll) (hAs : As.length = na) (hst : st = As.reverse ++ rest) (hw : (rest.map fun v => v.category).sum ≤ 8) (hR : d + 1 ≤ R.frames ∧ 8 + (nL2 + 11) + 36 * d ≤ R.locals) (hf : k + mc ≤ R.cells ∧ n + ms ≤ R.slots) (hd : decode cc pc = .ok (.invokestatic index, 3))
    {vw2 : S → List (Nat × va_E)} {st2 : S → List Value} (hk : ∀ u, is.map (fun i => (vw[i]?).map Prod.fst) = (vw' u).map (fun q => some q.1)) (e : ∀ u, ovset vw is (vw' u) = vw2 u) (hst2 : ∀ u, (rr u).toList ++ rest = st2 u) (kk : ∀ u, post u → V E l y cc nL ret R Z L h (k + mc) (n + ms) (vw2 u) (pc + 3) lv (st2 u)) : V E l y cc nL ret R Z L h k n vw pc lv st := by
  refine V.callSN is hM hC hn mi hlink hstat hAs hst hw hR hf hd ?_
  rintro hv _ _ _ ⟨u, rfl, rfl, rfl, hq⟩
  exact V.fold hv is (hk u) (e u) (hst2 u) (kk u hq)
theorem V.callIp {S : Type} {vw' : S → List (Nat × va_E)} {rr : S → Option Value} {post : S → Prop} (is : List Nat) (hM : CT E l y2 b2 nL2 none d mc ms L (ov vw h) vwc (.ref a :: As) (qP L (ov vw h) vw' rr post)) (hC : is.map (fun i => vw[i]?) = vwc.map some) (hn : is.Nodup) (mi : MI y2 b2 nL2 none na) (hy : y2.name = "<init>") (hlink : Cond.methodLink y.cls index y2 ∈ wsAll) (hinst : Cond.instanceMethod y2 ∈ wsAll) (hAs : As.length = na) (hst : st = As.reverse ++ .ref a :: rest) (hw : (rest.map fun v => v.category).sum ≤ 8) (hR : d + 1 ≤ R.frames ∧ 8 + (nL2 + 11) + 36 * d ≤ R.locals) (hf : k + mc ≤ R.cells ∧ n + ms ≤ R.slots) (hd : decode cc pc = .ok (.invokespecial index, 3))
    {vw2 : S → List (Nat × va_E)} {st2 : S → List Value} (hk : ∀ u, is.map (fun i => (vw[i]?).map Prod.fst) = (vw' u).map (fun q => some q.1)) (e : ∀ u, ovset vw is (vw' u) = vw2 u) (hst2 : ∀ u, (rr u).toList ++ rest = st2 u) (kk : ∀ u, post u → V E l y cc nL ret R Z L h (k + mc) (n + ms) (vw2 u) (pc + 3) lv (st2 u)) : V E l y cc nL ret R Z L h k n vw pc lv st := by
  refine V.callI is hM hC hn mi hy hlink hinst hAs hst hw hR hf hd ?_
  rintro hv _ _ _ ⟨u, rfl, rfl, rfl, hq⟩
  exact V.fold hv is (hk u) (e u) (hst2 u) (kk u hq)
/-! a call of a method that a class overrides, or has from above -/
theorem goodAll {ws : List Cond} (h : ∀ w ∈ ws, w ∈ wsAll) : GoodIn wsAll ws := fun w hw => ⟨h w hw, wGood (h w hw)⟩
def CUof (E : vEnv) (R : Room) (own C owner : String) (index : Nat) (x y2 : MethodName) (b2 : ByteArray) (nL2 : Nat) (ret2 : Option FieldType) (d mc ms na : Nat) : Prop := ∀ (s : State) (args : Array Value), (∀ w ∈ wsAll, w.before args s = true) → SF E s s.heap → va_CU R s args own C owner index x y2 b2 nL2 ret2 (Cond.code y2 b2 nL2 ret2 :: wsAll) (rmk d mc ms) mc ms na
theorem memU {own C owner : String} {x : MethodName} (hc : Cond.code y2 b2 nL2 ret2 ∈ wsAll) (h1 : Cond.methodLink own index x ∈ wsAll) (h2 : Cond.sameMethod x.cls owner x.name x.desc ∈ wsAll) (h3 : Cond.selects C x y2 ∈ wsAll) (h4 : Cond.instanceMethod y2 ∈ wsAll) (h5 : Cond.initialized y2.cls ∈ wsAll) : ∀ w ∈ va_wsU own index C owner x y2 (Cond.code y2 b2 nL2 ret2 :: wsAll), w ∈ wsAll := by
  intro w hw
  simp only [va_wsU, List.cons_append, List.nil_append, List.mem_cons] at hw
  rcases hw with rfl | rfl | rfl | rfl | rfl | rfl | hw
  · exact h1
  · exact h2
  · exact h3
  · exact h4
  · exact h5
  · exact hc
  · exact hw
theorem CUof.A {own owner : String} {x : MethodName} (mi : MI y2 b2 nL2 ret2 na) (h1 : Cond.methodLink own index x ∈ wsAll) (h2 : Cond.sameMethod x.cls owner x.name x.desc ∈ wsAll) (h3 : Cond.selects C x y2 ∈ wsAll) (h4 : Cond.instanceMethod y2 ∈ wsAll) (hz : (⟨owner, x.name, x.desc⟩ : MethodName) ∈ nwD) (hd : owner ≠ "java/lang/invoke/MethodHandle" ∧ owner ≠ "java/lang/invoke/VarHandle" ∧ (parseMethodDescriptor x.desc).map (fun d => d.parameters.length) = some na) (hR : d + 1 ≤ R.frames ∧ 8 + (nL2 + 11) + 36 * d ≤ R.locals) : CUof E R own C owner index x y2 b2 nL2 ret2 d mc ms na :=
  fun _ _ hts hF => va_cwA na hts (goodAll (memU mi.1 h1 h2 h3 h4 mi.2.1)) rfl rfl rfl (hF.2.2.2.2.2.1 _ hz) hd hR
theorem CUof.U {own owner : String} {x : MethodName} (mi : MI y2 b2 nL2 ret2 na) (h1 : Cond.methodLink own index x ∈ wsAll) (h2 : Cond.sameMethod x.cls owner x.name x.desc ∈ wsAll) (h3 : Cond.selects C x y2 ∈ wsAll) (h4 : Cond.instanceMethod y2 ∈ wsAll) (hyx : y2 = ⟨owner, x.name, x.desc⟩) (hd : owner ≠ "java/lang/invoke/MethodHandle" ∧ owner ≠ "java/lang/invoke/VarHandle" ∧ (parseMethodDescriptor x.desc).map (fun d => d.parameters.length) = some na) (hR : d + 1 ≤ R.frames ∧ 8 + (nL2 + 11) + 36 * d ≤ R.locals) : CUof E R own C owner index x y2 b2 nL2 ret2 d mc ms na :=
  fun _ _ hts _ => va_cwU na hts (goodAll (memU mi.1 h1 h2 h3 h4 mi.2.1)) rfl rfl rfl hyx hd hR
theorem CUof.O {own owner : String} {x : MethodName} {b0 : ByteArray} {m0 : Nat} {r0 : Option FieldType} (mi : MI y2 b2 nL2 ret2 na) (h1 : Cond.methodLink own index x ∈ wsAll) (h2 : Cond.sameMethod x.cls owner x.name x.desc ∈ wsAll) (h3 : Cond.selects C x y2 ∈ wsAll) (h4 : Cond.instanceMethod y2 ∈ wsAll) (h5 : Cond.instanceMethod ⟨owner, x.name, x.desc⟩ ∈ wsAll) (h0 : Cond.code ⟨owner, x.name, x.desc⟩ b0 m0 r0 ∈ wsAll) (hd : owner ≠ "java/lang/invoke/MethodHandle" ∧ owner ≠ "java/lang/invoke/VarHandle" ∧ (parseMethodDescriptor x.desc).map (fun d => d.parameters.length) = some na) (hR : d + 1 ≤ R.frames ∧ 8 + (nL2 + 11) + 36 * d ≤ R.locals) : CUof E R own C owner index x y2 b2 nL2 ret2 d mc ms na := by
  intro s args hts hF
  refine va_cwO na hts (goodAll ?_) rfl rfl rfl h0 hd hR
  intro w hw
  simp only [va_wsO, List.cons_append, List.nil_append, List.mem_cons] at hw
  rcases hw with rfl | rfl | rfl | rfl | rfl | rfl | rfl | hw
  · exact h1
  · exact h2
  · exact h5
  · exact h3
  · exact h4
  · exact mi.2.1
  · exact mi.1
  · exact hw
theorem V.callU {owner : String} {x : MethodName} (is : List Nat) (hM : CT E l y2 b2 nL2 ret2 d mc ms L (ov vw h) vwc (.ref a :: As) Q2) (hC : is.map (fun i => vw[i]?) = vwc.map some) (hn : is.Nodup) (hcu : CUof E R y.cls C owner index x y2 b2 nL2 ret2 d mc ms na) (p : Nat) (hp : vw[p]? = some (a, .inr (ci, fs))) (hc : vwCl[ci]? = some (C, T, N)) (hAs : As.length = na) (hst : st = As.reverse ++ .ref a :: rest) (hw : (rest.map fun v => v.category).sum ≤ 8) (hf : k + mc ≤ R.cells ∧ n + ms ≤ R.slots) (hd : decode cc pc = .ok (.invokevirtual index, 3))
    (kk : VK L vw → ∀ r L' h', Q2 r L' h' → V E l y cc nL ret R Z L' h' (k + mc) (n + ms) [] (pc + 3) lv (r.toList ++ rest)) : V E l y cc nL ret R Z L h k n vw pc lv st := by
  intro hv p1 e s m args below meth c H locs ls hX hW hS hl
  have hts := hX.2.2.2.2.2.1
  have hM2 := hM (hv.sub is hn hC)
  rw [ov_places hv.2 is hC] at hM2
  refine wAfter (rest := rest) (va_runU (As := As) (rest := rest) ⟨hX.1, hX.2.1, hX.2.2.2.1, hX.2.2.2.2.1, hts⟩ hM2 (hcu s args hts hX.2.2.2.2.2.2.2.2.2.2) ⟨pcE_blind, recvOf hX.2.2.2.2.2.2.2.2.2.1 hW hv hp hc, pcE_in hX.2.2.2.2.2.2.1 hW hS hX.2.2.2.2.2.2.2.2.2.1 hX.2.2.2.2.2.2.2.2.2.2⟩ rfl hAs hl.1 hst (lv_room hw) hd hf) hS (fun r L' h' H1 locs1 q1 q2 q3 => ?_)
  exact kk hv r L' h' q1 VK.nil p1 e s m args below meth c H1 locs1 ls hX q2 q3 hl
theorem V.callUp {owner : String} {x : MethodName} {S : Type} {vw' : S → List (Nat × va_E)} {rr : S → Option Value} {post : S → Prop} (is : List Nat) (hM : CT E l y2 b2 nL2 ret2 d mc ms L (ov vw h) vwc (.ref a :: As) (qP L (ov vw h) vw' rr post)) (hC : is.map (fun i => vw[i]?) = vwc.map some) (hn : is.Nodup) (hcu : CUof E R y.cls C owner index x y2 b2 nL2 ret2 d mc ms na) (p : Nat) (hp : vw[p]? = some (a, .inr (ci, fs))) (hc : vwCl[ci]? = some (C, T, N)) (hAs : As.length = na) (hst : st = As.reverse ++ .ref a :: rest) (hw : (rest.map fun v => v.category).sum ≤ 8) (hf : k + mc ≤ R.cells ∧ n + ms ≤ R.slots) (hd : decode cc pc = .ok (.invokevirtual index, 3))
    {vw2 : S → List (Nat × va_E)} {st2 : S → List Value} (hk : ∀ u, is.map (fun i => (vw[i]?).map Prod.fst) = (vw' u).map (fun q => some q.1)) (e : ∀ u, ovset vw is (vw' u) = vw2 u) (hst2 : ∀ u, (rr u).toList ++ rest = st2 u) (kk : ∀ u, post u → V E l y cc nL ret R Z L h (k + mc) (n + ms) (vw2 u) (pc + 3) lv (st2 u)) : V E l y cc nL ret R Z L h k n vw pc lv st := by
  refine V.callU is hM hC hn hcu p hp hc hAs hst hw hf hd ?_
  rintro hv _ _ _ ⟨u, rfl, rfl, rfl, hq⟩
  exact V.fold hv is (hk u) (e u) (hst2 u) (kk u hq)
/-- super's method on this -/
theorem V.callSU (is : List Nat) (hM : CT E l y2 b2 nL2 ret2 d mc ms L (ov vw h) vwc (.ref a :: As) Q2) (hC : is.map (fun i => vw[i]?) = vwc.map some) (hn : is.Nodup) (mi : MI y2 b2 nL2 ret2 na) (p : Nat) (hp : vw[p]? = some (a, .inr (ci, fs))) (hc : vwCl[ci]? = some (C, T, N)) (h1 : Cond.methodLink y.cls index y2 ∈ wsAll) (h2 : Cond.sameMethod y2.cls y2.cls y2.name y2.desc ∈ wsAll) (h3 : Cond.superclass y.cls y2.cls ∈ wsAll) (h4 : Cond.instanceMethod y2 ∈ wsAll) (hnm : y2.name ≠ "<init>") (hAs : As.length = na) (hst : st = As.reverse ++ .ref a :: rest) (hw : (rest.map fun v => v.category).sum ≤ 8) (hR : d + 1 ≤ R.frames ∧ 8 + (nL2 + 11) + 36 * d ≤ R.locals) (hf : k + mc ≤ R.cells ∧ n + ms ≤ R.slots) (hd : decode cc pc = .ok (.invokespecial index, 3))
    (kk : VK L vw → ∀ r L' h', Q2 r L' h' → V E l y cc nL ret R Z L' h' (k + mc) (n + ms) [] (pc + 3) lv (r.toList ++ rest)) : V E l y cc nL ret R Z L h k n vw pc lv st := by
  intro hv p1 e s m args below meth c H locs ls hX hW hS hl
  have hts := hX.2.2.2.2.2.1
  have hK := hX.2.2.2.2.2.2.2.2.2.1
  have hM2 := hM (hv.sub is hn hC)
  rw [ov_places hv.2 is hC] at hM2
  have hG : ∀ w ∈ va_wsSU y.cls index y2 (Cond.code y2 b2 nL2 ret2 :: wsAll), w ∈ wsAll := by
    intro w hw
    simp only [va_wsSU, List.cons_append, List.nil_append, List.mem_cons] at hw
    rcases hw with rfl | rfl | rfl | rfl | rfl | rfl | hw
    · exact h1
    · exact h2
    · exact h3
    · exact h4
    · exact mi.2.1
    · exact mi.1
    · exact hw
  refine wAfter (rest := rest) (va_runSU (As := As) (rest := rest) (hK.1 ci _ hc).2 ⟨hX.1, hX.2.1, hX.2.2.2.1, hX.2.2.2.2.1, hts⟩ hM2 (va_cwSU na hts (goodAll hG) rfl rfl rfl ⟨hnm, mi.2.2.2.1⟩ hR) ⟨pcE_blind, recvOf hK hW hv hp hc, pcE_in hX.2.2.2.2.2.2.1 hW hS hK hX.2.2.2.2.2.2.2.2.2.2⟩ rfl hAs hl.1 hst (lv_room hw) hd hf) hS (fun r L' h' H1 locs1 q1 q2 q3 => ?_)
  exact kk hv r L' h' q1 VK.nil p1 e s m args below meth c H1 locs1 ls hX q2 q3 hl
theorem V.callSUp {S : Type} {vw' : S → List (Nat × va_E)} {rr : S → Option Value} {post : S → Prop} (is : List Nat) (hM : CT E l y2 b2 nL2 ret2 d mc ms L (ov vw h) vwc (.ref a :: As) (qP L (ov vw h) vw' rr post)) (hC : is.map (fun i => vw[i]?) = vwc.map some) (hn : is.Nodup) (mi : MI y2 b2 nL2 ret2 na) (p : Nat) (hp : vw[p]? = some (a, .inr (ci, fs))) (hc : vwCl[ci]? = some (C, T, N)) (h1 : Cond.methodLink y.cls index y2 ∈ wsAll) (h2 : Cond.sameMethod y2.cls y2.cls y2.name y2.desc ∈ wsAll) (h3 : Cond.superclass y.cls y2.cls ∈ wsAll) (h4 : Cond.instanceMethod y2 ∈ wsAll) (hnm : y2.name ≠ "<init>") (hAs : As.length = na) (hst : st = As.reverse ++ .ref a :: rest) (hw : (rest.map fun v => v.category).sum ≤ 8) (hR : d + 1 ≤ R.frames ∧ 8 + (nL2 + 11) + 36 * d ≤ R.locals) (hf : k + mc ≤ R.cells ∧ n + ms ≤ R.slots) (hd : decode cc pc = .ok (.invokespecial index, 3))
    {vw2 : S → List (Nat × va_E)} {st2 : S → List Value} (hk : ∀ u, is.map (fun i => (vw[i]?).map Prod.fst) = (vw' u).map (fun q => some q.1)) (e : ∀ u, ovset vw is (vw' u) = vw2 u) (hst2 : ∀ u, (rr u).toList ++ rest = st2 u) (kk : ∀ u, post u → V E l y cc nL ret R Z L h (k + mc) (n + ms) (vw2 u) (pc + 3) lv (st2 u)) : V E l y cc nL ret R Z L h k n vw pc lv st := by
  refine V.callSU is hM hC hn mi p hp hc h1 h2 h3 h4 hnm hAs hst hw hR hf hd ?_
  rintro hv _ _ _ ⟨u, rfl, rfl, rfl, hq⟩
  exact V.fold hv is (hk u) (e u) (hst2 u) (kk u hq)
/-! Math, arraycopy, Object's constructor, instanceof, the statics -/
theorem V.mmax {x z : Int32} (hlink : Cond.methodLink y.cls index Lib.Math.max.name ∈ wsAll) (hw : (st.map fun v => v.category).sum ≤ 8) (hR : 1 ≤ R.frames ∧ 21 ≤ R.locals) (hf : k ≤ R.cells ∧ n ≤ R.slots) (hd : decode cc pc = .ok (.invokestatic index, 3)) (kk : V E l y cc nL ret R Z L h k n vw (pc + 3) lv (.int (if x < z then z else x) :: st)) : V E l y cc nL ret R Z L h k n vw pc lv (.int z :: .int x :: st) := by
  intro hv p e s m args below meth c H locs ls hX hW hS hl
  have hts := hX.2.2.2.2.2.1
  exact va_mmax hX.1 hX.2.1 (hX.2.2.2.1.trans hl.1.symm) hX.2.2.2.2.1 (hts _ hlink) (hts _ w_483) (hts _ w_17) (hts _ w_484) hR.1 (by omega) hf.1 hf.2 hd (kk hv p e s m args below meth c H locs ls hX hW hS hl)
theorem V.mmin {x z : Int32} (hlink : Cond.methodLink y.cls index Lib.Math.min.name ∈ wsAll) (hw : (st.map fun v => v.category).sum ≤ 8) (hR : 1 ≤ R.frames ∧ 21 ≤ R.locals) (hf : k ≤ R.cells ∧ n ≤ R.slots) (hd : decode cc pc = .ok (.invokestatic index, 3)) (kk : V E l y cc nL ret R Z L h k n vw (pc + 3) lv (.int (if z < x then z else x) :: st)) : V E l y cc nL ret R Z L h k n vw pc lv (.int z :: .int x :: st) := by
  intro hv p e s m args below meth c H locs ls hX hW hS hl
  have hts := hX.2.2.2.2.2.1
  exact va_mmin hX.1 hX.2.1 (hX.2.2.2.1.trans hl.1.symm) hX.2.2.2.2.1 (hts _ hlink) (hts _ w_515) (hts _ w_17) (hts _ w_516) hR.1 (by omega) hf.1 hf.2 hd (kk hv p e s m args below meth c H locs ls hX hW hS hl)
theorem V.mabs {x : Int32} (hlink : Cond.methodLink y.cls index Lib.Math.abs.name ∈ wsAll) (hw : (st.map fun v => v.category).sum ≤ 8) (hR : 1 ≤ R.frames ∧ 21 ≤ R.locals) (hf : k ≤ R.cells ∧ n ≤ R.slots) (hd : decode cc pc = .ok (.invokestatic index, 3)) (kk : V E l y cc nL ret R Z L h k n vw (pc + 3) lv (.int (if 0 ≤ x then x else 0 - x) :: st)) : V E l y cc nL ret R Z L h k n vw pc lv (.int x :: st) := by
  intro hv p e s m args below meth c H locs ls hX hW hS hl
  have hts := hX.2.2.2.2.2.1
  exact va_mabs hX.1 hX.2.1 (hX.2.2.2.1.trans hl.1.symm) hX.2.2.2.2.1 (hts _ hlink) (hts _ w_540) (hts _ w_17) (hts _ w_541) hR.1 (by omega) hf.1 hf.2 hd (kk hv p e s m args below meth c H locs ls hX hW hS hl)
theorem V.copyi {a0 a1 n0 n1 : Nat} {f g : Nat → Int32} {sp dp nn : Int32} {vw2 : List (Nat × va_E)} (p q : Nat) (hp : vw[p]? = some (a0, aI E n0 f)) (hq : vw[q]? = some (a1, aI E n1 g)) (hlink : Cond.methodLink y.cls index arraycopyName ∈ wsAll) (h1 : ¬ sp < 0) (h2 : ¬ dp < 0) (h3 : ¬ nn < 0) (h4 : sp.toNatClampNeg + nn.toNatClampNeg ≤ n0) (h5 : dp.toNatClampNeg + nn.toNatClampNeg ≤ n1) (e2 : vw.set q (a1, aI E n1 (va_cpy f g sp.toNatClampNeg dp.toNatClampNeg nn.toNatClampNeg)) = vw2) (hR : 1 ≤ R.frames ∧ (st.map fun v => v.category).sum + (nativeFrameWords "java/lang/System" "arraycopy" 5 + 11) ≤ R.locals) (hd : decode cc pc = .ok (.invokestatic index, 3)) (kk : V E l y cc nL ret R Z L h k n vw2 (pc + 3) lv st) : V E l y cc nL ret R Z L h k n vw pc lv (.int nn :: .int dp :: .ref a1 :: .int sp :: .ref a0 :: st) := by
  intro hv p1 e s m args below meth c H locs ls hX hW hS hl
  have hts := hX.2.2.2.2.2.1
  obtain ⟨j, hj⟩ := hW.get hv hp
  obtain ⟨j2, hj2⟩ := hW.get hv hq
  subst e2
  exact va_copyi hX.1 hX.2.1 (hX.2.2.2.1.trans hl.1.symm) hX.2.2.2.2.1 (hts _ hlink) (hts _ w_532) (hts _ w_531) (hts _ w_18) hX.2.2.2.2.2.2.2.2.2.1 hW.1 hW.2 hS j j2 0 0 hj hj2 rfl rfl rfl h1 h2 h3 h4 h5 (fun _ _ => rfl) hR.1 hR.2 hd (fun H1 locs1 q1 q2 q3 => kk (hv.set hq) p1 e s m args below meth c H1 locs1 ls hX (hW.put hv hq hj2 q1 q2) q3 hl)
theorem V.objInit (hlink : Cond.methodLink y.cls index Lib.objectInit ∈ wsAll) (hw : (st.map fun v => v.category).sum ≤ 8) (hR : 1 ≤ R.frames ∧ 20 ≤ R.locals) (hd : decode cc pc = .ok (.invokespecial index, 3)) (kk : V E l y cc nL ret R Z L h k n vw (pc + 3) lv st) : V E l y cc nL ret R Z L h k n vw pc lv (.ref a :: st) := by
  intro hv p e s m args below meth c H locs ls hX hW hS hl
  have hts := hX.2.2.2.2.2.1
  refine W.objInit hX.1 hX.2.1 hX.2.2.2.2.1 (hts _ hlink) (hts _ w_25) (hts _ w_26) rfl (by rw [hX.2.2.2.1]; exact hl.1) rfl hd hR.1 ?_ ?_
  · have := lv_room (pc := pc) (ls := ls) (m := m) (rest := Value.ref a :: st) hw
    omega
  · exact W.eq (g2 := F0 m (pc + 3) ls st) rfl (kk hv p e s m args below meth c H locs ls hX hW hS hl)
theorem V.instY {nm : String} (p : Nat) (hp : vw[p]? = some (a, .inr (ci, fs))) (hc : vwCl[ci]? = some (C, T, N)) (hw : Cond.classLink y.cls index nm ∈ wsAll) (hca : (C, nm) ∈ nwC) (hd : decode cc pc = .ok (.instanceof index, 3)) (kk : V E l y cc nL ret R Z L h k n vw (pc + 3) lv (.int 1 :: st)) : V E l y cc nL ret R Z L h k n vw pc lv (.ref a :: st) := by
  intro hv p1 e s m args below meth c H locs ls hX hW hS hl
  exact va_instY hX.1 hX.2.1 hX.2.2.2.2.1 (hX.2.2.2.2.2.1 _ hw) (hX.2.2.2.2.2.2.2.2.2.2.2.2.2.2.2.2.1 _ hca) (recvOf hX.2.2.2.2.2.2.2.2.2.1 hW hv hp hc) hd (kk hv p1 e s m args below meth c H locs ls hX hW hS hl)
theorem V.instE {nm : String} (p : Nat) (hp : vw[p]? = some (a, .inr (ci, fs))) (hc : vwCl[ci]? = some (nm, T, N)) (hw : Cond.classLink y.cls index nm ∈ wsAll) (hd : decode cc pc = .ok (.instanceof index, 3)) (kk : V E l y cc nL ret R Z L h k n vw (pc + 3) lv (.int 1 :: st)) : V E l y cc nL ret R Z L h k n vw pc lv (.ref a :: st) := by
  intro hv p1 e s m args below meth c H locs ls hX hW hS hl
  exact va_instE hX.1 hX.2.1 hX.2.2.2.2.1 (hX.2.2.2.2.2.1 _ hw) (recvOf hX.2.2.2.2.2.2.2.2.2.1 hW hv hp hc) hd (kk hv p1 e s m args below meth c H locs ls hX hW hS hl)
theorem V.instNo {nm : String} (p : Nat) (hp : vw[p]? = some (a, .inr (ci, fs))) (hc : vwCl[ci]? = some (C, T, N)) (hw : Cond.classLink y.cls index nm ∈ wsAll) (hca : (C, nm) ∈ nwN) (hd : decode cc pc = .ok (.instanceof index, 3)) (kk : V E l y cc nL ret R Z L h k n vw (pc + 3) lv (.int 0 :: st)) : V E l y cc nL ret R Z L h k n vw pc lv (.ref a :: st) := by
  intro hv p1 e s m args below meth c H locs ls hX hW hS hl
  exact va_instNo hX.1 hX.2.1 hX.2.2.2.2.1 (hX.2.2.2.2.2.1 _ hw) (hX.2.2.2.2.2.2.2.2.2.2.2.2.2.2.2.2.2.1 _ hca) (recvOf hX.2.2.2.2.2.2.2.2.2.1 hW hv hp hc) hd (kk hv p1 e s m args below meth c H locs ls hX hW hS hl)
theorem V.gsNum (hlink : (y.cls, index, "RoseLane", "NUMBERS", "[I", "RoseLane") ∈ nwF) (hd : decode cc pc = .ok (.getstatic index, 3)) (kk : V E l y cc nL ret R Z L h k n vw (pc + 3) lv (.ref (esa E 0) :: st)) : V E l y cc nL ret R Z L h k n vw pc lv st := by
  intro hv p1 e s m args below meth c H locs ls hX hW hS hl
  have hF := hX.2.2.2.2.2.2.2.2.2.2
  exact va_getsN hX.1 hX.2.1 hF.2.1.2.1 hS hX.2.2.2.2.1 (va_Nw.use rfl (hF.2.2.2.2.1 _ hlink)) (fun _ h9 => h9) hd (kk hv p1 e s m args below meth c H locs ls hX hW hS hl)
theorem V.gsLow (hlink : (y.cls, index, "RoseLane", "LEAST", "[I", "RoseLane") ∈ nwF) (hd : decode cc pc = .ok (.getstatic index, 3)) (kk : V E l y cc nL ret R Z L h k n vw (pc + 3) lv (.ref (esa E 1) :: st)) : V E l y cc nL ret R Z L h k n vw pc lv st := by
  intro hv p1 e s m args below meth c H locs ls hX hW hS hl
  have hF := hX.2.2.2.2.2.2.2.2.2.2
  exact va_getsN hX.1 hX.2.1 hF.2.1.2.2.2.1 hS hX.2.2.2.2.1 (va_Nw.use rfl (hF.2.2.2.2.1 _ hlink)) (fun _ h9 => h9) hd (kk hv p1 e s m args below meth c H locs ls hX hW hS hl)
theorem V.gsTop (hlink : (y.cls, index, "RoseLane", "MOST", "[I", "RoseLane") ∈ nwF) (hd : decode cc pc = .ok (.getstatic index, 3)) (kk : V E l y cc nL ret R Z L h k n vw (pc + 3) lv (.ref (esa E 2) :: st)) : V E l y cc nL ret R Z L h k n vw pc lv st := by
  intro hv p1 e s m args below meth c H locs ls hX hW hS hl
  have hF := hX.2.2.2.2.2.2.2.2.2.2
  exact va_getsN hX.1 hX.2.1 hF.2.1.2.2.2.2.2.1 hS hX.2.2.2.2.1 (va_Nw.use rfl (hF.2.2.2.2.1 _ hlink)) (fun _ h9 => h9) hd (kk hv p1 e s m args below meth c H locs ls hX hW hS hl)
theorem V.ldNum {i : Int32} (hin : vp_in i 9) (hd : decode cc pc = .ok (.iaload, 1)) (kk : V E l y cc nL ret R Z L h k n vw (pc + 1) lv (.int (stNum.getD i.toNatClampNeg 0) :: st)) : V E l y cc nL ret R Z L h k n vw pc lv (.int i :: .ref (esa E 0) :: st) := by
  intro hv p1 e s m args below meth c H locs ls hX hW hS hl
  exact va_ti hX.1 hX.2.1 hX.2.2.2.2.2.2.2.2.2.2.2.1.2.2.1 hS hin rfl hd (kk hv p1 e s m args below meth c H locs ls hX hW hS hl)
theorem V.ldLow {i : Int32} (hin : vp_in i 27) (hd : decode cc pc = .ok (.iaload, 1)) (kk : V E l y cc nL ret R Z L h k n vw (pc + 1) lv (.int (stLow.getD i.toNatClampNeg 0) :: st)) : V E l y cc nL ret R Z L h k n vw pc lv (.int i :: .ref (esa E 1) :: st) := by
  intro hv p1 e s m args below meth c H locs ls hX hW hS hl
  exact va_ti hX.1 hX.2.1 hX.2.2.2.2.2.2.2.2.2.2.2.1.2.2.2.2.1 hS hin rfl hd (kk hv p1 e s m args below meth c H locs ls hX hW hS hl)
theorem V.ldTop {i : Int32} (hin : vp_in i 27) (hd : decode cc pc = .ok (.iaload, 1)) (kk : V E l y cc nL ret R Z L h k n vw (pc + 1) lv (.int (stTop.getD i.toNatClampNeg 0) :: st)) : V E l y cc nL ret R Z L h k n vw pc lv (.int i :: .ref (esa E 2) :: st) := by
  intro hv p1 e s m args below meth c H locs ls hX hW hS hl
  exact va_ti hX.1 hX.2.1 hX.2.2.2.2.2.2.2.2.2.2.2.1.2.2.2.2.2.2.1 hS hin rfl hd (kk hv p1 e s m args below meth c H locs ls hX hW hS hl)
theorem V.ldcS {i : Nat} {tx : String} {bs : List Int32} (hi : strs[i]? = some (index, tx, bs)) (ho : y.cls = "RoseLane$Text") (hd : decode cc pc = .ok (.ldc index, 2)) (kk : V E l y cc nL ret R Z L h k n vw (pc + 2) lv (.ref (eK E i) :: st)) : V E l y cc nL ret R Z L h k n vw pc lv st := by
  intro hv p1 e s m args below meth c H locs ls hX hW hS hl
  exact va_ldcS hX.1 hX.2.1 (own := "RoseLane$Text") (by rw [← ho]; exact hX.2.2.2.2.1) (hX.2.2.2.2.2.2.2.2.2.2.2.2.1 i _ hi) hd (kk hv p1 e s m args below meth c H locs ls hX hW hS hl)
end
