/-! the law's own rows -/
/-- the law's end: where our cells begin is the heap's end at its entry -/
def lZ (E : vEnv) : List Frame → Array Value → State → State → Prop := fun below args s t => s.heap.size ≤ ez E → lw_Z below args s t
section
variable {E : vEnv} {l : Launch} {y : MethodName} {cc : ByteArray} {nL : Nat} {ret : Option FieldType} {R : Room} {Z : List Frame → Array Value → State → State → Prop} {L : List Nat} {h : Nat → va_E} {k n : Nat} {vw : List (Nat × va_E)} {pc : Nat} {lv : List (Nat × Value)} {st : List Value}
theorem V.slen (hd : decode cc pc = .ok (.arraylength, 1)) (kk : V E l y cc nL ret R Z L h k n vw (pc + 1) lv (.int (nI (eL E)) :: st)) : V E l y cc nL ret R Z L h k n vw pc lv (.ref (eb E) :: st) := by
  intro hv p1 e s m args below meth c H locs ls hX hW hS hl
  obtain ⟨hb, h5, -⟩ := hX.2.2.2.2.2.2.2.2.2.2
  exact va_slen hX.1 hX.2.1 h5.1 (Nat.lt_of_lt_of_le hb hX.2.2.2.2.2.2.1) (Nat.not_le.mpr hb) hS hd (kk hv p1 e s m args below meth c H locs ls hX hW hS hl)
theorem V.sld {i : Int32} (hin : vp_in i (eL E)) (hd : decode cc pc = .ok (.iaload, 1)) (kk : V E l y cc nL ret R Z L h k n vw (pc + 1) lv (.int (exs E i.toNatClampNeg) :: st)) : V E l y cc nL ret R Z L h k n vw pc lv (.int i :: .ref (eb E) :: st) := by
  intro hv p1 e s m args below meth c H locs ls hX hW hS hl
  obtain ⟨hb, h5, -⟩ := hX.2.2.2.2.2.2.2.2.2.2
  exact va_sld hX.1 hX.2.1 h5.1 (Nat.lt_of_lt_of_le hb hX.2.2.2.2.2.2.1) (Nat.not_le.mpr hb) hS hin hd (kk hv p1 e s m args below meth c H locs ls hX hW hS hl)
variable {y2 : MethodName} {b2 : ByteArray} {nL2 : Nat} {ret2 : Option FieldType} {na d mc ms index a ci N : Nat} {C : String} {T : u_T} {fs : List Value} {As rest : List Value} {vwc : List (Nat × va_E)}
/-- a call that also makes cells that are not looked at, and leaves the base hb -/
theorem V.callVx {S : Type} {qs : S → List Nat} {hb : S → Nat → va_E} {vw' : S → List (Nat × va_E)} {rr : S → Option Value} {post : S → Prop} (is : List Nat) (hM : CT E l y2 b2 nL2 ret2 d mc ms L (ov vw h) vwc (.ref a :: As) (qX L qs hb vw' rr post)) (hC : is.map (fun i => vw[i]?) = vwc.map some) (hn : is.Nodup) (mi : MI y2 b2 nL2 ret2 na) (p : Nat) (hp : vw[p]? = some (a, .inr (ci, fs))) (hc : vwCl[ci]? = some (C, T, N)) (hlink : Cond.methodLink y.cls index y2 ∈ wsAll) (hinst : Cond.instanceMethod y2 ∈ wsAll) (hsel : Cond.selects C y2 y2 ∈ wsAll) (hAs : As.length = na) (hst : st = As.reverse ++ .ref a :: rest) (hw : (rest.map fun v => v.category).sum ≤ 8) (hR : d + 1 ≤ R.frames ∧ 8 + (nL2 + 11) + 36 * d ≤ R.locals) (hf : k + mc ≤ R.cells ∧ n + ms ≤ R.slots) (hd : decode cc pc = .ok (.invokevirtual index, 3))
    {vw2 : S → List (Nat × va_E)} {st2 : S → List Value} (hsame : ∀ u, post u → ∀ q ∈ vw, hb u q.1 = ov vw h q.1) (hk : ∀ u, is.map (fun i => (vw[i]?).map Prod.fst) = (vw' u).map (fun q => some q.1)) (e : ∀ u, ovset vw is (vw' u) = vw2 u) (hst2 : ∀ u, (rr u).toList ++ rest = st2 u) (kk : ∀ u, post u → V E l y cc nL ret R Z (L ++ qs u) (hb u) (k + mc) (n + ms) (vw2 u) (pc + 3) lv (st2 u)) : V E l y cc nL ret R Z L h k n vw pc lv st := by
  refine V.callV is hM hC hn mi p hp hc hlink hinst hsel hAs hst hw hR hf hd ?_
  rintro hv _ _ _ ⟨u, rfl, rfl, rfl, hq⟩
  have hv2 : VK (L ++ qs u) (vw2 u) := by
    rw [← e u]
    exact (hv.keys (ovset_keys (hk u))).more fun x hx => List.mem_append_left _ hx
  rw [hst2 u]
  refine V.over hv2 ?_ (kk u hq)
  show ov (vw' u) (hb u) = ov (vw2 u) (hb u)
  rw [← e u, ← ov_put hv.2 (hk u)]
  have e1 : ov vw (hb u) = hb u := ov_same (h := hb u) fun q hq2 => by
    rw [hsame u hq q hq2]
    exact ov_mem hv.2 q hq2
  rw [e1]
end
theorem V.lret {E : vEnv} {l : Launch} {L : List Nat} {h : Nat → va_E} {vw : List (Nat × va_E)} {pc : Nat} {lv : List (Nat × Value)} (hd : decode cL_law pc = .ok (.ireturn, 1)) : V E l yL_law cL_law 4 ret room_1 (lZ E) L h 600000 7302250 vw pc lv [.int 1] := by
  intro hv p1 e s m args below meth c H locs ls hX hW hS hl
  by_cases hz : s.heap.size ≤ ez E
  · rw [show lZ E below args s = lw_Z below args s from funext fun t => propext ⟨fun f => f hz, fun f _ => f⟩]
    refine va_forget (fun q hq => Nat.le_trans hz (hS.2.2 q hq)) ?_
    intro T hT X
    have hr : meth.sig.returnType = ret := hX.2.2.1
    obtain ⟨fs, hret, hrun, hended, hWm, hframe⟩ := X.leave (v := some (.int 1)) (hlocks := hX.2.2.2.2.2.2.2.1) (fun h => by rw [hr] at h; cases h)
    have hmeth' : T.vm.method? m = some meth := X.method'
    refine ⟨T.setFrames fs, ?_, .returned (some (.int 1)), hrun, hended, rfl, ⟨_, rfl⟩, hWm, hframe⟩
    have hx := hX.1
    have hb := hX.2.1
    jvm_step X.here [X.here.top, hx, hb, hd, hmeth', hr, ret, narrow_b1]
    (try refine ⟨rfl, ?_⟩); (try refine ⟨rfl, ?_⟩)
    first | (intro acts; rw [hret _ acts rfl rfl rfl]) | rw [hret _ _ rfl rfl rfl]
    exact Steps.refl _
  · intro T hT X
    exact ⟨_, Steps.refl _, fun hz2 => absurd hz2 hz⟩
/-- room for one more turn -/
theorem rm_0 {k n : Nat} (h1 : k + 14 ≤ 600000) (h2 : n + 42 ≤ 7302250) : k + 0 ≤ room_1.cells ∧ n + 0 ≤ room_1.slots := ⟨Nat.le_trans (by omega) h1, Nat.le_trans (by omega) h2⟩
theorem rm_00 {k n : Nat} (h1 : k + 14 ≤ 600000) (h2 : n + 42 ≤ 7302250) : k + 0 + 0 ≤ room_1.cells ∧ n + 0 + 0 ≤ room_1.slots := ⟨Nat.le_trans (by omega) h1, Nat.le_trans (by omega) h2⟩
theorem rm_14 {k n : Nat} (h1 : k + 14 ≤ 600000) (h2 : n + 42 ≤ 7302250) : k + 14 ≤ room_1.cells ∧ n + 42 ≤ room_1.slots := ⟨h1, h2⟩
theorem rm_15 {k n : Nat} (h1 : k + 14 ≤ 600000) (h2 : n + 42 ≤ 7302250) : k + 14 + 0 ≤ room_1.cells ∧ n + 42 + 0 ≤ room_1.slots := ⟨h1, h2⟩
