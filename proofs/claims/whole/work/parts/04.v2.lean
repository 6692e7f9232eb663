/-! the environment: classes and slots, array classes, where our cells begin, the script, the statics and the String constants -/
abbrev vEnv : Type := va_G × (Nat → ClassId) × Nat × (Nat × Nat × (Nat → Int32)) × (Nat → Nat) × (Nat → Nat) × (Nat → Nat)
def eD (E : vEnv) : va_G := E.1
def eA (E : vEnv) : Nat → ClassId := E.2.1
def ez (E : vEnv) : Nat := E.2.2.1
def eb (E : vEnv) : Nat := E.2.2.2.1.1
def eL (E : vEnv) : Nat := E.2.2.2.1.2.1
def exs (E : vEnv) : Nat → Int32 := E.2.2.2.1.2.2
def esa (E : vEnv) : Nat → Nat := E.2.2.2.2.1
def eK (E : vEnv) : Nat → Nat := E.2.2.2.2.2.1
def eV (E : vEnv) : Nat → Nat := E.2.2.2.2.2.2
def fr (E : vEnv) : Nat → Prop := fun q => ez E ≤ q
def tysE (E : vEnv) : List (ClassId × FieldType) := [(eA E 0, .int), (eA E 1, .boolean), (eA E 2, .char), (eA E 3, .object "RoseLane$Shop"), (eA E 4, .object "RoseLane$Nose")]
def nwM : List (String × Nat × MethodName × String) := [("RoseLane", 9, ⟨"RoseLane$Text", "<init>", "()V"⟩, "RoseLane"), ("RoseLane", 25, ⟨"RoseLane$Nose", "<init>", "()V"⟩, "RoseLane"), ("RoseLane", 32, ⟨"RoseLane$Tells", "<init>", "()V"⟩, "RoseLane"), ("RoseLane$Walks", 24, ⟨"RoseLane$Nose", "<init>", "()V"⟩, "RoseLane"), ("RoseLane$Text", 64, ⟨"RoseLane", "isWithin", "(III)Z"⟩, "RoseLane"), ("RoseLane$Lane", 58, ⟨"RoseLane", "isWithin", "(III)Z"⟩, "RoseLane"), ("RoseLane$Nose", 53, ⟨"RoseLane", "held", "(I)I"⟩, "RoseLane"), ("RoseLane$Walks", 45, ⟨"RoseLane", "isWithin", "(III)Z"⟩, "RoseLane"), ("RoseLane$Tells", 44, ⟨"RoseLane", "held", "(I)I"⟩, "RoseLane")]
def nwF : List (String × Nat × String × String × String × String) := [("RoseLane$Text", 52, "RoseLane", "NUMBERS", "[I", "RoseLane"), ("RoseLane$Text", 58, "RoseLane", "LEAST", "[I", "RoseLane"), ("RoseLane$Text", 61, "RoseLane", "MOST", "[I", "RoseLane")]
def nwD : List MethodName := [⟨"RoseLane$Shop", "kind", "()I"⟩, ⟨"RoseLane$Shop", "tiring", "(II)I"⟩]
def nwC : List (String × String) := [("RoseLane$Musk", "RoseLane$Plain"), ("RoseLane$Coffee", "RoseLane$Shop"), ("RoseLane$Plain", "RoseLane$Shop"), ("RoseLane$Musk", "RoseLane$Shop"), ("RoseLane$Nothing", "RoseLane$Shop")]
def nwN : List (String × String) := [("RoseLane$Coffee", "RoseLane$Plain"), ("RoseLane$Nothing", "RoseLane$Plain"), ("RoseLane$Coffee", "RoseLane$Musk"), ("RoseLane$Nothing", "RoseLane$Musk"), ("RoseLane$Plain", "RoseLane$Musk"), ("RoseLane$Plain", "RoseLane$Coffee"), ("RoseLane$Musk", "RoseLane$Coffee"), ("RoseLane$Nothing", "RoseLane$Coffee"), ("RoseLane$Plain", "RoseLane$Nothing"), ("RoseLane$Musk", "RoseLane$Nothing"), ("RoseLane$Coffee", "RoseLane$Nothing")]
def strs : List (Nat × String × List Int32) := [(79, "lane", [108, 97, 110, 101]), (85, "sort", [115, 111, 114, 116]), (87, "plain", [112, 108, 97, 105, 110]), (89, "musk", [109, 117, 115, 107]), (91, "coffee", [99, 111, 102, 102, 101, 101]), (93, "nothing", [110, 111, 116, 104, 105, 110, 103]), (95, "want", [119, 97, 110, 116]), (97, "purse", [112, 117, 114, 115, 101]), (99, "shut", [115, 104, 117, 116])]
def stNum : List Int32 := [0, 3, 3, 3, 3, 3, 1, 1, 0]
def stLow : List Int32 := [0, 0, 0, 0, 0, 0, 0, 1, 0, 0, 1, 0, 0, 1, 0, 0, 1, 0, 1, 0, 0, 0, 0, 0, 0, 0, 0]
def stTop : List Int32 := [0, 0, 0, 3, 9, 5, 3, 30, 50, 3, 30, 50, 3, 30, 50, 3, 30, 50, 30, 0, 0, 99, 0, 0, 0, 0, 0]
/-- facts of the start that no call changes -/
def SF1 (E : vEnv) (U : State) (H : Heap) : Prop :=
  va_X (eb E) (eL E) (exs E) U H ∧ va_Z "RoseLane" "NUMBERS" "[I" (.ref (esa E 0)) (fr E) U H ∧ va_T .int (esa E 0) 9 (fun j => .int (stNum.getD j 0)) (fr E) U H ∧
  va_Z "RoseLane" "LEAST" "[I" (.ref (esa E 1)) (fr E) U H ∧ va_T .int (esa E 1) 27 (fun j => .int (stLow.getD j 0)) (fr E) U H ∧
  va_Z "RoseLane" "MOST" "[I" (.ref (esa E 2)) (fr E) U H ∧ va_T .int (esa E 2) 27 (fun j => .int (stTop.getD j 0)) (fr E) U H ∧
  va_Z "java/lang/String" "COMPACT_STRINGS" "Z" (.int 1) (fr E) U H ∧ va_Zq "jdk/internal/util/Preconditions" "SIOOBE_FORMATTER" "Ljava/util/function/BiFunction;" (fr E) U H ∧
  vk_S 9 (strs.map (fun q => q.2.2.length)) (strs.map (fun q => q.2.2)) (eK E) (eV E) (fr E) U H
def SF2 (E : vEnv) (U : State) : Prop :=
  (∀ i q, strs[i]? = some q → vk_R "RoseLane$Text" q.1 q.2.1 (eK E i) U) ∧ (∀ q ∈ nwM, va_Nw (.methodLinkNest q.1 q.2.1 q.2.2.1 q.2.2.2) U) ∧ (∀ q ∈ nwF, va_Nw (.fieldLinkNest q.1 q.2.1 q.2.2.1 q.2.2.2.1 q.2.2.2.2.1 q.2.2.2.2.2) U) ∧
  (∀ x ∈ nwD, va_Nw (.declares x) U) ∧ (∀ q ∈ nwC, va_Nw (.castable q.1 q.2) U) ∧ (∀ q ∈ nwN, va_Nc q.1 q.2 U) ∧ va_AO "RoseLane$Shop" U ∧ va_AO "RoseLane$Nose" U
def SF (E : vEnv) (U : State) (H : Heap) : Prop := eb E < ez E ∧ SF1 E U H ∧ SF2 E U
theorem SF1.moved {E : vEnv} {u U : State} {H : Heap} (hvm : u.vm.Alike U.vm) (h : SF1 E u H) : SF1 E U H := by
  obtain ⟨h1, h2, h3, h4, h5, h6, h7, h8, h9, h10⟩ := h
  exact ⟨va_X.moved hvm h1, va_Z.moved hvm h2, va_T.moved hvm h3, va_Z.moved hvm h4, va_T.moved hvm h5, va_Z.moved hvm h6, va_T.moved hvm h7, va_Z.moved hvm h8, va_Zq.moved hvm h9, vk_S.moved hvm h10⟩
theorem SF1.kept {E : vEnv} {U : State} {H H1 : Heap} (hb : eb E < ez E) (hz : eb E < H.size) (h : SF1 E U H) (hq : ∀ a : Nat, a < H.size → ¬ fr E a → H1[a]? = H[a]?) : SF1 E U H1 := by
  obtain ⟨h1, h2, h3, h4, h5, h6, h7, h8, h9, h10⟩ := h
  exact ⟨va_X.kept h1 (hq _ hz (Nat.not_le.mpr hb)), h2.kept hq, h3.kept hq, h4.kept hq, h5.kept hq, h6.kept hq, h7.kept hq, h8.kept hq, h9.kept hq, h10.kept hq⟩
theorem SF2.warm {E : vEnv} {u U : State} (hW : u.WarmedH U.vm) (h : SF2 E u) : SF2 E U := by
  obtain ⟨h1, h2, h3, h4, h5, h6, h7, h8⟩ := h
  exact ⟨fun i q hq => vk_R.warm hW (h1 i q hq), fun q hq => va_Nw.warmM hW (h2 q hq), fun q hq => va_Nw.warmF hW (h3 q hq), fun x hx => va_Nw.warmD hW (h4 x hx), fun q hq => va_Nw.warmC hW (h5 q hq), fun q hq => va_Nc.moved hW.alike (h6 q hq), va_AO.moved hW.alike h7, va_AO.moved hW.alike h8⟩
theorem SF2.same {E : vEnv} {u U : State} (hv : U.vm = u.vm) (h : SF2 E u) : SF2 E U := by
  have ha : u.vm.Alike U.vm := by rw [hv]; exact Vm.Alike.refl _
  obtain ⟨h1, h2, h3, h4, h5, h6, h7, h8⟩ := h
  exact ⟨fun i q hq => vk_R.same hv (h1 i q hq), fun q hq => va_Nw.same rfl hv.symm (h2 q hq), fun q hq => va_Nw.same rfl hv.symm (h3 q hq), fun x hx => va_Nw.same rfl hv.symm (h4 x hx), fun q hq => va_Nw.same rfl hv.symm (h5 q hq), fun q hq => va_Nc.moved ha (h6 q hq), va_AO.moved ha h7, va_AO.moved ha h8⟩
/-- our cells on the machine's heap -/
def WH (E : vEnv) (L : List Nat) (h : Nat → va_E) (H : Heap) : Prop := va_P (eD E) vwCl (va_pl L h) H ∧ va_D (fr E) (va_pl L h)
theorem WH.get {E : vEnv} {L : List Nat} {vw : List (Nat × va_E)} {h : Nat → va_E} {H : Heap} (_ : WH E L (ov vw h) H) (hv : VK L vw) {p a : Nat} {e : va_E} (hp : vw[p]? = some (a, e)) : ∃ i : Nat, (va_pl L (ov vw h))[i]? = some (a, e) := by
  obtain ⟨i, hi⟩ := va_pl_get (X := []) (f := ov vw h) (hv.1 (a, e) (List.mem_of_getElem? hp))
  rw [List.nil_append, ov_get hv.2 hp] at hi
  exact ⟨i, hi⟩
theorem WH.put {E : vEnv} {L : List Nat} {vw : List (Nat × va_E)} {h : Nat → va_E} {H H1 : Heap} (w : WH E L (ov vw h) H) (hv : VK L vw) {p a i : Nat} {e e1 : va_E} (hp : vw[p]? = some (a, e)) (hi : (va_pl L (ov vw h))[i]? = some (a, e)) (h1 : va_P (eD E) vwCl ((va_pl L (ov vw h)).set i (a, e1)) H1) (h2 : va_D (fr E) ((va_pl L (ov vw h)).set i (a, e1))) : WH E L (ov (vw.set p (a, e1)) h) H1 := by
  have e0 : (va_pl L (ov vw h)).set i (a, e1) = va_pl L (ov (vw.set p (a, e1)) h) := by
    rw [← ov_set hv.2 hp]
    have hi' : ([] ++ va_pl L (ov vw h))[i]? = some (a, ov vw h a) := by rw [List.nil_append, ov_get hv.2 hp]; exact hi
    have := va_pl_set (X := []) (e := e1) (A := fr E) (by rw [List.nil_append]; exact w.2) (hv.1 (a, e) (List.mem_of_getElem? hp)) hi'
    simpa using this
  rw [e0] at h1 h2
  exact ⟨h1, h2⟩
theorem WH.new {E : vEnv} {L : List Nat} {vw : List (Nat × va_E)} {h : Nat → va_E} {H1 : Heap} (hv : VK L vw) {q : Nat} {e1 : va_E} (h1 : va_P (eD E) vwCl (va_pl L (ov vw h) ++ [(q, e1)]) H1) (h2 : va_D (fr E) (va_pl L (ov vw h) ++ [(q, e1)])) : q ∉ L ∧ WH E (L ++ [q]) (ov (vw ++ [(q, e1)]) h) H1 := by
  have hq : q ∉ L := by
    intro hm
    obtain ⟨i, hi⟩ := va_pl_get (X := []) (f := ov vw h) hm
    rw [List.nil_append] at hi
    have hl := (List.getElem?_eq_some_iff.mp hi).1
    have e1' := h2.1 i (va_pl L (ov vw h)).length (q, ov vw h q) (q, e1) (by rw [List.getElem?_append_left hl]; exact hi) (by simp) rfl
    omega
  have hk : q ∉ vw.map Prod.fst := fun hm => by
    obtain ⟨x, hx, hxe⟩ := List.mem_map.mp hm
    exact hq (hxe ▸ hv.1 x hx)
  rw [va_pl_push hq, ← ov_app hk] at h1 h2
  exact ⟨hq, h1, h2⟩
def VX (E : vEnv) (y : MethodName) (cc : ByteArray) (nL : Nat) (ret : Option FieldType) (p : Program) (s : State) (m : MethodId) (args : Array Value) (meth : Method) (c : Code) : Prop :=
  p.tables.exec = Jvm.exec ∧ c.code = cc ∧ meth.sig.returnType = ret ∧ c.maxLocals = nL ∧ s.vm.findClass y.cls = some m.cls ∧ (∀ w ∈ wsAll, w.before args s = true) ∧ ez E ≤ s.heap.size ∧ meth.locks = false ∧ meth.name = y.name ∧ va_K (eD E) vwCl (tysE E) s ∧ SF E s s.heap
/-- the walk's judgement -/
def V (E : vEnv) (l : Launch) (y : MethodName) (cc : ByteArray) (nL : Nat) (ret : Option FieldType) (R : Room) (Z : List Frame → Array Value → State → State → Prop) (L : List Nat) (h : Nat → va_E) (k n : Nat) (vw : List (Nat × va_E)) (pc : Nat) (lv : List (Nat × Value)) (st : List Value) : Prop :=
  VK L vw → ∀ (p : Program) (e : Env) (s : State) (m : MethodId) (args : Array Value) (below : List Frame) (meth : Method) (c : Code) (H : Heap) (locs : List Loc) (ls : Array Slot), VX E y cc nL ret p s m args meth c → WH E L (ov vw h) H → va_S (fr E) s.heap H locs → lv_has ls nL lv → W p l e R s m args below meth c H locs k n (Z below args s) (F0 m pc ls st)
