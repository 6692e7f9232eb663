section
variable {E : vEnv} {l : Launch} {y : MethodName} {cc : ByteArray} {nL : Nat} {ret : Option FieldType} {R : Room} {Z : List Frame → Array Value → State → State → Prop} {L : List Nat} {h : Nat → va_E} {k n : Nat} {vw : List (Nat × va_E)} {pc : Nat} {lv : List (Nat × Value)} {st : List Value}
theorem V.iconst {i : Int} {v : Int32} (hd : decode cc pc = .ok (.iconst i, 1)) (hi : Int32.ofInt i = v) (kk : V E l y cc nL ret R Z L h k n vw (pc + 1) lv (.int v :: st)) : V E l y cc nL ret R Z L h k n vw pc lv st := by
  intro hv p e s m args below meth c H locs ls hX hW hS hl
  exact lv_iconst hX.1 hX.2.1 hd hi (kk hv p e s m args below meth c H locs ls hX hW hS hl)
theorem V.bipush {i : Int} {v : Int32} (hd : decode cc pc = .ok (.bipush i, 2)) (hi : (Int8.ofInt i).toInt32 = v) (kk : V E l y cc nL ret R Z L h k n vw (pc + 2) lv (.int v :: st)) : V E l y cc nL ret R Z L h k n vw pc lv st := by
  intro hv p e s m args below meth c H locs ls hX hW hS hl
  exact lv_bipush hX.1 hX.2.1 hd hi (kk hv p e s m args below meth c H locs ls hX hW hS hl)
theorem V.sipush {i : Int} {v : Int32} (hd : decode cc pc = .ok (.sipush i, 3)) (hi : (Int16.ofInt i).toInt32 = v) (kk : V E l y cc nL ret R Z L h k n vw (pc + 3) lv (.int v :: st)) : V E l y cc nL ret R Z L h k n vw pc lv st := by
  intro hv p e s m args below meth c H locs ls hX hW hS hl
  exact lv_sipush hX.1 hX.2.1 hd hi (kk hv p e s m args below meth c H locs ls hX hW hS hl)
theorem V.lconst {i : Fin 2} {v : Int64} (hd : decode cc pc = .ok (.lconst i, 1)) (hi : Int64.ofNat i = v) (kk : V E l y cc nL ret R Z L h k n vw (pc + 1) lv (.long v :: st)) : V E l y cc nL ret R Z L h k n vw pc lv st := by
  intro hv p e s m args below meth c H locs ls hX hW hS hl
  exact lv_lconst hX.1 hX.2.1 hd hi (kk hv p e s m args below meth c H locs ls hX hW hS hl)
theorem V.iload_n {i : Fin 4} {x : Int32} (hd : decode cc pc = .ok (.iload_n i, 1)) (j : Nat) (hj : lv[j]? = some ((i : Nat), .int x)) (kk : V E l y cc nL ret R Z L h k n vw (pc + 1) lv (.int x :: st)) : V E l y cc nL ret R Z L h k n vw pc lv st := by
  intro hv p e s m args below meth c H locs ls hX hW hS hl
  exact lv_iload_n hX.1 hX.2.1 hd rfl (lv_at hl j hj) (kk hv p e s m args below meth c H locs ls hX hW hS hl)
theorem V.iload {i : Nat} {x : Int32} (hd : decode cc pc = .ok (.iload i, 2)) (j : Nat) (hj : lv[j]? = some (i, .int x)) (kk : V E l y cc nL ret R Z L h k n vw (pc + 2) lv (.int x :: st)) : V E l y cc nL ret R Z L h k n vw pc lv st := by
  intro hv p e s m args below meth c H locs ls hX hW hS hl
  exact lv_iload hX.1 hX.2.1 hd (lv_at hl j hj) (kk hv p e s m args below meth c H locs ls hX hW hS hl)
theorem V.lload_n {i : Fin 4} {x : Int64} (hd : decode cc pc = .ok (.lload_n i, 1)) (j : Nat) (hj : lv[j]? = some ((i : Nat), .long x)) (kk : V E l y cc nL ret R Z L h k n vw (pc + 1) lv (.long x :: st)) : V E l y cc nL ret R Z L h k n vw pc lv st := by
  intro hv p e s m args below meth c H locs ls hX hW hS hl
  exact lv_lload_n hX.1 hX.2.1 hd rfl (lv_at hl j hj) (kk hv p e s m args below meth c H locs ls hX hW hS hl)
theorem V.lload {i : Nat} {x : Int64} (hd : decode cc pc = .ok (.lload i, 2)) (j : Nat) (hj : lv[j]? = some (i, .long x)) (kk : V E l y cc nL ret R Z L h k n vw (pc + 2) lv (.long x :: st)) : V E l y cc nL ret R Z L h k n vw pc lv st := by
  intro hv p e s m args below meth c H locs ls hX hW hS hl
  exact lv_lload hX.1 hX.2.1 hd (lv_at hl j hj) (kk hv p e s m args below meth c H locs ls hX hW hS hl)
theorem V.aload_n {i : Fin 4} {x : Nat} (hd : decode cc pc = .ok (.aload_n i, 1)) (j : Nat) (hj : lv[j]? = some ((i : Nat), .ref x)) (kk : V E l y cc nL ret R Z L h k n vw (pc + 1) lv (.ref x :: st)) : V E l y cc nL ret R Z L h k n vw pc lv st := by
  intro hv p e s m args below meth c H locs ls hX hW hS hl
  exact lv_aload_n hX.1 hX.2.1 hd rfl (lv_at hl j hj) (kk hv p e s m args below meth c H locs ls hX hW hS hl)
theorem V.aload {i : Nat} {x : Nat} (hd : decode cc pc = .ok (.aload i, 2)) (j : Nat) (hj : lv[j]? = some (i, .ref x)) (kk : V E l y cc nL ret R Z L h k n vw (pc + 2) lv (.ref x :: st)) : V E l y cc nL ret R Z L h k n vw pc lv st := by
  intro hv p e s m args below meth c H locs ls hX hW hS hl
  exact lv_aload hX.1 hX.2.1 hd (lv_at hl j hj) (kk hv p e s m args below meth c H locs ls hX hW hS hl)
theorem V.aload_nN {i : Fin 4} (hd : decode cc pc = .ok (.aload_n i, 1)) (j : Nat) (hj : lv[j]? = some ((i : Nat), .null)) (kk : V E l y cc nL ret R Z L h k n vw (pc + 1) lv (.null :: st)) : V E l y cc nL ret R Z L h k n vw pc lv st := by
  intro hv p e s m args below meth c H locs ls hX hW hS hl
  exact lv_aload_nN hX.1 hX.2.1 hd rfl (lv_at hl j hj) (kk hv p e s m args below meth c H locs ls hX hW hS hl)
theorem V.iadd {x z : Int32} (hd : decode cc pc = .ok (.iadd, 1))  (kk : V E l y cc nL ret R Z L h k n vw (pc + 1) lv (.int (x + z) :: st)) : V E l y cc nL ret R Z L h k n vw pc lv (.int z :: .int x :: st) := by
  intro hv p e s m args below meth c H locs ls hX hW hS hl
  exact lv_iadd hX.1 hX.2.1 hd (kk hv p e s m args below meth c H locs ls hX hW hS hl)
theorem V.isub {x z : Int32} (hd : decode cc pc = .ok (.isub, 1))  (kk : V E l y cc nL ret R Z L h k n vw (pc + 1) lv (.int (x - z) :: st)) : V E l y cc nL ret R Z L h k n vw pc lv (.int z :: .int x :: st) := by
  intro hv p e s m args below meth c H locs ls hX hW hS hl
  exact lv_isub hX.1 hX.2.1 hd (kk hv p e s m args below meth c H locs ls hX hW hS hl)
theorem V.imul {x z : Int32} (hd : decode cc pc = .ok (.imul, 1))  (kk : V E l y cc nL ret R Z L h k n vw (pc + 1) lv (.int (x * z) :: st)) : V E l y cc nL ret R Z L h k n vw pc lv (.int z :: .int x :: st) := by
  intro hv p e s m args below meth c H locs ls hX hW hS hl
  exact lv_imul hX.1 hX.2.1 hd (kk hv p e s m args below meth c H locs ls hX hW hS hl)
theorem V.iand {x z : Int32} (hd : decode cc pc = .ok (.iand, 1))  (kk : V E l y cc nL ret R Z L h k n vw (pc + 1) lv (.int (x &&& z) :: st)) : V E l y cc nL ret R Z L h k n vw pc lv (.int z :: .int x :: st) := by
  intro hv p e s m args below meth c H locs ls hX hW hS hl
  exact lv_iand hX.1 hX.2.1 hd (kk hv p e s m args below meth c H locs ls hX hW hS hl)
theorem V.ior {x z : Int32} (hd : decode cc pc = .ok (.ior, 1))  (kk : V E l y cc nL ret R Z L h k n vw (pc + 1) lv (.int (x ||| z) :: st)) : V E l y cc nL ret R Z L h k n vw pc lv (.int z :: .int x :: st) := by
  intro hv p e s m args below meth c H locs ls hX hW hS hl
  exact lv_ior hX.1 hX.2.1 hd (kk hv p e s m args below meth c H locs ls hX hW hS hl)
theorem V.idiv {x z : Int32} (hd : decode cc pc = .ok (.idiv, 1)) (hz : ¬ z = 0) (kk : V E l y cc nL ret R Z L h k n vw (pc + 1) lv (.int (x / z) :: st)) : V E l y cc nL ret R Z L h k n vw pc lv (.int z :: .int x :: st) := by
  intro hv p e s m args below meth c H locs ls hX hW hS hl
  exact lv_idiv hX.1 hX.2.1 hd hz (kk hv p e s m args below meth c H locs ls hX hW hS hl)
theorem V.irem {x z : Int32} (hd : decode cc pc = .ok (.irem, 1)) (hz : ¬ z = 0) (kk : V E l y cc nL ret R Z L h k n vw (pc + 1) lv (.int (x - x / z * z) :: st)) : V E l y cc nL ret R Z L h k n vw pc lv (.int z :: .int x :: st) := by
  intro hv p e s m args below meth c H locs ls hX hW hS hl
  exact lv_irem hX.1 hX.2.1 hd hz (kk hv p e s m args below meth c H locs ls hX hW hS hl)
theorem V.ineg {x : Int32} (hd : decode cc pc = .ok (.ineg, 1))  (kk : V E l y cc nL ret R Z L h k n vw (pc + 1) lv (.int (-x) :: st)) : V E l y cc nL ret R Z L h k n vw pc lv (.int x :: st) := by
  intro hv p e s m args below meth c H locs ls hX hW hS hl
  exact lv_ineg hX.1 hX.2.1 hd (kk hv p e s m args below meth c H locs ls hX hW hS hl)
theorem V.ishl {x z : Int32} (hd : decode cc pc = .ok (.ishl, 1))  (kk : V E l y cc nL ret R Z L h k n vw (pc + 1) lv (.int (x <<< (z &&& 31)) :: st)) : V E l y cc nL ret R Z L h k n vw pc lv (.int z :: .int x :: st) := by
  intro hv p e s m args below meth c H locs ls hX hW hS hl
  exact lv_ishl hX.1 hX.2.1 hd (kk hv p e s m args below meth c H locs ls hX hW hS hl)
theorem V.ishr {x z : Int32} (hd : decode cc pc = .ok (.ishr, 1))  (kk : V E l y cc nL ret R Z L h k n vw (pc + 1) lv (.int (x >>> (z &&& 31)) :: st)) : V E l y cc nL ret R Z L h k n vw pc lv (.int z :: .int x :: st) := by
  intro hv p e s m args below meth c H locs ls hX hW hS hl
  exact lv_ishr hX.1 hX.2.1 hd (kk hv p e s m args below meth c H locs ls hX hW hS hl)
theorem V.i2l {x : Int32} (hd : decode cc pc = .ok (.i2l, 1))  (kk : V E l y cc nL ret R Z L h k n vw (pc + 1) lv (.long x.toInt64 :: st)) : V E l y cc nL ret R Z L h k n vw pc lv (.int x :: st) := by
  intro hv p e s m args below meth c H locs ls hX hW hS hl
  exact lv_i2l hX.1 hX.2.1 hd rfl (kk hv p e s m args below meth c H locs ls hX hW hS hl)
theorem V.i2c {x v : Int32} (hd : decode cc pc = .ok (.i2c, 1)) (hi : (x.toUInt32 % 65536).toInt32 = v) (kk : V E l y cc nL ret R Z L h k n vw (pc + 1) lv (.int v :: st)) : V E l y cc nL ret R Z L h k n vw pc lv (.int x :: st) := by
  intro hv p e s m args below meth c H locs ls hX hW hS hl
  exact lv_i2c hX.1 hX.2.1 hd hi (kk hv p e s m args below meth c H locs ls hX hW hS hl)
theorem V.lcmp {x z : Int64} (hd : decode cc pc = .ok (.lcmp, 1))  (kk : V E l y cc nL ret R Z L h k n vw (pc + 1) lv (.int (lg_cmp x z) :: st)) : V E l y cc nL ret R Z L h k n vw pc lv (.long z :: .long x :: st) := by
  intro hv p e s m args below meth c H locs ls hX hW hS hl
  exact W.lcmp hX.1 hX.2.1 hd (kk hv p e s m args below meth c H locs ls hX hW hS hl)
theorem V.dup {v : Value} (hd : decode cc pc = .ok (.dup, 1)) (hc : v.category = 1) (kk : V E l y cc nL ret R Z L h k n vw (pc + 1) lv (v :: v :: st)) : V E l y cc nL ret R Z L h k n vw pc lv (v :: st) := by
  intro hv p e s m args below meth c H locs ls hX hW hS hl
  exact lv_dup hX.1 hX.2.1 hd hc (kk hv p e s m args below meth c H locs ls hX hW hS hl)
theorem V.dup2 {v w : Value} (hd : decode cc pc = .ok (.dup2, 1)) (hc : v.category = 1) (hc2 : w.category = 1) (kk : V E l y cc nL ret R Z L h k n vw (pc + 1) lv (v :: w :: v :: w :: st)) : V E l y cc nL ret R Z L h k n vw pc lv (v :: w :: st) := by
  intro hv p e s m args below meth c H locs ls hX hW hS hl
  exact lv_dup2_11 hX.1 hX.2.1 hd hc hc2 (kk hv p e s m args below meth c H locs ls hX hW hS hl)
theorem V.pop {v : Value} (hd : decode cc pc = .ok (.pop, 1)) (hc : v.category = 1) (kk : V E l y cc nL ret R Z L h k n vw (pc + 1) lv st) : V E l y cc nL ret R Z L h k n vw pc lv (v :: st) := by
  intro hv p e s m args below meth c H locs ls hX hW hS hl
  exact lv_pop hX.1 hX.2.1 hd hc (kk hv p e s m args below meth c H locs ls hX hW hS hl)
theorem V.null  (hd : decode cc pc = .ok (.aconst_null, 1))  (kk : V E l y cc nL ret R Z L h k n vw (pc + 1) lv (.null :: st)) : V E l y cc nL ret R Z L h k n vw pc lv st := by
  intro hv p e s m args below meth c H locs ls hX hW hS hl
  exact lv_null hX.1 hX.2.1 hd (kk hv p e s m args below meth c H locs ls hX hW hS hl)
theorem V.ldc {i : Nat} {v : Int32} (hd : decode cc pc = .ok (.ldc i, 2)) (hw : Cond.constant y.cls i v ∈ wsAll) (kk : V E l y cc nL ret R Z L h k n vw (pc + 2) lv (.int v :: st)) : V E l y cc nL ret R Z L h k n vw pc lv st := by
  intro hv p e s m args below meth c H locs ls hX hW hS hl
  exact lv_ldc hX.1 hX.2.1 hX.2.2.2.2.1 (hX.2.2.2.2.2.1 _ hw) hd (kk hv p e s m args below meth c H locs ls hX hW hS hl)
theorem V.ldc2 {i : Nat} {v : Int64} (hd : decode cc pc = .ok (.ldc2_w i, 3)) (hw : Cond.constantLong y.cls i v ∈ wsAll) (kk : V E l y cc nL ret R Z L h k n vw (pc + 3) lv (.long v :: st)) : V E l y cc nL ret R Z L h k n vw pc lv st := by
  intro hv p e s m args below meth c H locs ls hX hW hS hl
  exact lv_ldc2 hX.1 hX.2.1 hX.2.2.2.2.1 (hX.2.2.2.2.2.1 _ hw) hd (kk hv p e s m args below meth c H locs ls hX hW hS hl)
theorem V.istore_n {j : Fin 4} {i : Nat} {x : Int32} {lv2 : List (Nat × Value)} (hd : decode cc pc = .ok (.istore_n j, 1)) (hi : (j : Nat) = i) (hn : i < nL) (hf : (i, Value.int x) :: lv.filter (fun q => !(q.1 == i) && !(q.1 + 1 == i && q.2.category == 2)) = lv2) (kk : V E l y cc nL ret R Z L h k n vw (pc + 1) lv2 st) : V E l y cc nL ret R Z L h k n vw pc lv (.int x :: st) := by
  intro hv p e s m args below meth c H locs ls hX hW hS hl
  exact lv_istore_n hX.1 hX.2.1 hd hi hl hn hf (fun ls2 hl2 => kk hv p e s m args below meth c H locs ls2 hX hW hS hl2)
theorem V.istore {i : Nat} {x : Int32} {lv2 : List (Nat × Value)} (hd : decode cc pc = .ok (.istore i, 2)) (hn : i < nL) (hf : (i, Value.int x) :: lv.filter (fun q => !(q.1 == i) && !(q.1 + 1 == i && q.2.category == 2)) = lv2) (kk : V E l y cc nL ret R Z L h k n vw (pc + 2) lv2 st) : V E l y cc nL ret R Z L h k n vw pc lv (.int x :: st) := by
  intro hv p e s m args below meth c H locs ls hX hW hS hl
  exact lv_istore hX.1 hX.2.1 hd hl hn hf (fun ls2 hl2 => kk hv p e s m args below meth c H locs ls2 hX hW hS hl2)
theorem V.astore_n {j : Fin 4} {i : Nat} {x : Nat} {lv2 : List (Nat × Value)} (hd : decode cc pc = .ok (.astore_n j, 1)) (hi : (j : Nat) = i) (hn : i < nL) (hf : (i, Value.ref x) :: lv.filter (fun q => !(q.1 == i) && !(q.1 + 1 == i && q.2.category == 2)) = lv2) (kk : V E l y cc nL ret R Z L h k n vw (pc + 1) lv2 st) : V E l y cc nL ret R Z L h k n vw pc lv (.ref x :: st) := by
  intro hv p e s m args below meth c H locs ls hX hW hS hl
  exact lv_astore_n hX.1 hX.2.1 hd hi hl hn hf (fun ls2 hl2 => kk hv p e s m args below meth c H locs ls2 hX hW hS hl2)
theorem V.astore {i : Nat} {x : Nat} {lv2 : List (Nat × Value)} (hd : decode cc pc = .ok (.astore i, 2)) (hn : i < nL) (hf : (i, Value.ref x) :: lv.filter (fun q => !(q.1 == i) && !(q.1 + 1 == i && q.2.category == 2)) = lv2) (kk : V E l y cc nL ret R Z L h k n vw (pc + 2) lv2 st) : V E l y cc nL ret R Z L h k n vw pc lv (.ref x :: st) := by
  intro hv p e s m args below meth c H locs ls hX hW hS hl
  exact lv_astore hX.1 hX.2.1 hd hl hn hf (fun ls2 hl2 => kk hv p e s m args below meth c H locs ls2 hX hW hS hl2)
theorem V.astore_nN {j : Fin 4} {i : Nat}  {lv2 : List (Nat × Value)} (hd : decode cc pc = .ok (.astore_n j, 1)) (hi : (j : Nat) = i) (hn : i < nL) (hf : (i, Value.null) :: lv.filter (fun q => !(q.1 == i) && !(q.1 + 1 == i && q.2.category == 2)) = lv2) (kk : V E l y cc nL ret R Z L h k n vw (pc + 1) lv2 st) : V E l y cc nL ret R Z L h k n vw pc lv (.null :: st) := by
  intro hv p e s m args below meth c H locs ls hX hW hS hl
  exact lv_astore_nN hX.1 hX.2.1 hd hi hl hn hf (fun ls2 hl2 => kk hv p e s m args below meth c H locs ls2 hX hW hS hl2)
theorem V.iinc {i : Nat} {d : Int} {x v : Int32} {lv2 : List (Nat × Value)} (hd : decode cc pc = .ok (.iinc i d, 3)) (j : Nat) (hj : lv[j]? = some (i, .int x)) (hvv : x + Int32.ofInt d = v) (hn : i < nL) (hf : (i, Value.int v) :: lv.filter (fun q => !(q.1 == i) && !(q.1 + 1 == i && q.2.category == 2)) = lv2) (kk : V E l y cc nL ret R Z L h k n vw (pc + 3) lv2 st) : V E l y cc nL ret R Z L h k n vw pc lv st := by
  intro hv p e s m args below meth c H locs ls hX hW hS hl
  exact lv_iinc hX.1 hX.2.1 hd hl hj hvv hn hf (fun ls2 hl2 => kk hv p e s m args below meth c H locs ls2 hX hW hS hl2)
theorem V.if_eq {x : Int32} {off : Int} {tgt : Nat} (hd : decode cc pc = .ok (.ifCond .eq off, 3)) (ht : (pc : Int) + off = (tgt : Int)) (kt : x = 0 → V E l y cc nL ret R Z L h k n vw tgt lv st) (kf : ¬ x = 0 → V E l y cc nL ret R Z L h k n vw (pc + 3) lv st) : V E l y cc nL ret R Z L h k n vw pc lv (.int x :: st) := by
  intro hv p e s m args below meth c H locs ls hX hW hS hl
  exact lv_if_eq hX.1 hX.2.1 hd ht (fun hc => kt hc hv p e s m args below meth c H locs ls hX hW hS hl) (fun hc => kf hc hv p e s m args below meth c H locs ls hX hW hS hl)
theorem V.if_ne {x : Int32} {off : Int} {tgt : Nat} (hd : decode cc pc = .ok (.ifCond .ne off, 3)) (ht : (pc : Int) + off = (tgt : Int)) (kt : x ≠ 0 → V E l y cc nL ret R Z L h k n vw tgt lv st) (kf : x = 0 → V E l y cc nL ret R Z L h k n vw (pc + 3) lv st) : V E l y cc nL ret R Z L h k n vw pc lv (.int x :: st) := by
  intro hv p e s m args below meth c H locs ls hX hW hS hl
  exact lv_if_ne hX.1 hX.2.1 hd ht (fun hc => kt hc hv p e s m args below meth c H locs ls hX hW hS hl) (fun hc => kf hc hv p e s m args below meth c H locs ls hX hW hS hl)
theorem V.if_lt {x : Int32} {off : Int} {tgt : Nat} (hd : decode cc pc = .ok (.ifCond .lt off, 3)) (ht : (pc : Int) + off = (tgt : Int)) (kt : x < 0 → V E l y cc nL ret R Z L h k n vw tgt lv st) (kf : ¬ x < 0 → V E l y cc nL ret R Z L h k n vw (pc + 3) lv st) : V E l y cc nL ret R Z L h k n vw pc lv (.int x :: st) := by
  intro hv p e s m args below meth c H locs ls hX hW hS hl
  exact lv_if_lt hX.1 hX.2.1 hd ht (fun hc => kt hc hv p e s m args below meth c H locs ls hX hW hS hl) (fun hc => kf hc hv p e s m args below meth c H locs ls hX hW hS hl)
theorem V.if_ge {x : Int32} {off : Int} {tgt : Nat} (hd : decode cc pc = .ok (.ifCond .ge off, 3)) (ht : (pc : Int) + off = (tgt : Int)) (kt : 0 ≤ x → V E l y cc nL ret R Z L h k n vw tgt lv st) (kf : ¬ 0 ≤ x → V E l y cc nL ret R Z L h k n vw (pc + 3) lv st) : V E l y cc nL ret R Z L h k n vw pc lv (.int x :: st) := by
  intro hv p e s m args below meth c H locs ls hX hW hS hl
  exact lv_if_ge hX.1 hX.2.1 hd ht (fun hc => kt hc hv p e s m args below meth c H locs ls hX hW hS hl) (fun hc => kf hc hv p e s m args below meth c H locs ls hX hW hS hl)
theorem V.if_gt {x : Int32} {off : Int} {tgt : Nat} (hd : decode cc pc = .ok (.ifCond .gt off, 3)) (ht : (pc : Int) + off = (tgt : Int)) (kt : 0 < x → V E l y cc nL ret R Z L h k n vw tgt lv st) (kf : ¬ 0 < x → V E l y cc nL ret R Z L h k n vw (pc + 3) lv st) : V E l y cc nL ret R Z L h k n vw pc lv (.int x :: st) := by
  intro hv p e s m args below meth c H locs ls hX hW hS hl
  exact lv_if_gt hX.1 hX.2.1 hd ht (fun hc => kt hc hv p e s m args below meth c H locs ls hX hW hS hl) (fun hc => kf hc hv p e s m args below meth c H locs ls hX hW hS hl)
theorem V.if_le {x : Int32} {off : Int} {tgt : Nat} (hd : decode cc pc = .ok (.ifCond .le off, 3)) (ht : (pc : Int) + off = (tgt : Int)) (kt : x ≤ 0 → V E l y cc nL ret R Z L h k n vw tgt lv st) (kf : ¬ x ≤ 0 → V E l y cc nL ret R Z L h k n vw (pc + 3) lv st) : V E l y cc nL ret R Z L h k n vw pc lv (.int x :: st) := by
  intro hv p e s m args below meth c H locs ls hX hW hS hl
  exact lv_if_le hX.1 hX.2.1 hd ht (fun hc => kt hc hv p e s m args below meth c H locs ls hX hW hS hl) (fun hc => kf hc hv p e s m args below meth c H locs ls hX hW hS hl)
theorem V.icmp_eq {x z : Int32} {off : Int} {tgt : Nat} (hd : decode cc pc = .ok (.if_icmp .eq off, 3)) (ht : (pc : Int) + off = (tgt : Int)) (kt : x = z → V E l y cc nL ret R Z L h k n vw tgt lv st) (kf : ¬ x = z → V E l y cc nL ret R Z L h k n vw (pc + 3) lv st) : V E l y cc nL ret R Z L h k n vw pc lv (.int z :: .int x :: st) := by
  intro hv p e s m args below meth c H locs ls hX hW hS hl
  exact lv_icmp_eq hX.1 hX.2.1 hd ht (fun hc => kt hc hv p e s m args below meth c H locs ls hX hW hS hl) (fun hc => kf hc hv p e s m args below meth c H locs ls hX hW hS hl)
theorem V.icmp_ne {x z : Int32} {off : Int} {tgt : Nat} (hd : decode cc pc = .ok (.if_icmp .ne off, 3)) (ht : (pc : Int) + off = (tgt : Int)) (kt : x ≠ z → V E l y cc nL ret R Z L h k n vw tgt lv st) (kf : x = z → V E l y cc nL ret R Z L h k n vw (pc + 3) lv st) : V E l y cc nL ret R Z L h k n vw pc lv (.int z :: .int x :: st) := by
  intro hv p e s m args below meth c H locs ls hX hW hS hl
  exact lv_icmp_ne hX.1 hX.2.1 hd ht (fun hc => kt hc hv p e s m args below meth c H locs ls hX hW hS hl) (fun hc => kf hc hv p e s m args below meth c H locs ls hX hW hS hl)
theorem V.icmp_lt {x z : Int32} {off : Int} {tgt : Nat} (hd : decode cc pc = .ok (.if_icmp .lt off, 3)) (ht : (pc : Int) + off = (tgt : Int)) (kt : x < z → V E l y cc nL ret R Z L h k n vw tgt lv st) (kf : ¬ x < z → V E l y cc nL ret R Z L h k n vw (pc + 3) lv st) : V E l y cc nL ret R Z L h k n vw pc lv (.int z :: .int x :: st) := by
  intro hv p e s m args below meth c H locs ls hX hW hS hl
  exact lv_icmp_lt hX.1 hX.2.1 hd ht (fun hc => kt hc hv p e s m args below meth c H locs ls hX hW hS hl) (fun hc => kf hc hv p e s m args below meth c H locs ls hX hW hS hl)
theorem V.icmp_ge {x z : Int32} {off : Int} {tgt : Nat} (hd : decode cc pc = .ok (.if_icmp .ge off, 3)) (ht : (pc : Int) + off = (tgt : Int)) (kt : z ≤ x → V E l y cc nL ret R Z L h k n vw tgt lv st) (kf : ¬ z ≤ x → V E l y cc nL ret R Z L h k n vw (pc + 3) lv st) : V E l y cc nL ret R Z L h k n vw pc lv (.int z :: .int x :: st) := by
  intro hv p e s m args below meth c H locs ls hX hW hS hl
  exact lv_icmp_ge hX.1 hX.2.1 hd ht (fun hc => kt hc hv p e s m args below meth c H locs ls hX hW hS hl) (fun hc => kf hc hv p e s m args below meth c H locs ls hX hW hS hl)
theorem V.icmp_gt {x z : Int32} {off : Int} {tgt : Nat} (hd : decode cc pc = .ok (.if_icmp .gt off, 3)) (ht : (pc : Int) + off = (tgt : Int)) (kt : z < x → V E l y cc nL ret R Z L h k n vw tgt lv st) (kf : ¬ z < x → V E l y cc nL ret R Z L h k n vw (pc + 3) lv st) : V E l y cc nL ret R Z L h k n vw pc lv (.int z :: .int x :: st) := by
  intro hv p e s m args below meth c H locs ls hX hW hS hl
  exact lv_icmp_gt hX.1 hX.2.1 hd ht (fun hc => kt hc hv p e s m args below meth c H locs ls hX hW hS hl) (fun hc => kf hc hv p e s m args below meth c H locs ls hX hW hS hl)
theorem V.icmp_le {x z : Int32} {off : Int} {tgt : Nat} (hd : decode cc pc = .ok (.if_icmp .le off, 3)) (ht : (pc : Int) + off = (tgt : Int)) (kt : x ≤ z → V E l y cc nL ret R Z L h k n vw tgt lv st) (kf : ¬ x ≤ z → V E l y cc nL ret R Z L h k n vw (pc + 3) lv st) : V E l y cc nL ret R Z L h k n vw pc lv (.int z :: .int x :: st) := by
  intro hv p e s m args below meth c H locs ls hX hW hS hl
  exact lv_icmp_le hX.1 hX.2.1 hd ht (fun hc => kt hc hv p e s m args below meth c H locs ls hX hW hS hl) (fun hc => kf hc hv p e s m args below meth c H locs ls hX hW hS hl)
theorem V.goto  {off : Int} {tgt : Nat} (hd : decode cc pc = .ok (.goto off, 3)) (ht : (pc : Int) + off = (tgt : Int)) (kk : V E l y cc nL ret R Z L h k n vw tgt lv st) : V E l y cc nL ret R Z L h k n vw pc lv st := by
  intro hv p e s m args below meth c H locs ls hX hW hS hl
  exact lv_goto hX.1 hX.2.1 hd ht (kk hv p e s m args below meth c H locs ls hX hW hS hl)
theorem V.ifnonnull {x : Nat} {off : Int} {tgt : Nat} (hd : decode cc pc = .ok (.ifnonnull off, 3)) (ht : (pc : Int) + off = (tgt : Int)) (kk : V E l y cc nL ret R Z L h k n vw tgt lv st) : V E l y cc nL ret R Z L h k n vw pc lv (.ref x :: st) := by
  intro hv p e s m args below meth c H locs ls hX hW hS hl
  exact lv_ifnonnull hX.1 hX.2.1 hd ht (kk hv p e s m args below meth c H locs ls hX hW hS hl)
theorem V.ifnonnullN {off : Int} (hd : decode cc pc = .ok (.ifnonnull off, 3)) (kk : V E l y cc nL ret R Z L h k n vw (pc + 3) lv st) : V E l y cc nL ret R Z L h k n vw pc lv (.null :: st) := by
  intro hv p e s m args below meth c H locs ls hX hW hS hl
  exact lv_ifnonnullN hX.1 hX.2.1 hd (kk hv p e s m args below meth c H locs ls hX hW hS hl)
theorem V.ifnull {x : Nat} {off : Int} (hd : decode cc pc = .ok (.ifnull off, 3)) (kk : V E l y cc nL ret R Z L h k n vw (pc + 3) lv st) : V E l y cc nL ret R Z L h k n vw pc lv (.ref x :: st) := by
  intro hv p e s m args below meth c H locs ls hX hW hS hl
  exact lv_ifnull hX.1 hX.2.1 hd (kk hv p e s m args below meth c H locs ls hX hW hS hl)
theorem V.ifnullN  {off : Int} {tgt : Nat} (hd : decode cc pc = .ok (.ifnull off, 3)) (ht : (pc : Int) + off = (tgt : Int)) (kk : V E l y cc nL ret R Z L h k n vw tgt lv st) : V E l y cc nL ret R Z L h k n vw pc lv (.null :: st) := by
  intro hv p e s m args below meth c H locs ls hX hW hS hl
  exact lv_ifnullN hX.1 hX.2.1 hd ht (kk hv p e s m args below meth c H locs ls hX hW hS hl)
theorem V.lookup {dflt : Int} {ps : Array (Int × Int)} {len : Nat} {x : Int32} {off : Int} {tgt : Nat} (hd : decode cc pc = .ok (.lookupswitch dflt ps, len)) (hp : (ps.toList.zip (ps.toList.drop 1)).all (fun (a, next) => a.1 < next.1) = true) (ho : Op.lookupswitch.offset ps.toList dflt x.toInt = off) (ht : (pc : Int) + off = (tgt : Int)) (kk : V E l y cc nL ret R Z L h k n vw tgt lv st) : V E l y cc nL ret R Z L h k n vw pc lv (.int x :: st) := by
  intro hv p e s m args below meth c H locs ls hX hW hS hl
  exact lv_lookup hX.1 hX.2.1 hd hp ho ht (kk hv p e s m args below meth c H locs ls hX hW hS hl)
theorem V.tableOut {dflt lo hi : Int} {offs : Array Int} {len : Nat} {x : Int32} {tgt : Nat} (hd : decode cc pc = .ok (.tableswitch dflt lo hi offs, len)) (ho : x.toInt < lo ∨ hi < x.toInt) (ht : (pc : Int) + dflt = (tgt : Int)) (kk : V E l y cc nL ret R Z L h k n vw tgt lv st) : V E l y cc nL ret R Z L h k n vw pc lv (.int x :: st) := by
  intro hv p e s m args below meth c H locs ls hX hW hS hl
  exact lv_tableOut hX.1 hX.2.1 hd ho ht (kk hv p e s m args below meth c H locs ls hX hW hS hl)
theorem V.tableIn {dflt lo hi : Int} {offs : Array Int} {len : Nat} {x : Int32} {off : Int} {tgt : Nat} (hd : decode cc pc = .ok (.tableswitch dflt lo hi offs, len)) (h1 : ¬ x.toInt < lo) (h2 : ¬ hi < x.toInt) (ho : offs[(x.toInt - lo).toNat]? = some off) (ht : (pc : Int) + off = (tgt : Int)) (kk : V E l y cc nL ret R Z L h k n vw tgt lv st) : V E l y cc nL ret R Z L h k n vw pc lv (.int x :: st) := by
  intro hv p e s m args below meth c H locs ls hX hW hS hl
  exact lv_tableIn hX.1 hX.2.1 hd h1 h2 ho ht (kk hv p e s m args below meth c H locs ls hX hW hS hl)
end
