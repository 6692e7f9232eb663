/-! the texts that the class holds: their length, their letters (the library's own methods, walked) -/
def sLen (i : Nat) : Nat := (strs.map (fun q => q.2.2.length)).getD i 0
def sAt (i j : Nat) : Int32 := ((strs.map (fun q => q.2.2)).getD i []).getD j 0
theorem sAt_ok : ∀ i, i < 9 → ∀ j, j < sLen i → (((sAt i j) &&& 255).toUInt32 % 65536).toInt32 = sAt i j ∧ narrow .char (.int (sAt i j)) = .int (sAt i j) ∧ sLen i ≤ 7 := by decide +kernel
section
variable {E : vEnv} {l : Launch} {y : MethodName} {cc : ByteArray} {nL : Nat} {ret : Option FieldType} {R : Room} {Z : List Frame → Array Value → State → State → Prop} {L : List Nat} {h : Nat → va_E} {k n : Nat} {vw : List (Nat × va_E)} {pc : Nat} {lv : List (Nat × Value)} {st : List Value}
variable {y2 : MethodName} {b2 : ByteArray} {nL2 : Nat} {ret2 : Option FieldType} {na d mc ms index a : Nat} {As rest : List Value}
theorem V.kCoder {i : Nat} (hi : i < 9) (hlink : Cond.fieldLink y.cls index "java/lang/String" "coder" "B" ∈ wsAll) (hd : decode cc pc = .ok (.getfield index, 3)) (kk : V E l y cc nL ret R Z L h k n vw (pc + 3) lv (.int 0 :: st)) : V E l y cc nL ret R Z L h k n vw pc lv (.ref (eK E i) :: st) := by
  intro hv p1 e s m args below meth c H locs ls hX hW hS hl
  have hK := hX.2.2.2.2.2.2.2.2.2.2.2.1.2.2.2.2.2.2.2.2.2
  exact vk_getf hX.1 hX.2.1 (hK.1 i hi).2.1 hS hX.2.2.2.2.1 (hX.2.2.2.2.2.1 _ hlink) (fun _ h9 => h9) hd (kk hv p1 e s m args below meth c H locs ls hX hW hS hl)
theorem V.kValue {i : Nat} (hi : i < 9) (hlink : Cond.fieldLink y.cls index "java/lang/String" "value" "[B" ∈ wsAll) (hd : decode cc pc = .ok (.getfield index, 3)) (kk : V E l y cc nL ret R Z L h k n vw (pc + 3) lv (.ref (eV E i) :: st)) : V E l y cc nL ret R Z L h k n vw pc lv (.ref (eK E i) :: st) := by
  intro hv p1 e s m args below meth c H locs ls hX hW hS hl
  have hK := hX.2.2.2.2.2.2.2.2.2.2.2.1.2.2.2.2.2.2.2.2.2
  exact vk_getf hX.1 hX.2.1 (hK.1 i hi).2.2.1 hS hX.2.2.2.2.1 (hX.2.2.2.2.2.1 _ hlink) (fun _ h9 => h9) hd (kk hv p1 e s m args below meth c H locs ls hX hW hS hl)
theorem V.kCompact (hlink : Cond.fieldLink y.cls index "java/lang/String" "COMPACT_STRINGS" "Z" ∈ wsAll) (hd : decode cc pc = .ok (.getstatic index, 3)) (kk : V E l y cc nL ret R Z L h k n vw (pc + 3) lv (.int 1 :: st)) : V E l y cc nL ret R Z L h k n vw pc lv st := by
  intro hv p1 e s m args below meth c H locs ls hX hW hS hl
  have hF := hX.2.2.2.2.2.2.2.2.2.2
  exact va_gets hX.1 hX.2.1 hF.2.1.2.2.2.2.2.2.2.1 hS hX.2.2.2.2.1 (hX.2.2.2.2.2.1 _ hlink) (fun _ h9 => h9) hd (kk hv p1 e s m args below meth c H locs ls hX hW hS hl)
theorem V.kForm (hlink : Cond.fieldLink y.cls index "jdk/internal/util/Preconditions" "SIOOBE_FORMATTER" "Ljava/util/function/BiFunction;" ∈ wsAll) (hd : decode cc pc = .ok (.getstatic index, 3)) (kn : V E l y cc nL ret R Z L h k n vw (pc + 3) lv (.null :: st)) (kr : ∀ t : Nat, V E l y cc nL ret R Z L h k n vw (pc + 3) lv (.ref t :: st)) : V E l y cc nL ret R Z L h k n vw pc lv st := by
  intro hv p1 e s m args below meth c H locs ls hX hW hS hl
  have hF := hX.2.2.2.2.2.2.2.2.2.2
  rcases hF.2.1.2.2.2.2.2.2.2.2.1 with hz | ⟨t, hz⟩
  · exact va_gets hX.1 hX.2.1 hz hS hX.2.2.2.2.1 (hX.2.2.2.2.2.1 _ hlink) (fun _ h9 => h9) hd (kn hv p1 e s m args below meth c H locs ls hX hW hS hl)
  · exact va_gets hX.1 hX.2.1 hz hS hX.2.2.2.2.1 (hX.2.2.2.2.2.1 _ hlink) (fun _ h9 => h9) hd (kr t hv p1 e s m args below meth c H locs ls hX hW hS hl)
theorem V.kLen {i : Nat} (hi : i < 9) (hd : decode cc pc = .ok (.arraylength, 1)) (kk : V E l y cc nL ret R Z L h k n vw (pc + 1) lv (.int (nI (sLen i)) :: st)) : V E l y cc nL ret R Z L h k n vw pc lv (.ref (eV E i) :: st) := by
  intro hv p1 e s m args below meth c H locs ls hX hW hS hl
  have hK := hX.2.2.2.2.2.2.2.2.2.2.2.1.2.2.2.2.2.2.2.2.2
  exact va_tlen hX.1 hX.2.1 (hK.1 i hi).2.2.2 hS rfl hd (kk hv p1 e s m args below meth c H locs ls hX hW hS hl)
theorem V.kByte {i j : Nat} (hi : i < 9) (hj : j < sLen i) (hd : decode cc pc = .ok (.baload, 1)) (kk : V E l y cc nL ret R Z L h k n vw (pc + 1) lv (.int (sAt i j) :: st)) : V E l y cc nL ret R Z L h k n vw pc lv (.int (nI j) :: .ref (eV E i) :: st) := by
  intro hv p1 e s m args below meth c H locs ls hX hW hS hl
  have hK := hX.2.2.2.2.2.2.2.2.2.2.2.1.2.2.2.2.2.2.2.2.2
  have h7 := (sAt_ok i hi j hj).2.2
  exact va_tb hX.1 hX.2.1 (hK.1 i hi).2.2.2 hS (vinI (n := sLen i) hj (by omega)) (by rw [nI_clamp (by omega)]; rfl) hd (kk hv p1 e s m args below meth c H locs ls hX hW hS hl)
theorem V.callK {i : Nat} (hi : i < 9) {r : Int32} (hM : CT E l y2 b2 nL2 ret2 d 0 0 L (ov vw h) [] (.ref (eK E i) :: As) (qP L (ov vw h) (fun _ : Unit => []) (fun _ => some (.int r)) (fun _ => True))) (mi : MI y2 b2 nL2 ret2 na) (hlink : Cond.methodLink y.cls index y2 ∈ wsAll) (hinst : Cond.instanceMethod y2 ∈ wsAll) (hsel : Cond.selects "java/lang/String" y2 y2 ∈ wsAll) (hAs : As.length = na) (hst : st = As.reverse ++ .ref (eK E i) :: rest) (hw : (rest.map fun v => v.category).sum ≤ 8) (hR : d + 1 ≤ R.frames ∧ 8 + (nL2 + 11) + 36 * d ≤ R.locals) (hf : k + 0 ≤ R.cells ∧ n + 0 ≤ R.slots) (hd : decode cc pc = .ok (.invokevirtual index, 3))
    (kk : V E l y cc nL ret R Z L h k n vw (pc + 3) lv (.int r :: rest)) : V E l y cc nL ret R Z L h k n vw pc lv st := by
  intro hv p1 e s m args below meth c H locs ls hX hW hS hl
  have hts := hX.2.2.2.2.2.1
  have hK := hX.2.2.2.2.2.2.2.2.2.2.2.1.2.2.2.2.2.2.2.2.2
  have hM2 := hM VK.nil
  refine wAfter (rest := rest) (va_runV (As := As) (rest := rest) ⟨hX.1, hX.2.1, hX.2.2.2.1, hX.2.2.2.2.1, hts⟩ hM2 ⟨callBof hts mi hlink hR, hts _ hinst, hts _ hsel⟩ ⟨pcE_blind, vk_recv hK hi hS, pcE_in hX.2.2.2.2.2.2.1 hW hS hX.2.2.2.2.2.2.2.2.2.1 hX.2.2.2.2.2.2.2.2.2.2⟩ rfl hAs hl.1 hst (lv_room hw) hd hf) hS (fun r' L' h' H1 locs1 q1 q2 q3 => ?_)
  obtain ⟨u, rfl, rfl, rfl, -⟩ := q1
  exact kk hv p1 e s m args below meth c H1 locs1 ls hX q2 q3 hl
end
set_option maxHeartbeats 4000000 in
set_option maxRecDepth 100000 in
theorem c_coder (E : vEnv) (l : Launch) (L : List Nat) (h : Nat → va_E) (i : Nat) (hi : i < 9) : CT E l yJ0_coder_7d493 cJ0_coder_7d493 1 (some .byte) 0 0 0 L h [] [.ref (eK E i)] (qP L h (fun _ : Unit => []) (fun _ => some (.int 0)) (fun _ => True)) := by
  refine CT.ofV (by decide +kernel) (Nat.le_of_ble_eq_true rfl) ?_
  refine V.locals2 (lv2 := [(0, .ref (eK E i))]) rfl ?_
  refine V.kCompact w_320 dJ0_coder_7d493_0 ?_
  refine V.if_eq (tgt := 13) dJ0_coder_7d493_3 (by decide) (fun hc => absurd hc (by decide)) (fun _ => ?_)
  refine V.aload_n dJ0_coder_7d493_6 0 rfl ?_
  refine V.kCoder hi w_1029 dJ0_coder_7d493_7 ?_
  refine V.goto (tgt := 14) dJ0_coder_7d493_10 (by decide) ?_
  exact V.zret rfl rfl dJ0_coder_7d493_14 ⟨(), rfl, rfl, rfl, trivial⟩
set_option maxHeartbeats 4000000 in
set_option maxRecDepth 100000 in
theorem c_isLatin1 (E : vEnv) (l : Launch) (L : List Nat) (h : Nat → va_E) (i : Nat) (hi : i < 9) : CT E l yJ0_isLatin1_aae02 cJ0_isLatin1_aae02 1 (some .boolean) 0 0 0 L h [] [.ref (eK E i)] (qP L h (fun _ : Unit => []) (fun _ => some (.int 1)) (fun _ => True)) := by
  refine CT.ofV (by decide +kernel) (Nat.le_of_ble_eq_true rfl) ?_
  refine V.locals2 (lv2 := [(0, .ref (eK E i))]) rfl ?_
  refine V.kCompact w_320 dJ0_isLatin1_aae02_0 ?_
  refine V.if_eq (tgt := 17) dJ0_isLatin1_aae02_3 (by decide) (fun hc => absurd hc (by decide)) (fun _ => ?_)
  refine V.aload_n dJ0_isLatin1_aae02_6 0 rfl ?_
  refine V.kCoder hi w_1029 dJ0_isLatin1_aae02_7 ?_
  refine V.if_ne (tgt := 17) dJ0_isLatin1_aae02_10 (by decide) (fun hc => absurd rfl hc) (fun _ => ?_)
  refine V.iconst (v := 1) dJ0_isLatin1_aae02_13 (by decide) ?_
  refine V.goto (tgt := 18) dJ0_isLatin1_aae02_14 (by decide) ?_
  exact V.zret rfl rfl dJ0_isLatin1_aae02_18 ⟨(), rfl, rfl, rfl, trivial⟩
set_option maxHeartbeats 4000000 in
set_option maxRecDepth 100000 in
theorem c_slen (E : vEnv) (l : Launch) (L : List Nat) (h : Nat → va_E) (i : Nat) (hi : i < 9) : CT E l yJ0_length_8abf5 cJ0_length_8abf5 1 (some .int) 1 0 0 L h [] [.ref (eK E i)] (qP L h (fun _ : Unit => []) (fun _ => some (.int (nI (sLen i)))) (fun _ => True)) := by
  refine CT.ofV (by decide +kernel) (Nat.le_of_ble_eq_true rfl) ?_
  refine V.locals2 (lv2 := [(0, .ref (eK E i))]) rfl ?_
  refine V.aload_n dJ0_length_8abf5_0 0 rfl ?_
  refine V.kValue hi w_1028 dJ0_length_8abf5_1 ?_
  refine V.kLen hi dJ0_length_8abf5_4 ?_
  refine V.aload_n dJ0_length_8abf5_5 0 rfl ?_
  refine V.callK hi (As := []) (rest := [.int (nI (sLen i))]) (c_coder E l L _ i hi) mi_J0_coder_7d493 w_316 w_317 w_318 rfl rfl (Nat.le_of_ble_eq_true rfl) ⟨by decide, by decide⟩ ⟨by decide, by decide⟩ dJ0_length_8abf5_6 ?_
  refine V.ishr dJ0_length_8abf5_9 ?_
  refine V.topc (v := nI (sLen i)) (sb_shr0 _) ?_
  exact V.iret rfl dJ0_length_8abf5_10 ⟨(), rfl, rfl, rfl, trivial⟩
set_option maxHeartbeats 4000000 in
set_option maxRecDepth 100000 in
theorem c_pcheck (E : vEnv) (l : Launch) (L : List Nat) (h : Nat → va_E) (j n : Nat) (v : Value) (hj : j < n) (hn : n ≤ 7) (hv : v = .null ∨ ∃ t, v = .ref t) : CT E l yJ3_checkIndex_8e157 cJ3_checkIndex_8e157 3 (some .int) 0 0 0 L h [] [.int (nI j), .int (nI n), v] (qP L h (fun _ : Unit => []) (fun _ => some (.int (nI j))) (fun _ => True)) := by
  have h1 : lv_args 0 [.int (nI j), .int (nI n), v] = [(0, .int (nI j)), (1, .int (nI n)), (2, v)] := rfl
  refine CT.ofV (by decide +kernel) (by rcases hv with rfl | ⟨t, rfl⟩ <;> exact Nat.le_of_ble_eq_true rfl) ?_
  refine V.locals2 h1 ?_
  refine V.iload_n dJ3_checkIndex_8e157_0 0 rfl ?_
  refine V.if_lt (tgt := 9) dJ3_checkIndex_8e157_1 (by decide) (fun hc => absurd hc (nI_pos (by omega))) (fun _ => ?_)
  refine V.iload_n dJ3_checkIndex_8e157_4 0 rfl ?_
  refine V.iload_n dJ3_checkIndex_8e157_5 1 rfl ?_
  refine V.icmp_lt (tgt := 16) dJ3_checkIndex_8e157_6 (by decide) (fun _ => ?_) (fun hc => absurd (nI_lt hj (by omega)) hc)
  refine V.iload_n dJ3_checkIndex_8e157_16 0 rfl ?_
  exact V.iret rfl dJ3_checkIndex_8e157_17 ⟨(), rfl, rfl, rfl, trivial⟩
set_option maxHeartbeats 4000000 in
set_option maxRecDepth 100000 in
theorem c_scheck (E : vEnv) (l : Launch) (L : List Nat) (h : Nat → va_E) (j n : Nat) (hj : j < n) (hn : n ≤ 7) : CT E l yJ0_checkIndex_df160 cJ0_checkIndex_df160 2 none 1 0 0 L h [] [.int (nI j), .int (nI n)] (qP L h (fun _ : Unit => []) (fun _ => none) (fun _ => True)) := by
  refine CT.ofV (by decide +kernel) (Nat.le_of_ble_eq_true rfl) ?_
  refine V.locals2 (lv2 := [(0, .int (nI j)), (1, .int (nI n))]) rfl ?_
  refine V.iload_n dJ0_checkIndex_df160_0 0 rfl ?_
  refine V.iload_n dJ0_checkIndex_df160_1 1 rfl ?_
  refine V.kForm w_336 dJ0_checkIndex_df160_2 ?_ (fun t => ?_)
  · refine V.callSp (As := [.int (nI j), .int (nI n), .null]) (rest := []) [] (c_pcheck E l L _ j n .null hj hn (Or.inl rfl)) rfl (by decide) mi_J3_checkIndex_8e157 w_338 w_339 rfl rfl (Nat.le_of_ble_eq_true rfl) ⟨by decide, by decide⟩ ⟨by decide, by decide⟩ dJ0_checkIndex_df160_5 (vw2 := fun _ => []) (st2 := fun _ => [.int (nI j)]) (fun _ => rfl) (fun _ => rfl) (fun _ => rfl) (fun _ _ => ?_)
    refine V.pop dJ0_checkIndex_df160_8 rfl ?_
    exact V.vret rfl dJ0_checkIndex_df160_9 ⟨(), rfl, rfl, rfl, trivial⟩
  · refine V.callSp (As := [.int (nI j), .int (nI n), .ref t]) (rest := []) [] (c_pcheck E l L _ j n (.ref t) hj hn (Or.inr ⟨t, rfl⟩)) rfl (by decide) mi_J3_checkIndex_8e157 w_338 w_339 rfl rfl (Nat.le_of_ble_eq_true rfl) ⟨by decide, by decide⟩ ⟨by decide, by decide⟩ dJ0_checkIndex_df160_5 (vw2 := fun _ => []) (st2 := fun _ => [.int (nI j)]) (fun _ => rfl) (fun _ => rfl) (fun _ => rfl) (fun _ _ => ?_)
    refine V.pop dJ0_checkIndex_df160_8 rfl ?_
    exact V.vret rfl dJ0_checkIndex_df160_9 ⟨(), rfl, rfl, rfl, trivial⟩
set_option maxHeartbeats 4000000 in
set_option maxRecDepth 100000 in
theorem c_lchar (E : vEnv) (l : Launch) (L : List Nat) (h : Nat → va_E) (i j : Nat) (hi : i < 9) (hj : j < sLen i) : CT E l yJ1_charAt_3b067 cJ1_charAt_3b067 2 (some .char) 2 0 0 L h [] [.ref (eV E i), .int (nI j)] (qP L h (fun _ : Unit => []) (fun _ => some (.int (sAt i j))) (fun _ => True)) := by
  have h7 := sAt_ok i hi j hj
  refine CT.ofV (by decide +kernel) (Nat.le_of_ble_eq_true rfl) ?_
  refine V.locals2 (lv2 := [(0, .ref (eV E i)), (1, .int (nI j))]) rfl ?_
  refine V.iload_n dJ1_charAt_3b067_0 1 rfl ?_
  refine V.aload_n dJ1_charAt_3b067_1 0 rfl ?_
  refine V.kLen hi dJ1_charAt_3b067_2 ?_
  refine V.callSp (As := [.int (nI j), .int (nI (sLen i))]) (rest := []) [] (c_scheck E l L _ j (sLen i) hj h7.2.2) rfl (by decide) mi_J0_checkIndex_df160 w_333 w_334 rfl rfl (Nat.le_of_ble_eq_true rfl) ⟨by decide, by decide⟩ ⟨by decide, by decide⟩ dJ1_charAt_3b067_3 (vw2 := fun _ => []) (st2 := fun _ => []) (fun _ => rfl) (fun _ => rfl) (fun _ => rfl) (fun _ _ => ?_)
  refine V.aload_n dJ1_charAt_3b067_6 0 rfl ?_
  refine V.iload_n dJ1_charAt_3b067_7 1 rfl ?_
  refine V.kByte hi hj dJ1_charAt_3b067_8 ?_
  refine V.sipush (v := 255) dJ1_charAt_3b067_9 (by decide) ?_
  refine V.iand dJ1_charAt_3b067_12 ?_
  refine V.i2c dJ1_charAt_3b067_13 h7.1 ?_
  exact V.zret rfl h7.2.1 dJ1_charAt_3b067_14 ⟨(), rfl, rfl, rfl, trivial⟩
set_option maxHeartbeats 4000000 in
set_option maxRecDepth 100000 in
theorem c_schar (E : vEnv) (l : Launch) (L : List Nat) (h : Nat → va_E) (i j : Nat) (hi : i < 9) (hj : j < sLen i) : CT E l yJ0_charAt_5068e cJ0_charAt_5068e 2 (some .char) 3 0 0 L h [] [.ref (eK E i), .int (nI j)] (qP L h (fun _ : Unit => []) (fun _ => some (.int (sAt i j))) (fun _ => True)) := by
  have h7 := sAt_ok i hi j hj
  refine CT.ofV (by decide +kernel) (Nat.le_of_ble_eq_true rfl) ?_
  refine V.locals2 (lv2 := [(0, .ref (eK E i)), (1, .int (nI j))]) rfl ?_
  refine V.aload_n dJ0_charAt_5068e_0 0 rfl ?_
  refine V.callK hi (As := []) (rest := []) (c_isLatin1 E l L _ i hi) mi_J0_isLatin1_aae02 w_326 w_327 w_328 rfl rfl (Nat.le_of_ble_eq_true rfl) ⟨by decide, by decide⟩ ⟨by decide, by decide⟩ dJ0_charAt_5068e_1 ?_
  refine V.if_eq (tgt := 16) dJ0_charAt_5068e_4 (by decide) (fun hc => absurd hc (by decide)) (fun _ => ?_)
  refine V.aload_n dJ0_charAt_5068e_7 0 rfl ?_
  refine V.kValue hi w_1028 dJ0_charAt_5068e_8 ?_
  refine V.iload_n dJ0_charAt_5068e_11 1 rfl ?_
  refine V.callSp (As := [.ref (eV E i), .int (nI j)]) (rest := []) [] (c_lchar E l L _ i j hi hj) rfl (by decide) mi_J1_charAt_3b067 w_330 w_331 rfl rfl (Nat.le_of_ble_eq_true rfl) ⟨by decide, by decide⟩ ⟨by decide, by decide⟩ dJ0_charAt_5068e_12 (vw2 := fun _ => []) (st2 := fun _ => [.int (sAt i j)]) (fun _ => rfl) (fun _ => rfl) (fun _ => rfl) (fun _ _ => ?_)
  exact V.zret rfl h7.2.1 dJ0_charAt_5068e_15 ⟨(), rfl, rfl, rfl, trivial⟩
