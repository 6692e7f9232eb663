set_option maxHeartbeats 4000000 in
set_option maxRecDepth 100000 in
theorem c_Nose_init (E : vEnv) (l : Launch) (L : List Nat) (h : Nat → va_E) (a : Nat) : CT E l yX3_init cX3_init 1 none 1 1 4 L h [(a, ob 3 [.null, .int 0, .int 0, .int 0, .int 0, .int 0, .int 0, .int 0])] [.ref a] (qN L h (fun (u0 : Nat) => [(a, ob 3 [.ref u0, .int 0, .int 0, .int 0, .int 0, .int 0, .int 0, .int 0])]) (fun (u0 : Nat) => [(u0, aI E 4 (fun _ => 0))]) (fun u0 => none) (fun u0 => True)) := by
  refine CT.ofV (by decide +kernel) (Nat.le_of_ble_eq_true rfl) ?_
  refine V.locals2 (lv2 := [(0, .ref a)]) rfl ?_
  refine V.aload_n dX3_init_0 0 rfl ?_
  refine V.objInit w_108 (Nat.le_of_ble_eq_true rfl) ⟨by decide, by decide⟩ dX3_init_1 ?_
  refine V.aload_n dX3_init_4 0 rfl ?_
  refine V.iconst (v := 4) dX3_init_5 (by decide) ?_
  refine V.newa (atype := .int) (N := 4) 0 w_62 rfl (fun _ => rfl) (by decide) (by decide) (by decide) (by decide) (by decide) dX3_init_6 (fun q1_6 hq1_6 => ?_)
  refine V.view (vw2 := [(a, ob 3 [.null, .int 0, .int 0, .int 0, .int 0, .int 0, .int 0, .int 0]), (q1_6, aI E 4 (fun _ => 0))]) (L2 := (L ++ [q1_6])) rfl (rfl) ?_
  have fr2 : Fr L [q1_6] := Fr.one (Fr.nil) (by simpa using hq1_6)
  refine V.putF 0 0 (vw2 := [(a, ob 3 [.ref q1_6, .int 0, .int 0, .int 0, .int 0, .int 0, .int 0, .int 0]), (q1_6, aI E 4 (fun _ => 0))]) rfl fp_X3_9_3 rfl rfl rfl (Nat.le_of_ble_eq_true rfl) rfl dX3_init_8 ?_
  exact V.vret rfl dX3_init_11 (⟨(q1_6), rfl, rfl, rfl, fr2.1, fr2.2, trivial⟩)

set_option maxHeartbeats 4000000 in
set_option maxRecDepth 100000 in
theorem c_Tells_init (E : vEnv) (l : Launch) (L : List Nat) (h : Nat → va_E) (a : Nat) : CT E l yX7_init cX7_init 1 none 1 3 18 L h [(a, ob 6 [.null, .null, .null, .int 0])] [.ref a] (qN L h (fun (u0 : Nat × Nat × Nat) => [(a, ob 6 [.ref u0.1, .ref u0.2.1, .ref u0.2.2, .int 0])]) (fun (u0 : Nat × Nat × Nat) => [(u0.1, aI E 6 (fun _ => 0)), (u0.2.1, aI E 6 (fun _ => 0)), (u0.2.2, aI E 6 (fun _ => 0))]) (fun u0 => none) (fun u0 => True)) := by
  refine CT.ofV (by decide +kernel) (Nat.le_of_ble_eq_true rfl) ?_
  refine V.locals2 (lv2 := [(0, .ref a)]) rfl ?_
  refine V.aload_n dX7_init_0 0 rfl ?_
  refine V.objInit w_147 (Nat.le_of_ble_eq_true rfl) ⟨by decide, by decide⟩ dX7_init_1 ?_
  refine V.aload_n dX7_init_4 0 rfl ?_
  refine V.bipush (v := 6) dX7_init_5 (by decide) ?_
  refine V.newa (atype := .int) (N := 6) 0 w_62 rfl (fun _ => rfl) (by decide) (by decide) (by decide) (by decide) (by decide) dX7_init_7 (fun q1_7 hq1_7 => ?_)
  refine V.view (vw2 := [(a, ob 6 [.null, .null, .null, .int 0]), (q1_7, aI E 6 (fun _ => 0))]) (L2 := (L ++ [q1_7])) rfl (rfl) ?_
  have fr2 : Fr L [q1_7] := Fr.one (Fr.nil) (by simpa using hq1_7)
  refine V.putF 0 0 (vw2 := [(a, ob 6 [.ref q1_7, .null, .null, .int 0]), (q1_7, aI E 6 (fun _ => 0))]) rfl fp_X7_9_6 rfl rfl rfl (Nat.le_of_ble_eq_true rfl) rfl dX7_init_9 ?_
  refine V.aload_n dX7_init_12 0 rfl ?_
  refine V.bipush (v := 6) dX7_init_13 (by decide) ?_
  refine V.newa (atype := .int) (N := 6) 0 w_62 rfl (fun _ => rfl) (by decide) (by decide) (by decide) (by decide) (by decide) dX7_init_15 (fun q3_15 hq3_15 => ?_)
  refine V.view (vw2 := [(a, ob 6 [.ref q1_7, .null, .null, .int 0]), (q1_7, aI E 6 (fun _ => 0)), (q3_15, aI E 6 (fun _ => 0))]) (L2 := (L ++ [q1_7, q3_15])) rfl (by rw [List.append_assoc]; rfl) ?_
  have fr4 : Fr L [q1_7, q3_15] := Fr.one (fr2) (by simpa using hq3_15)
  refine V.putF 0 1 (vw2 := [(a, ob 6 [.ref q1_7, .ref q3_15, .null, .int 0]), (q1_7, aI E 6 (fun _ => 0)), (q3_15, aI E 6 (fun _ => 0))]) rfl fp_X7_15_6 rfl rfl rfl (Nat.le_of_ble_eq_true rfl) rfl dX7_init_17 ?_
  refine V.aload_n dX7_init_20 0 rfl ?_
  refine V.bipush (v := 6) dX7_init_21 (by decide) ?_
  refine V.newa (atype := .int) (N := 6) 0 w_62 rfl (fun _ => rfl) (by decide) (by decide) (by decide) (by decide) (by decide) dX7_init_23 (fun q5_23 hq5_23 => ?_)
  refine V.view (vw2 := [(a, ob 6 [.ref q1_7, .ref q3_15, .null, .int 0]), (q1_7, aI E 6 (fun _ => 0)), (q3_15, aI E 6 (fun _ => 0)), (q5_23, aI E 6 (fun _ => 0))]) (L2 := (L ++ [q1_7, q3_15, q5_23])) rfl (by rw [List.append_assoc]; rfl) ?_
  have fr6 : Fr L [q1_7, q3_15, q5_23] := Fr.one (fr4) (by simpa using hq5_23)
  refine V.putF 0 2 (vw2 := [(a, ob 6 [.ref q1_7, .ref q3_15, .ref q5_23, .int 0]), (q1_7, aI E 6 (fun _ => 0)), (q3_15, aI E 6 (fun _ => 0)), (q5_23, aI E 6 (fun _ => 0))]) rfl fp_X7_18_6 rfl rfl rfl (Nat.le_of_ble_eq_true rfl) rfl dX7_init_25 ?_
  exact V.vret rfl dX7_init_28 (⟨(q1_7, q3_15, q5_23), rfl, rfl, rfl, fr6.1, fr6.2, trivial⟩)

set_option maxHeartbeats 4000000 in
set_option maxRecDepth 100000 in
theorem c_Text_init (E : vEnv) (l : Launch) (L : List Nat) (h : Nat → va_E) (a : Nat) : CT E l yX8_init cX8_init 1 none 1 3 216 L h [(a, ob 7 [.null, .int 0, .null, .null, .int 0, .int 0, .int 0, .int 0])] [.ref a] (qN L h (fun (u0 : Nat × Nat × Nat) => [(a, ob 7 [.ref u0.1, .int 0, .ref u0.2.1, .ref u0.2.2, .int 0, .int 0, .int 0, .int 0])]) (fun (u0 : Nat × Nat × Nat) => [(u0.1, aC E 160 (fun _ => 0)), (u0.2.1, aI E 14 (fun _ => 0)), (u0.2.2, aI E 42 (fun _ => 0))]) (fun u0 => none) (fun u0 => True)) := by
  refine CT.ofV (by decide +kernel) (Nat.le_of_ble_eq_true rfl) ?_
  refine V.locals2 (lv2 := [(0, .ref a)]) rfl ?_
  refine V.aload_n dX8_init_0 0 rfl ?_
  refine V.objInit w_32 (Nat.le_of_ble_eq_true rfl) ⟨by decide, by decide⟩ dX8_init_1 ?_
  refine V.aload_n dX8_init_4 0 rfl ?_
  refine V.sipush (v := 160) dX8_init_5 (by decide) ?_
  refine V.newa (atype := .char) (N := 160) 2 w_61 rfl (fun _ => rfl) (by decide) (by decide) (by decide) (by decide) (by decide) dX8_init_8 (fun q1_8 hq1_8 => ?_)
  refine V.view (vw2 := [(a, ob 7 [.null, .int 0, .null, .null, .int 0, .int 0, .int 0, .int 0]), (q1_8, aC E 160 (fun _ => 0))]) (L2 := (L ++ [q1_8])) rfl (rfl) ?_
  have fr2 : Fr L [q1_8] := Fr.one (Fr.nil) (by simpa using hq1_8)
  refine V.putF 0 0 (vw2 := [(a, ob 7 [.ref q1_8, .int 0, .null, .null, .int 0, .int 0, .int 0, .int 0]), (q1_8, aC E 160 (fun _ => 0))]) rfl fp_X8_9_7 rfl rfl rfl (Nat.le_of_ble_eq_true rfl) rfl dX8_init_10 ?_
  refine V.aload_n dX8_init_13 0 rfl ?_
  refine V.bipush (v := 14) dX8_init_14 (by decide) ?_
  refine V.newa (atype := .int) (N := 14) 0 w_62 rfl (fun _ => rfl) (by decide) (by decide) (by decide) (by decide) (by decide) dX8_init_16 (fun q3_16 hq3_16 => ?_)
  refine V.view (vw2 := [(a, ob 7 [.ref q1_8, .int 0, .null, .null, .int 0, .int 0, .int 0, .int 0]), (q1_8, aC E 160 (fun _ => 0)), (q3_16, aI E 14 (fun _ => 0))]) (L2 := (L ++ [q1_8, q3_16])) rfl (by rw [List.append_assoc]; rfl) ?_
  have fr4 : Fr L [q1_8, q3_16] := Fr.one (fr2) (by simpa using hq3_16)
  refine V.putF 0 2 (vw2 := [(a, ob 7 [.ref q1_8, .int 0, .ref q3_16, .null, .int 0, .int 0, .int 0, .int 0]), (q1_8, aC E 160 (fun _ => 0)), (q3_16, aI E 14 (fun _ => 0))]) rfl fp_X8_15_7 rfl rfl rfl (Nat.le_of_ble_eq_true rfl) rfl dX8_init_18 ?_
  refine V.aload_n dX8_init_21 0 rfl ?_
  refine V.bipush (v := 42) dX8_init_22 (by decide) ?_
  refine V.newa (atype := .int) (N := 42) 0 w_62 rfl (fun _ => rfl) (by decide) (by decide) (by decide) (by decide) (by decide) dX8_init_24 (fun q5_24 hq5_24 => ?_)
  refine V.view (vw2 := [(a, ob 7 [.ref q1_8, .int 0, .ref q3_16, .null, .int 0, .int 0, .int 0, .int 0]), (q1_8, aC E 160 (fun _ => 0)), (q3_16, aI E 14 (fun _ => 0)), (q5_24, aI E 42 (fun _ => 0))]) (L2 := (L ++ [q1_8, q3_16, q5_24])) rfl (by rw [List.append_assoc]; rfl) ?_
  have fr6 : Fr L [q1_8, q3_16, q5_24] := Fr.one (fr4) (by simpa using hq5_24)
  refine V.putF 0 3 (vw2 := [(a, ob 7 [.ref q1_8, .int 0, .ref q3_16, .ref q5_24, .int 0, .int 0, .int 0, .int 0]), (q1_8, aC E 160 (fun _ => 0)), (q3_16, aI E 14 (fun _ => 0)), (q5_24, aI E 42 (fun _ => 0))]) rfl fp_X8_19_7 rfl rfl rfl (Nat.le_of_ble_eq_true rfl) rfl dX8_init_26 ?_
  exact V.vret rfl dX8_init_29 (⟨(q1_8, q3_16, q5_24), rfl, rfl, rfl, fr6.1, fr6.2, trivial⟩)

set_option maxHeartbeats 4000000 in
set_option maxRecDepth 100000 in
theorem c_Lane_init (E : vEnv) (l : Launch) (L : List Nat) (h : Nat → va_E) (a : Nat) : CT E l yX1_init cX1_init 1 none 1 3 14 L h [(a, ob 1 [.null, .null, .null, .int 0, .int 0, .int 0])] [.ref a] (qN L h (fun (u0 : Nat × Nat × Nat) => [(a, ob 1 [.ref u0.1, .ref u0.2.1, .ref u0.2.2, .int 0, .int 10, .int 60])]) (fun (u0 : Nat × Nat × Nat) => [(u0.1, aI E 4 (fun _ => 4)), (u0.2.1, aI E 4 (fun _ => 1)), (u0.2.2, aS E 6 (fun _ => none))]) (fun u0 => none) (fun u0 => True)) := by
  refine CT.ofV (by decide +kernel) (Nat.le_of_ble_eq_true rfl) ?_
  refine V.locals2 (lv2 := [(0, .ref a)]) rfl ?_
  refine V.aload_n dX1_init_0 0 rfl ?_
  refine V.objInit w_68 (Nat.le_of_ble_eq_true rfl) ⟨by decide, by decide⟩ dX1_init_1 ?_
  refine V.aload_n dX1_init_4 0 rfl ?_
  refine V.iconst (v := 4) dX1_init_5 (by decide) ?_
  refine V.newa (atype := .int) (N := 4) 0 w_62 rfl (fun _ => rfl) (by decide) (by decide) (by decide) (by decide) (by decide) dX1_init_6 (fun q1_6 hq1_6 => ?_)
  refine V.view (vw2 := [(a, ob 1 [.null, .null, .null, .int 0, .int 0, .int 0]), (q1_6, aI E 4 (fun _ => 0))]) (L2 := (L ++ [q1_6])) rfl (rfl) ?_
  have fr2 : Fr L [q1_6] := Fr.one (Fr.nil) (by simpa using hq1_6)
  refine V.putF 0 0 (vw2 := [(a, ob 1 [.ref q1_6, .null, .null, .int 0, .int 0, .int 0]), (q1_6, aI E 4 (fun _ => 0))]) rfl fp_X1_9_1 rfl rfl rfl (Nat.le_of_ble_eq_true rfl) rfl dX1_init_8 ?_
  refine V.aload_n dX1_init_11 0 rfl ?_
  refine V.iconst (v := 4) dX1_init_12 (by decide) ?_
  refine V.newa (atype := .int) (N := 4) 0 w_62 rfl (fun _ => rfl) (by decide) (by decide) (by decide) (by decide) (by decide) dX1_init_13 (fun q3_13 hq3_13 => ?_)
  refine V.view (vw2 := [(a, ob 1 [.ref q1_6, .null, .null, .int 0, .int 0, .int 0]), (q1_6, aI E 4 (fun _ => 0)), (q3_13, aI E 4 (fun _ => 0))]) (L2 := (L ++ [q1_6, q3_13])) rfl (by rw [List.append_assoc]; rfl) ?_
  have fr4 : Fr L [q1_6, q3_13] := Fr.one (fr2) (by simpa using hq3_13)
  refine V.putF 0 1 (vw2 := [(a, ob 1 [.ref q1_6, .ref q3_13, .null, .int 0, .int 0, .int 0]), (q1_6, aI E 4 (fun _ => 0)), (q3_13, aI E 4 (fun _ => 0))]) rfl fp_X1_15_1 rfl rfl rfl (Nat.le_of_ble_eq_true rfl) rfl dX1_init_15 ?_
  refine V.aload_n dX1_init_18 0 rfl ?_
  refine V.bipush (v := 6) dX1_init_19 (by decide) ?_
  refine V.newqS (N := 6) w_69 (by decide) (by decide) (by decide) (by decide) (by decide) dX1_init_21 (fun q5_21 hq5_21 => ?_)
  refine V.view (vw2 := [(a, ob 1 [.ref q1_6, .ref q3_13, .null, .int 0, .int 0, .int 0]), (q1_6, aI E 4 (fun _ => 0)), (q3_13, aI E 4 (fun _ => 0)), (q5_21, aS E 6 (fun _ => none))]) (L2 := (L ++ [q1_6, q3_13, q5_21])) rfl (by rw [List.append_assoc]; rfl) ?_
  have fr6 : Fr L [q1_6, q3_13, q5_21] := Fr.one (fr4) (by simpa using hq5_21)
  refine V.putF 0 2 (vw2 := [(a, ob 1 [.ref q1_6, .ref q3_13, .ref q5_21, .int 0, .int 0, .int 0]), (q1_6, aI E 4 (fun _ => 0)), (q3_13, aI E 4 (fun _ => 0)), (q5_21, aS E 6 (fun _ => none))]) rfl fp_X1_20_1 rfl rfl rfl (Nat.le_of_ble_eq_true rfl) rfl dX1_init_24 ?_
  refine V.aload_n dX1_init_27 0 rfl ?_
  refine V.callVp (As := []) (rest := []) [0, 1, 2] (c_Lane_setFirst E l (L ++ [q1_6, q3_13, q5_21]) _ a q1_6 q3_13 q5_21 0 0 0 ((fun _ => 0)) ((fun _ => 0))) rfl (by decide) mi_X1_setFirst 0 rfl rfl w_71 w_72 w_73 rfl rfl (Nat.le_of_ble_eq_true rfl) ⟨by decide, by decide⟩ ⟨by decide, by decide⟩ dX1_init_28 (vw2 := fun _ => [(a, ob 1 [.ref q1_6, .ref q3_13, .ref q5_21, .int 0, .int 10, .int 60]), (q1_6, aI E 4 (fun _ => 4)), (q3_13, aI E 4 (fun _ => 1)), (q5_21, aS E 6 (fun _ => none))]) (st2 := fun _ => []) (fun _ => rfl) (fun _ => rfl) (fun _ => rfl) (fun _ _ => ?_)
  exact V.vret rfl dX1_init_31 (⟨(q1_6, q3_13, q5_21), rfl, rfl, rfl, fr6.1, fr6.2, trivial⟩)

set_option maxHeartbeats 4000000 in
set_option maxRecDepth 100000 in
theorem c_Walks_init (E : vEnv) (l : Launch) (L : List Nat) (h : Nat → va_E) (a : Nat) : CT E l yX9_init cX9_init 2 none 2 17 103 L h [(a, ob 8 [.null, .null, .null, .int 0])] [.ref a] (qN L h (fun (u0 : Nat × Nat × Nat × Nat × Nat × Nat × Nat × Nat × Nat × Nat × Nat × Nat × Nat × Nat × Nat × Nat × Nat) => [(a, ob 8 [.ref u0.1, .ref u0.2.1, .ref u0.2.2.1, .int 0])]) (fun (u0 : Nat × Nat × Nat × Nat × Nat × Nat × Nat × Nat × Nat × Nat × Nat × Nat × Nat × Nat × Nat × Nat × Nat) => [(u0.1, aI E 6 (fun _ => 0)), (u0.2.1, aI E 6 (fun _ => 0)), (u0.2.2.1, aN E 7 (va_up (va_up (va_up (va_up (va_up (va_up (va_up (fun _ => none) 0 (some u0.2.2.2.1)) 1 (some u0.2.2.2.2.2.1)) 2 (some u0.2.2.2.2.2.2.2.1)) 3 (some u0.2.2.2.2.2.2.2.2.2.1)) 4 (some u0.2.2.2.2.2.2.2.2.2.2.2.1)) 5 (some u0.2.2.2.2.2.2.2.2.2.2.2.2.2.1)) 6 (some u0.2.2.2.2.2.2.2.2.2.2.2.2.2.2.2.1))), (u0.2.2.2.1, ob 3 [.ref u0.2.2.2.2.1, .int 0, .int 0, .int 0, .int 0, .int 0, .int 0, .int 0]), (u0.2.2.2.2.1, aI E 4 (fun _ => 0)), (u0.2.2.2.2.2.1, ob 3 [.ref u0.2.2.2.2.2.2.1, .int 0, .int 0, .int 0, .int 0, .int 0, .int 0, .int 0]), (u0.2.2.2.2.2.2.1, aI E 4 (fun _ => 0)), (u0.2.2.2.2.2.2.2.1, ob 3 [.ref u0.2.2.2.2.2.2.2.2.1, .int 0, .int 0, .int 0, .int 0, .int 0, .int 0, .int 0]), (u0.2.2.2.2.2.2.2.2.1, aI E 4 (fun _ => 0)), (u0.2.2.2.2.2.2.2.2.2.1, ob 3 [.ref u0.2.2.2.2.2.2.2.2.2.2.1, .int 0, .int 0, .int 0, .int 0, .int 0, .int 0, .int 0]), (u0.2.2.2.2.2.2.2.2.2.2.1, aI E 4 (fun _ => 0)), (u0.2.2.2.2.2.2.2.2.2.2.2.1, ob 3 [.ref u0.2.2.2.2.2.2.2.2.2.2.2.2.1, .int 0, .int 0, .int 0, .int 0, .int 0, .int 0, .int 0]), (u0.2.2.2.2.2.2.2.2.2.2.2.2.1, aI E 4 (fun _ => 0)), (u0.2.2.2.2.2.2.2.2.2.2.2.2.2.1, ob 3 [.ref u0.2.2.2.2.2.2.2.2.2.2.2.2.2.2.1, .int 0, .int 0, .int 0, .int 0, .int 0, .int 0, .int 0]), (u0.2.2.2.2.2.2.2.2.2.2.2.2.2.2.1, aI E 4 (fun _ => 0)), (u0.2.2.2.2.2.2.2.2.2.2.2.2.2.2.2.1, ob 3 [.ref u0.2.2.2.2.2.2.2.2.2.2.2.2.2.2.2.2, .int 0, .int 0, .int 0, .int 0, .int 0, .int 0, .int 0]), (u0.2.2.2.2.2.2.2.2.2.2.2.2.2.2.2.2, aI E 4 (fun _ => 0))]) (fun u0 => none) (fun u0 => True)) := by
  refine CT.ofV (by decide +kernel) (Nat.le_of_ble_eq_true rfl) ?_
  refine V.locals2 (lv2 := [(0, .ref a)]) rfl ?_
  refine V.aload_n dX9_init_0 0 rfl ?_
  refine V.objInit w_168 (Nat.le_of_ble_eq_true rfl) ⟨by decide, by decide⟩ dX9_init_1 ?_
  refine V.aload_n dX9_init_4 0 rfl ?_
  refine V.bipush (v := 6) dX9_init_5 (by decide) ?_
  refine V.newa (atype := .int) (N := 6) 0 w_62 rfl (fun _ => rfl) (by decide) (by decide) (by decide) (by decide) (by decide) dX9_init_7 (fun q1_7 hq1_7 => ?_)
  refine V.view (vw2 := [(a, ob 8 [.null, .null, .null, .int 0]), (q1_7, aI E 6 (fun _ => 0))]) (L2 := (L ++ [q1_7])) rfl (rfl) ?_
  have fr2 : Fr L [q1_7] := Fr.one (Fr.nil) (by simpa using hq1_7)
  refine V.putF 0 0 (vw2 := [(a, ob 8 [.ref q1_7, .null, .null, .int 0]), (q1_7, aI E 6 (fun _ => 0))]) rfl fp_X9_9_8 rfl rfl rfl (Nat.le_of_ble_eq_true rfl) rfl dX9_init_9 ?_
  refine V.aload_n dX9_init_12 0 rfl ?_
  refine V.bipush (v := 6) dX9_init_13 (by decide) ?_
  refine V.newa (atype := .int) (N := 6) 0 w_62 rfl (fun _ => rfl) (by decide) (by decide) (by decide) (by decide) (by decide) dX9_init_15 (fun q3_15 hq3_15 => ?_)
  refine V.view (vw2 := [(a, ob 8 [.ref q1_7, .null, .null, .int 0]), (q1_7, aI E 6 (fun _ => 0)), (q3_15, aI E 6 (fun _ => 0))]) (L2 := (L ++ [q1_7, q3_15])) rfl (by rw [List.append_assoc]; rfl) ?_
  have fr4 : Fr L [q1_7, q3_15] := Fr.one (fr2) (by simpa using hq3_15)
  refine V.putF 0 1 (vw2 := [(a, ob 8 [.ref q1_7, .ref q3_15, .null, .int 0]), (q1_7, aI E 6 (fun _ => 0)), (q3_15, aI E 6 (fun _ => 0))]) rfl fp_X9_15_8 rfl rfl rfl (Nat.le_of_ble_eq_true rfl) rfl dX9_init_17 ?_
  refine V.aload_n dX9_init_20 0 rfl ?_
  refine V.bipush (v := 7) dX9_init_21 (by decide) ?_
  refine V.newqN (N := 7) w_169 (by decide) (by decide) (by decide) (by decide) (by decide) dX9_init_23 (fun q5_23 hq5_23 => ?_)
  refine V.view (vw2 := [(a, ob 8 [.ref q1_7, .ref q3_15, .null, .int 0]), (q1_7, aI E 6 (fun _ => 0)), (q3_15, aI E 6 (fun _ => 0)), (q5_23, aN E 7 (fun _ => none))]) (L2 := (L ++ [q1_7, q3_15, q5_23])) rfl (by rw [List.append_assoc]; rfl) ?_
  have fr6 : Fr L [q1_7, q3_15, q5_23] := Fr.one (fr4) (by simpa using hq5_23)
  refine V.putF 0 2 (vw2 := [(a, ob 8 [.ref q1_7, .ref q3_15, .ref q5_23, .int 0]), (q1_7, aI E 6 (fun _ => 0)), (q3_15, aI E 6 (fun _ => 0)), (q5_23, aN E 7 (fun _ => none))]) rfl fp_X9_20_8 rfl rfl rfl (Nat.le_of_ble_eq_true rfl) rfl dX9_init_26 ?_
  refine V.iconst (v := 0) dX9_init_29 (by decide) ?_
  refine V.istore_n (lv2 := [(1, .int 0), (0, .ref a)]) dX9_init_30 rfl (by decide) rfl ?_
  refine V.iload_n dX9_init_31 0 rfl ?_
  refine V.bipush (v := 6) dX9_init_32 (by decide) ?_
  refine V.icmp_gt (tgt := 56) dX9_init_34 (by decide) (fun hc => absurd hc (by decide)) (fun _ => ?_)
  refine V.aload_n dX9_init_37 1 rfl ?_
  refine V.getf 0 2 rfl fa_X9_20_8 rfl dX9_init_38 ?_
  refine V.iload_n dX9_init_41 0 rfl ?_
  refine V.new (ci := 3) (C := RX3) (T := TX3) (N := 8) tyX3 rfl in_X3 tyX3_ok w_169 w_104 w_4 (fs := [.null, .int 0, .int 0, .int 0, .int 0, .int 0, .int 0, .int 0]) (by decide) (by decide) (by decide) dX9_init_42 (fun q7_42 hq7_42 => ?_)
  refine V.view (vw2 := [(a, ob 8 [.ref q1_7, .ref q3_15, .ref q5_23, .int 0]), (q1_7, aI E 6 (fun _ => 0)), (q3_15, aI E 6 (fun _ => 0)), (q5_23, aN E 7 (fun _ => none)), (q7_42, ob 3 [.null, .int 0, .int 0, .int 0, .int 0, .int 0, .int 0, .int 0])]) (L2 := (L ++ [q1_7, q3_15, q5_23, q7_42])) rfl (by rw [List.append_assoc]; rfl) ?_
  have fr8 : Fr L [q1_7, q3_15, q5_23, q7_42] := Fr.one (fr6) (by simpa using hq7_42)
  refine V.dup dX9_init_45 rfl ?_
  refine V.callINn (host := "RoseLane") (As := []) (rest := [.ref q7_42, .int 0, .ref q5_23]) [4] (c_Nose_init E l (L ++ [q1_7, q3_15, q5_23, q7_42]) _ q7_42) rfl (by decide) mi_X3_init rfl (by decide) w_106 rfl rfl (Nat.le_of_ble_eq_true rfl) ⟨by decide, by decide⟩ ⟨by decide, by decide⟩ dX9_init_46 (fun _ => rfl) (fun _ => rfl) (fun _ => rfl) ?_
  rintro tx9 hp_46 hf_46 hn_46
  refine V.view (vw2 := [(a, ob 8 [.ref q1_7, .ref q3_15, .ref q5_23, .int 0]), (q1_7, aI E 6 (fun _ => 0)), (q3_15, aI E 6 (fun _ => 0)), (q5_23, aN E 7 (fun _ => none)), (q7_42, ob 3 [.ref tx9, .int 0, .int 0, .int 0, .int 0, .int 0, .int 0, .int 0]), (tx9, aI E 4 (fun _ => 0))]) (L2 := (L ++ [q1_7, q3_15, q5_23, q7_42, tx9])) rfl (by rw [List.append_assoc]; rfl) ?_
  have fr10 : Fr L [q1_7, q3_15, q5_23, q7_42, tx9] := Fr.more (fr8) (by simpa using hf_46) hn_46
  refine V.astN (ci := 3) (vw2 := [(a, ob 8 [.ref q1_7, .ref q3_15, .ref q5_23, .int 0]), (q1_7, aI E 6 (fun _ => 0)), (q3_15, aI E 6 (fun _ => 0)), (q5_23, aN E 7 (va_up (fun _ => none) 0 (some q7_42))), (q7_42, ob 3 [.ref tx9, .int 0, .int 0, .int 0, .int 0, .int 0, .int 0, .int 0]), (tx9, aI E 4 (fun _ => 0))]) 3 4 rfl rfl (vin rfl) (rfl) dX9_init_49 ?_
  refine V.iinc (v := 1) (lv2 := [(1, .int 1), (0, .ref a)]) dX9_init_50 0 rfl (by decide) (by decide) rfl ?_
  refine V.goto (tgt := 31) dX9_init_53 (by decide) ?_
  refine V.iload_n dX9_init_31 0 rfl ?_
  refine V.bipush (v := 6) dX9_init_32 (by decide) ?_
  refine V.icmp_gt (tgt := 56) dX9_init_34 (by decide) (fun hc => absurd hc (by decide)) (fun _ => ?_)
  refine V.aload_n dX9_init_37 1 rfl ?_
  refine V.getf 0 2 rfl fa_X9_20_8 rfl dX9_init_38 ?_
  refine V.iload_n dX9_init_41 0 rfl ?_
  refine V.new (ci := 3) (C := RX3) (T := TX3) (N := 8) tyX3 rfl in_X3 tyX3_ok w_169 w_104 w_4 (fs := [.null, .int 0, .int 0, .int 0, .int 0, .int 0, .int 0, .int 0]) (by decide) (by decide) (by decide) dX9_init_42 (fun q11_42 hq11_42 => ?_)
  refine V.view (vw2 := [(a, ob 8 [.ref q1_7, .ref q3_15, .ref q5_23, .int 0]), (q1_7, aI E 6 (fun _ => 0)), (q3_15, aI E 6 (fun _ => 0)), (q5_23, aN E 7 (va_up (fun _ => none) 0 (some q7_42))), (q7_42, ob 3 [.ref tx9, .int 0, .int 0, .int 0, .int 0, .int 0, .int 0, .int 0]), (tx9, aI E 4 (fun _ => 0)), (q11_42, ob 3 [.null, .int 0, .int 0, .int 0, .int 0, .int 0, .int 0, .int 0])]) (L2 := (L ++ [q1_7, q3_15, q5_23, q7_42, tx9, q11_42])) rfl (by rw [List.append_assoc]; rfl) ?_
  have fr12 : Fr L [q1_7, q3_15, q5_23, q7_42, tx9, q11_42] := Fr.one (fr10) (by simpa using hq11_42)
  refine V.dup dX9_init_45 rfl ?_
  refine V.callINn (host := "RoseLane") (As := []) (rest := [.ref q11_42, .int 1, .ref q5_23]) [6] (c_Nose_init E l (L ++ [q1_7, q3_15, q5_23, q7_42, tx9, q11_42]) _ q11_42) rfl (by decide) mi_X3_init rfl (by decide) w_106 rfl rfl (Nat.le_of_ble_eq_true rfl) ⟨by decide, by decide⟩ ⟨by decide, by decide⟩ dX9_init_46 (fun _ => rfl) (fun _ => rfl) (fun _ => rfl) ?_
  rintro tx13 hp_46 hf_46 hn_46
  refine V.view (vw2 := [(a, ob 8 [.ref q1_7, .ref q3_15, .ref q5_23, .int 0]), (q1_7, aI E 6 (fun _ => 0)), (q3_15, aI E 6 (fun _ => 0)), (q5_23, aN E 7 (va_up (fun _ => none) 0 (some q7_42))), (q7_42, ob 3 [.ref tx9, .int 0, .int 0, .int 0, .int 0, .int 0, .int 0, .int 0]), (tx9, aI E 4 (fun _ => 0)), (q11_42, ob 3 [.ref tx13, .int 0, .int 0, .int 0, .int 0, .int 0, .int 0, .int 0]), (tx13, aI E 4 (fun _ => 0))]) (L2 := (L ++ [q1_7, q3_15, q5_23, q7_42, tx9, q11_42, tx13])) rfl (by rw [List.append_assoc]; rfl) ?_
  have fr14 : Fr L [q1_7, q3_15, q5_23, q7_42, tx9, q11_42, tx13] := Fr.more (fr12) (by simpa using hf_46) hn_46
  refine V.astN (ci := 3) (vw2 := [(a, ob 8 [.ref q1_7, .ref q3_15, .ref q5_23, .int 0]), (q1_7, aI E 6 (fun _ => 0)), (q3_15, aI E 6 (fun _ => 0)), (q5_23, aN E 7 (va_up (va_up (fun _ => none) 0 (some q7_42)) 1 (some q11_42))), (q7_42, ob 3 [.ref tx9, .int 0, .int 0, .int 0, .int 0, .int 0, .int 0, .int 0]), (tx9, aI E 4 (fun _ => 0)), (q11_42, ob 3 [.ref tx13, .int 0, .int 0, .int 0, .int 0, .int 0, .int 0, .int 0]), (tx13, aI E 4 (fun _ => 0))]) 3 6 rfl rfl (vin rfl) (rfl) dX9_init_49 ?_
  refine V.iinc (v := 2) (lv2 := [(1, .int 2), (0, .ref a)]) dX9_init_50 0 rfl (by decide) (by decide) rfl ?_
  refine V.goto (tgt := 31) dX9_init_53 (by decide) ?_
  refine V.iload_n dX9_init_31 0 rfl ?_
  refine V.bipush (v := 6) dX9_init_32 (by decide) ?_
  refine V.icmp_gt (tgt := 56) dX9_init_34 (by decide) (fun hc => absurd hc (by decide)) (fun _ => ?_)
  refine V.aload_n dX9_init_37 1 rfl ?_
  refine V.getf 0 2 rfl fa_X9_20_8 rfl dX9_init_38 ?_
  refine V.iload_n dX9_init_41 0 rfl ?_
  refine V.new (ci := 3) (C := RX3) (T := TX3) (N := 8) tyX3 rfl in_X3 tyX3_ok w_169 w_104 w_4 (fs := [.null, .int 0, .int 0, .int 0, .int 0, .int 0, .int 0, .int 0]) (by decide) (by decide) (by decide) dX9_init_42 (fun q15_42 hq15_42 => ?_)
  refine V.view (vw2 := [(a, ob 8 [.ref q1_7, .ref q3_15, .ref q5_23, .int 0]), (q1_7, aI E 6 (fun _ => 0)), (q3_15, aI E 6 (fun _ => 0)), (q5_23, aN E 7 (va_up (va_up (fun _ => none) 0 (some q7_42)) 1 (some q11_42))), (q7_42, ob 3 [.ref tx9, .int 0, .int 0, .int 0, .int 0, .int 0, .int 0, .int 0]), (tx9, aI E 4 (fun _ => 0)), (q11_42, ob 3 [.ref tx13, .int 0, .int 0, .int 0, .int 0, .int 0, .int 0, .int 0]), (tx13, aI E 4 (fun _ => 0)), (q15_42, ob 3 [.null, .int 0, .int 0, .int 0, .int 0, .int 0, .int 0, .int 0])]) (L2 := (L ++ [q1_7, q3_15, q5_23, q7_42, tx9, q11_42, tx13, q15_42])) rfl (by rw [List.append_assoc]; rfl) ?_
  have fr16 : Fr L [q1_7, q3_15, q5_23, q7_42, tx9, q11_42, tx13, q15_42] := Fr.one (fr14) (by simpa using hq15_42)
  refine V.dup dX9_init_45 rfl ?_
  refine V.callINn (host := "RoseLane") (As := []) (rest := [.ref q15_42, .int 2, .ref q5_23]) [8] (c_Nose_init E l (L ++ [q1_7, q3_15, q5_23, q7_42, tx9, q11_42, tx13, q15_42]) _ q15_42) rfl (by decide) mi_X3_init rfl (by decide) w_106 rfl rfl (Nat.le_of_ble_eq_true rfl) ⟨by decide, by decide⟩ ⟨by decide, by decide⟩ dX9_init_46 (fun _ => rfl) (fun _ => rfl) (fun _ => rfl) ?_
  rintro tx17 hp_46 hf_46 hn_46
  refine V.view (vw2 := [(a, ob 8 [.ref q1_7, .ref q3_15, .ref q5_23, .int 0]), (q1_7, aI E 6 (fun _ => 0)), (q3_15, aI E 6 (fun _ => 0)), (q5_23, aN E 7 (va_up (va_up (fun _ => none) 0 (some q7_42)) 1 (some q11_42))), (q7_42, ob 3 [.ref tx9, .int 0, .int 0, .int 0, .int 0, .int 0, .int 0, .int 0]), (tx9, aI E 4 (fun _ => 0)), (q11_42, ob 3 [.ref tx13, .int 0, .int 0, .int 0, .int 0, .int 0, .int 0, .int 0]), (tx13, aI E 4 (fun _ => 0)), (q15_42, ob 3 [.ref tx17, .int 0, .int 0, .int 0, .int 0, .int 0, .int 0, .int 0]), (tx17, aI E 4 (fun _ => 0))]) (L2 := (L ++ [q1_7, q3_15, q5_23, q7_42, tx9, q11_42, tx13, q15_42, tx17])) rfl (by rw [List.append_assoc]; rfl) ?_
  have fr18 : Fr L [q1_7, q3_15, q5_23, q7_42, tx9, q11_42, tx13, q15_42, tx17] := Fr.more (fr16) (by simpa using hf_46) hn_46
  refine V.astN (ci := 3) (vw2 := [(a, ob 8 [.ref q1_7, .ref q3_15, .ref q5_23, .int 0]), (q1_7, aI E 6 (fun _ => 0)), (q3_15, aI E 6 (fun _ => 0)), (q5_23, aN E 7 (va_up (va_up (va_up (fun _ => none) 0 (some q7_42)) 1 (some q11_42)) 2 (some q15_42))), (q7_42, ob 3 [.ref tx9, .int 0, .int 0, .int 0, .int 0, .int 0, .int 0, .int 0]), (tx9, aI E 4 (fun _ => 0)), (q11_42, ob 3 [.ref tx13, .int 0, .int 0, .int 0, .int 0, .int 0, .int 0, .int 0]), (tx13, aI E 4 (fun _ => 0)), (q15_42, ob 3 [.ref tx17, .int 0, .int 0, .int 0, .int 0, .int 0, .int 0, .int 0]), (tx17, aI E 4 (fun _ => 0))]) 3 8 rfl rfl (vin rfl) (rfl) dX9_init_49 ?_
  refine V.iinc (v := 3) (lv2 := [(1, .int 3), (0, .ref a)]) dX9_init_50 0 rfl (by decide) (by decide) rfl ?_
  refine V.goto (tgt := 31) dX9_init_53 (by decide) ?_
  refine V.iload_n dX9_init_31 0 rfl ?_
  refine V.bipush (v := 6) dX9_init_32 (by decide) ?_
  refine V.icmp_gt (tgt := 56) dX9_init_34 (by decide) (fun hc => absurd hc (by decide)) (fun _ => ?_)
  refine V.aload_n dX9_init_37 1 rfl ?_
  refine V.getf 0 2 rfl fa_X9_20_8 rfl dX9_init_38 ?_
  refine V.iload_n dX9_init_41 0 rfl ?_
  refine V.new (ci := 3) (C := RX3) (T := TX3) (N := 8) tyX3 rfl in_X3 tyX3_ok w_169 w_104 w_4 (fs := [.null, .int 0, .int 0, .int 0, .int 0, .int 0, .int 0, .int 0]) (by decide) (by decide) (by decide) dX9_init_42 (fun q19_42 hq19_42 => ?_)
  refine V.view (vw2 := [(a, ob 8 [.ref q1_7, .ref q3_15, .ref q5_23, .int 0]), (q1_7, aI E 6 (fun _ => 0)), (q3_15, aI E 6 (fun _ => 0)), (q5_23, aN E 7 (va_up (va_up (va_up (fun _ => none) 0 (some q7_42)) 1 (some q11_42)) 2 (some q15_42))), (q7_42, ob 3 [.ref tx9, .int 0, .int 0, .int 0, .int 0, .int 0, .int 0, .int 0]), (tx9, aI E 4 (fun _ => 0)), (q11_42, ob 3 [.ref tx13, .int 0, .int 0, .int 0, .int 0, .int 0, .int 0, .int 0]), (tx13, aI E 4 (fun _ => 0)), (q15_42, ob 3 [.ref tx17, .int 0, .int 0, .int 0, .int 0, .int 0, .int 0, .int 0]), (tx17, aI E 4 (fun _ => 0)), (q19_42, ob 3 [.null, .int 0, .int 0, .int 0, .int 0, .int 0, .int 0, .int 0])]) (L2 := (L ++ [q1_7, q3_15, q5_23, q7_42, tx9, q11_42, tx13, q15_42, tx17, q19_42])) rfl (by rw [List.append_assoc]; rfl) ?_
  have fr20 : Fr L [q1_7, q3_15, q5_23, q7_42, tx9, q11_42, tx13, q15_42, tx17, q19_42] := Fr.one (fr18) (by simpa using hq19_42)
  refine V.dup dX9_init_45 rfl ?_
  refine V.callINn (host := "RoseLane") (As := []) (rest := [.ref q19_42, .int 3, .ref q5_23]) [10] (c_Nose_init E l (L ++ [q1_7, q3_15, q5_23, q7_42, tx9, q11_42, tx13, q15_42, tx17, q19_42]) _ q19_42) rfl (by decide) mi_X3_init rfl (by decide) w_106 rfl rfl (Nat.le_of_ble_eq_true rfl) ⟨by decide, by decide⟩ ⟨by decide, by decide⟩ dX9_init_46 (fun _ => rfl) (fun _ => rfl) (fun _ => rfl) ?_
  rintro tx21 hp_46 hf_46 hn_46
  refine V.view (vw2 := [(a, ob 8 [.ref q1_7, .ref q3_15, .ref q5_23, .int 0]), (q1_7, aI E 6 (fun _ => 0)), (q3_15, aI E 6 (fun _ => 0)), (q5_23, aN E 7 (va_up (va_up (va_up (fun _ => none) 0 (some q7_42)) 1 (some q11_42)) 2 (some q15_42))), (q7_42, ob 3 [.ref tx9, .int 0, .int 0, .int 0, .int 0, .int 0, .int 0, .int 0]), (tx9, aI E 4 (fun _ => 0)), (q11_42, ob 3 [.ref tx13, .int 0, .int 0, .int 0, .int 0, .int 0, .int 0, .int 0]), (tx13, aI E 4 (fun _ => 0)), (q15_42, ob 3 [.ref tx17, .int 0, .int 0, .int 0, .int 0, .int 0, .int 0, .int 0]), (tx17, aI E 4 (fun _ => 0)), (q19_42, ob 3 [.ref tx21, .int 0, .int 0, .int 0, .int 0, .int 0, .int 0, .int 0]), (tx21, aI E 4 (fun _ => 0))]) (L2 := (L ++ [q1_7, q3_15, q5_23, q7_42, tx9, q11_42, tx13, q15_42, tx17, q19_42, tx21])) rfl (by rw [List.append_assoc]; rfl) ?_
  have fr22 : Fr L [q1_7, q3_15, q5_23, q7_42, tx9, q11_42, tx13, q15_42, tx17, q19_42, tx21] := Fr.more (fr20) (by simpa using hf_46) hn_46
  refine V.astN (ci := 3) (vw2 := [(a, ob 8 [.ref q1_7, .ref q3_15, .ref q5_23, .int 0]), (q1_7, aI E 6 (fun _ => 0)), (q3_15, aI E 6 (fun _ => 0)), (q5_23, aN E 7 (va_up (va_up (va_up (va_up (fun _ => none) 0 (some q7_42)) 1 (some q11_42)) 2 (some q15_42)) 3 (some q19_42))), (q7_42, ob 3 [.ref tx9, .int 0, .int 0, .int 0, .int 0, .int 0, .int 0, .int 0]), (tx9, aI E 4 (fun _ => 0)), (q11_42, ob 3 [.ref tx13, .int 0, .int 0, .int 0, .int 0, .int 0, .int 0, .int 0]), (tx13, aI E 4 (fun _ => 0)), (q15_42, ob 3 [.ref tx17, .int 0, .int 0, .int 0, .int 0, .int 0, .int 0, .int 0]), (tx17, aI E 4 (fun _ => 0)), (q19_42, ob 3 [.ref tx21, .int 0, .int 0, .int 0, .int 0, .int 0, .int 0, .int 0]), (tx21, aI E 4 (fun _ => 0))]) 3 10 rfl rfl (vin rfl) (rfl) dX9_init_49 ?_
  refine V.iinc (v := 4) (lv2 := [(1, .int 4), (0, .ref a)]) dX9_init_50 0 rfl (by decide) (by decide) rfl ?_
  refine V.goto (tgt := 31) dX9_init_53 (by decide) ?_
  refine V.iload_n dX9_init_31 0 rfl ?_
  refine V.bipush (v := 6) dX9_init_32 (by decide) ?_
  refine V.icmp_gt (tgt := 56) dX9_init_34 (by decide) (fun hc => absurd hc (by decide)) (fun _ => ?_)
  refine V.aload_n dX9_init_37 1 rfl ?_
  refine V.getf 0 2 rfl fa_X9_20_8 rfl dX9_init_38 ?_
  refine V.iload_n dX9_init_41 0 rfl ?_
  refine V.new (ci := 3) (C := RX3) (T := TX3) (N := 8) tyX3 rfl in_X3 tyX3_ok w_169 w_104 w_4 (fs := [.null, .int 0, .int 0, .int 0, .int 0, .int 0, .int 0, .int 0]) (by decide) (by decide) (by decide) dX9_init_42 (fun q23_42 hq23_42 => ?_)
  refine V.view (vw2 := [(a, ob 8 [.ref q1_7, .ref q3_15, .ref q5_23, .int 0]), (q1_7, aI E 6 (fun _ => 0)), (q3_15, aI E 6 (fun _ => 0)), (q5_23, aN E 7 (va_up (va_up (va_up (va_up (fun _ => none) 0 (some q7_42)) 1 (some q11_42)) 2 (some q15_42)) 3 (some q19_42))), (q7_42, ob 3 [.ref tx9, .int 0, .int 0, .int 0, .int 0, .int 0, .int 0, .int 0]), (tx9, aI E 4 (fun _ => 0)), (q11_42, ob 3 [.ref tx13, .int 0, .int 0, .int 0, .int 0, .int 0, .int 0, .int 0]), (tx13, aI E 4 (fun _ => 0)), (q15_42, ob 3 [.ref tx17, .int 0, .int 0, .int 0, .int 0, .int 0, .int 0, .int 0]), (tx17, aI E 4 (fun _ => 0)), (q19_42, ob 3 [.ref tx21, .int 0, .int 0, .int 0, .int 0, .int 0, .int 0, .int 0]), (tx21, aI E 4 (fun _ => 0)), (q23_42, ob 3 [.null, .int 0, .int 0, .int 0, .int 0, .int 0, .int 0, .int 0])]) (L2 := (L ++ [q1_7, q3_15, q5_23, q7_42, tx9, q11_42, tx13, q15_42, tx17, q19_42, tx21, q23_42])) rfl (by rw [List.append_assoc]; rfl) ?_
  have fr24 : Fr L [q1_7, q3_15, q5_23, q7_42, tx9, q11_42, tx13, q15_42, tx17, q19_42, tx21, q23_42] := Fr.one (fr22) (by simpa using hq23_42)
  refine V.dup dX9_init_45 rfl ?_
  refine V.callINn (host := "RoseLane") (As := []) (rest := [.ref q23_42, .int 4, .ref q5_23]) [12] (c_Nose_init E l (L ++ [q1_7, q3_15, q5_23, q7_42, tx9, q11_42, tx13, q15_42, tx17, q19_42, tx21, q23_42]) _ q23_42) rfl (by decide) mi_X3_init rfl (by decide) w_106 rfl rfl (Nat.le_of_ble_eq_true rfl) ⟨by decide, by decide⟩ ⟨by decide, by decide⟩ dX9_init_46 (fun _ => rfl) (fun _ => rfl) (fun _ => rfl) ?_
  rintro tx25 hp_46 hf_46 hn_46
  refine V.view (vw2 := [(a, ob 8 [.ref q1_7, .ref q3_15, .ref q5_23, .int 0]), (q1_7, aI E 6 (fun _ => 0)), (q3_15, aI E 6 (fun _ => 0)), (q5_23, aN E 7 (va_up (va_up (va_up (va_up (fun _ => none) 0 (some q7_42)) 1 (some q11_42)) 2 (some q15_42)) 3 (some q19_42))), (q7_42, ob 3 [.ref tx9, .int 0, .int 0, .int 0, .int 0, .int 0, .int 0, .int 0]), (tx9, aI E 4 (fun _ => 0)), (q11_42, ob 3 [.ref tx13, .int 0, .int 0, .int 0, .int 0, .int 0, .int 0, .int 0]), (tx13, aI E 4 (fun _ => 0)), (q15_42, ob 3 [.ref tx17, .int 0, .int 0, .int 0, .int 0, .int 0, .int 0, .int 0]), (tx17, aI E 4 (fun _ => 0)), (q19_42, ob 3 [.ref tx21, .int 0, .int 0, .int 0, .int 0, .int 0, .int 0, .int 0]), (tx21, aI E 4 (fun _ => 0)), (q23_42, ob 3 [.ref tx25, .int 0, .int 0, .int 0, .int 0, .int 0, .int 0, .int 0]), (tx25, aI E 4 (fun _ => 0))]) (L2 := (L ++ [q1_7, q3_15, q5_23, q7_42, tx9, q11_42, tx13, q15_42, tx17, q19_42, tx21, q23_42, tx25])) rfl (by rw [List.append_assoc]; rfl) ?_
  have fr26 : Fr L [q1_7, q3_15, q5_23, q7_42, tx9, q11_42, tx13, q15_42, tx17, q19_42, tx21, q23_42, tx25] := Fr.more (fr24) (by simpa using hf_46) hn_46
  refine V.astN (ci := 3) (vw2 := [(a, ob 8 [.ref q1_7, .ref q3_15, .ref q5_23, .int 0]), (q1_7, aI E 6 (fun _ => 0)), (q3_15, aI E 6 (fun _ => 0)), (q5_23, aN E 7 (va_up (va_up (va_up (va_up (va_up (fun _ => none) 0 (some q7_42)) 1 (some q11_42)) 2 (some q15_42)) 3 (some q19_42)) 4 (some q23_42))), (q7_42, ob 3 [.ref tx9, .int 0, .int 0, .int 0, .int 0, .int 0, .int 0, .int 0]), (tx9, aI E 4 (fun _ => 0)), (q11_42, ob 3 [.ref tx13, .int 0, .int 0, .int 0, .int 0, .int 0, .int 0, .int 0]), (tx13, aI E 4 (fun _ => 0)), (q15_42, ob 3 [.ref tx17, .int 0, .int 0, .int 0, .int 0, .int 0, .int 0, .int 0]), (tx17, aI E 4 (fun _ => 0)), (q19_42, ob 3 [.ref tx21, .int 0, .int 0, .int 0, .int 0, .int 0, .int 0, .int 0]), (tx21, aI E 4 (fun _ => 0)), (q23_42, ob 3 [.ref tx25, .int 0, .int 0, .int 0, .int 0, .int 0, .int 0, .int 0]), (tx25, aI E 4 (fun _ => 0))]) 3 12 rfl rfl (vin rfl) (rfl) dX9_init_49 ?_
  refine V.iinc (v := 5) (lv2 := [(1, .int 5), (0, .ref a)]) dX9_init_50 0 rfl (by decide) (by decide) rfl ?_
  refine V.goto (tgt := 31) dX9_init_53 (by decide) ?_
  refine V.iload_n dX9_init_31 0 rfl ?_
  refine V.bipush (v := 6) dX9_init_32 (by decide) ?_
  refine V.icmp_gt (tgt := 56) dX9_init_34 (by decide) (fun hc => absurd hc (by decide)) (fun _ => ?_)
  refine V.aload_n dX9_init_37 1 rfl ?_
  refine V.getf 0 2 rfl fa_X9_20_8 rfl dX9_init_38 ?_
  refine V.iload_n dX9_init_41 0 rfl ?_
  refine V.new (ci := 3) (C := RX3) (T := TX3) (N := 8) tyX3 rfl in_X3 tyX3_ok w_169 w_104 w_4 (fs := [.null, .int 0, .int 0, .int 0, .int 0, .int 0, .int 0, .int 0]) (by decide) (by decide) (by decide) dX9_init_42 (fun q27_42 hq27_42 => ?_)
  refine V.view (vw2 := [(a, ob 8 [.ref q1_7, .ref q3_15, .ref q5_23, .int 0]), (q1_7, aI E 6 (fun _ => 0)), (q3_15, aI E 6 (fun _ => 0)), (q5_23, aN E 7 (va_up (va_up (va_up (va_up (va_up (fun _ => none) 0 (some q7_42)) 1 (some q11_42)) 2 (some q15_42)) 3 (some q19_42)) 4 (some q23_42))), (q7_42, ob 3 [.ref tx9, .int 0, .int 0, .int 0, .int 0, .int 0, .int 0, .int 0]), (tx9, aI E 4 (fun _ => 0)), (q11_42, ob 3 [.ref tx13, .int 0, .int 0, .int 0, .int 0, .int 0, .int 0, .int 0]), (tx13, aI E 4 (fun _ => 0)), (q15_42, ob 3 [.ref tx17, .int 0, .int 0, .int 0, .int 0, .int 0, .int 0, .int 0]), (tx17, aI E 4 (fun _ => 0)), (q19_42, ob 3 [.ref tx21, .int 0, .int 0, .int 0, .int 0, .int 0, .int 0, .int 0]), (tx21, aI E 4 (fun _ => 0)), (q23_42, ob 3 [.ref tx25, .int 0, .int 0, .int 0, .int 0, .int 0, .int 0, .int 0]), (tx25, aI E 4 (fun _ => 0)), (q27_42, ob 3 [.null, .int 0, .int 0, .int 0, .int 0, .int 0, .int 0, .int 0])]) (L2 := (L ++ [q1_7, q3_15, q5_23, q7_42, tx9, q11_42, tx13, q15_42, tx17, q19_42, tx21, q23_42, tx25, q27_42])) rfl (by rw [List.append_assoc]; rfl) ?_
  have fr28 : Fr L [q1_7, q3_15, q5_23, q7_42, tx9, q11_42, tx13, q15_42, tx17, q19_42, tx21, q23_42, tx25, q27_42] := Fr.one (fr26) (by simpa using hq27_42)
  refine V.dup dX9_init_45 rfl ?_
  refine V.callINn (host := "RoseLane") (As := []) (rest := [.ref q27_42, .int 5, .ref q5_23]) [14] (c_Nose_init E l (L ++ [q1_7, q3_15, q5_23, q7_42, tx9, q11_42, tx13, q15_42, tx17, q19_42, tx21, q23_42, tx25, q27_42]) _ q27_42) rfl (by decide) mi_X3_init rfl (by decide) w_106 rfl rfl (Nat.le_of_ble_eq_true rfl) ⟨by decide, by decide⟩ ⟨by decide, by decide⟩ dX9_init_46 (fun _ => rfl) (fun _ => rfl) (fun _ => rfl) ?_
  rintro tx29 hp_46 hf_46 hn_46
  refine V.view (vw2 := [(a, ob 8 [.ref q1_7, .ref q3_15, .ref q5_23, .int 0]), (q1_7, aI E 6 (fun _ => 0)), (q3_15, aI E 6 (fun _ => 0)), (q5_23, aN E 7 (va_up (va_up (va_up (va_up (va_up (fun _ => none) 0 (some q7_42)) 1 (some q11_42)) 2 (some q15_42)) 3 (some q19_42)) 4 (some q23_42))), (q7_42, ob 3 [.ref tx9, .int 0, .int 0, .int 0, .int 0, .int 0, .int 0, .int 0]), (tx9, aI E 4 (fun _ => 0)), (q11_42, ob 3 [.ref tx13, .int 0, .int 0, .int 0, .int 0, .int 0, .int 0, .int 0]), (tx13, aI E 4 (fun _ => 0)), (q15_42, ob 3 [.ref tx17, .int 0, .int 0, .int 0, .int 0, .int 0, .int 0, .int 0]), (tx17, aI E 4 (fun _ => 0)), (q19_42, ob 3 [.ref tx21, .int 0, .int 0, .int 0, .int 0, .int 0, .int 0, .int 0]), (tx21, aI E 4 (fun _ => 0)), (q23_42, ob 3 [.ref tx25, .int 0, .int 0, .int 0, .int 0, .int 0, .int 0, .int 0]), (tx25, aI E 4 (fun _ => 0)), (q27_42, ob 3 [.ref tx29, .int 0, .int 0, .int 0, .int 0, .int 0, .int 0, .int 0]), (tx29, aI E 4 (fun _ => 0))]) (L2 := (L ++ [q1_7, q3_15, q5_23, q7_42, tx9, q11_42, tx13, q15_42, tx17, q19_42, tx21, q23_42, tx25, q27_42, tx29])) rfl (by rw [List.append_assoc]; rfl) ?_
  have fr30 : Fr L [q1_7, q3_15, q5_23, q7_42, tx9, q11_42, tx13, q15_42, tx17, q19_42, tx21, q23_42, tx25, q27_42, tx29] := Fr.more (fr28) (by simpa using hf_46) hn_46
  refine V.astN (ci := 3) (vw2 := [(a, ob 8 [.ref q1_7, .ref q3_15, .ref q5_23, .int 0]), (q1_7, aI E 6 (fun _ => 0)), (q3_15, aI E 6 (fun _ => 0)), (q5_23, aN E 7 (va_up (va_up (va_up (va_up (va_up (va_up (fun _ => none) 0 (some q7_42)) 1 (some q11_42)) 2 (some q15_42)) 3 (some q19_42)) 4 (some q23_42)) 5 (some q27_42))), (q7_42, ob 3 [.ref tx9, .int 0, .int 0, .int 0, .int 0, .int 0, .int 0, .int 0]), (tx9, aI E 4 (fun _ => 0)), (q11_42, ob 3 [.ref tx13, .int 0, .int 0, .int 0, .int 0, .int 0, .int 0, .int 0]), (tx13, aI E 4 (fun _ => 0)), (q15_42, ob 3 [.ref tx17, .int 0, .int 0, .int 0, .int 0, .int 0, .int 0, .int 0]), (tx17, aI E 4 (fun _ => 0)), (q19_42, ob 3 [.ref tx21, .int 0, .int 0, .int 0, .int 0, .int 0, .int 0, .int 0]), (tx21, aI E 4 (fun _ => 0)), (q23_42, ob 3 [.ref tx25, .int 0, .int 0, .int 0, .int 0, .int 0, .int 0, .int 0]), (tx25, aI E 4 (fun _ => 0)), (q27_42, ob 3 [.ref tx29, .int 0, .int 0, .int 0, .int 0, .int 0, .int 0, .int 0]), (tx29, aI E 4 (fun _ => 0))]) 3 14 rfl rfl (vin rfl) (rfl) dX9_init_49 ?_
  refine V.iinc (v := 6) (lv2 := [(1, .int 6), (0, .ref a)]) dX9_init_50 0 rfl (by decide) (by decide) rfl ?_
  refine V.goto (tgt := 31) dX9_init_53 (by decide) ?_
  refine V.iload_n dX9_init_31 0 rfl ?_
  refine V.bipush (v := 6) dX9_init_32 (by decide) ?_
  refine V.icmp_gt (tgt := 56) dX9_init_34 (by decide) (fun hc => absurd hc (by decide)) (fun _ => ?_)
  refine V.aload_n dX9_init_37 1 rfl ?_
  refine V.getf 0 2 rfl fa_X9_20_8 rfl dX9_init_38 ?_
  refine V.iload_n dX9_init_41 0 rfl ?_
  refine V.new (ci := 3) (C := RX3) (T := TX3) (N := 8) tyX3 rfl in_X3 tyX3_ok w_169 w_104 w_4 (fs := [.null, .int 0, .int 0, .int 0, .int 0, .int 0, .int 0, .int 0]) (by decide) (by decide) (by decide) dX9_init_42 (fun q31_42 hq31_42 => ?_)
  refine V.view (vw2 := [(a, ob 8 [.ref q1_7, .ref q3_15, .ref q5_23, .int 0]), (q1_7, aI E 6 (fun _ => 0)), (q3_15, aI E 6 (fun _ => 0)), (q5_23, aN E 7 (va_up (va_up (va_up (va_up (va_up (va_up (fun _ => none) 0 (some q7_42)) 1 (some q11_42)) 2 (some q15_42)) 3 (some q19_42)) 4 (some q23_42)) 5 (some q27_42))), (q7_42, ob 3 [.ref tx9, .int 0, .int 0, .int 0, .int 0, .int 0, .int 0, .int 0]), (tx9, aI E 4 (fun _ => 0)), (q11_42, ob 3 [.ref tx13, .int 0, .int 0, .int 0, .int 0, .int 0, .int 0, .int 0]), (tx13, aI E 4 (fun _ => 0)), (q15_42, ob 3 [.ref tx17, .int 0, .int 0, .int 0, .int 0, .int 0, .int 0, .int 0]), (tx17, aI E 4 (fun _ => 0)), (q19_42, ob 3 [.ref tx21, .int 0, .int 0, .int 0, .int 0, .int 0, .int 0, .int 0]), (tx21, aI E 4 (fun _ => 0)), (q23_42, ob 3 [.ref tx25, .int 0, .int 0, .int 0, .int 0, .int 0, .int 0, .int 0]), (tx25, aI E 4 (fun _ => 0)), (q27_42, ob 3 [.ref tx29, .int 0, .int 0, .int 0, .int 0, .int 0, .int 0, .int 0]), (tx29, aI E 4 (fun _ => 0)), (q31_42, ob 3 [.null, .int 0, .int 0, .int 0, .int 0, .int 0, .int 0, .int 0])]) (L2 := (L ++ [q1_7, q3_15, q5_23, q7_42, tx9, q11_42, tx13, q15_42, tx17, q19_42, tx21, q23_42, tx25, q27_42, tx29, q31_42])) rfl (by rw [List.append_assoc]; rfl) ?_
  have fr32 : Fr L [q1_7, q3_15, q5_23, q7_42, tx9, q11_42, tx13, q15_42, tx17, q19_42, tx21, q23_42, tx25, q27_42, tx29, q31_42] := Fr.one (fr30) (by simpa using hq31_42)
  refine V.dup dX9_init_45 rfl ?_
  refine V.callINn (host := "RoseLane") (As := []) (rest := [.ref q31_42, .int 6, .ref q5_23]) [16] (c_Nose_init E l (L ++ [q1_7, q3_15, q5_23, q7_42, tx9, q11_42, tx13, q15_42, tx17, q19_42, tx21, q23_42, tx25, q27_42, tx29, q31_42]) _ q31_42) rfl (by decide) mi_X3_init rfl (by decide) w_106 rfl rfl (Nat.le_of_ble_eq_true rfl) ⟨by decide, by decide⟩ ⟨by decide, by decide⟩ dX9_init_46 (fun _ => rfl) (fun _ => rfl) (fun _ => rfl) ?_
  rintro tx33 hp_46 hf_46 hn_46
  refine V.view (vw2 := [(a, ob 8 [.ref q1_7, .ref q3_15, .ref q5_23, .int 0]), (q1_7, aI E 6 (fun _ => 0)), (q3_15, aI E 6 (fun _ => 0)), (q5_23, aN E 7 (va_up (va_up (va_up (va_up (va_up (va_up (fun _ => none) 0 (some q7_42)) 1 (some q11_42)) 2 (some q15_42)) 3 (some q19_42)) 4 (some q23_42)) 5 (some q27_42))), (q7_42, ob 3 [.ref tx9, .int 0, .int 0, .int 0, .int 0, .int 0, .int 0, .int 0]), (tx9, aI E 4 (fun _ => 0)), (q11_42, ob 3 [.ref tx13, .int 0, .int 0, .int 0, .int 0, .int 0, .int 0, .int 0]), (tx13, aI E 4 (fun _ => 0)), (q15_42, ob 3 [.ref tx17, .int 0, .int 0, .int 0, .int 0, .int 0, .int 0, .int 0]), (tx17, aI E 4 (fun _ => 0)), (q19_42, ob 3 [.ref tx21, .int 0, .int 0, .int 0, .int 0, .int 0, .int 0, .int 0]), (tx21, aI E 4 (fun _ => 0)), (q23_42, ob 3 [.ref tx25, .int 0, .int 0, .int 0, .int 0, .int 0, .int 0, .int 0]), (tx25, aI E 4 (fun _ => 0)), (q27_42, ob 3 [.ref tx29, .int 0, .int 0, .int 0, .int 0, .int 0, .int 0, .int 0]), (tx29, aI E 4 (fun _ => 0)), (q31_42, ob 3 [.ref tx33, .int 0, .int 0, .int 0, .int 0, .int 0, .int 0, .int 0]), (tx33, aI E 4 (fun _ => 0))]) (L2 := (L ++ [q1_7, q3_15, q5_23, q7_42, tx9, q11_42, tx13, q15_42, tx17, q19_42, tx21, q23_42, tx25, q27_42, tx29, q31_42, tx33])) rfl (by rw [List.append_assoc]; rfl) ?_
  have fr34 : Fr L [q1_7, q3_15, q5_23, q7_42, tx9, q11_42, tx13, q15_42, tx17, q19_42, tx21, q23_42, tx25, q27_42, tx29, q31_42, tx33] := Fr.more (fr32) (by simpa using hf_46) hn_46
  refine V.astN (ci := 3) (vw2 := [(a, ob 8 [.ref q1_7, .ref q3_15, .ref q5_23, .int 0]), (q1_7, aI E 6 (fun _ => 0)), (q3_15, aI E 6 (fun _ => 0)), (q5_23, aN E 7 (va_up (va_up (va_up (va_up (va_up (va_up (va_up (fun _ => none) 0 (some q7_42)) 1 (some q11_42)) 2 (some q15_42)) 3 (some q19_42)) 4 (some q23_42)) 5 (some q27_42)) 6 (some q31_42))), (q7_42, ob 3 [.ref tx9, .int 0, .int 0, .int 0, .int 0, .int 0, .int 0, .int 0]), (tx9, aI E 4 (fun _ => 0)), (q11_42, ob 3 [.ref tx13, .int 0, .int 0, .int 0, .int 0, .int 0, .int 0, .int 0]), (tx13, aI E 4 (fun _ => 0)), (q15_42, ob 3 [.ref tx17, .int 0, .int 0, .int 0, .int 0, .int 0, .int 0, .int 0]), (tx17, aI E 4 (fun _ => 0)), (q19_42, ob 3 [.ref tx21, .int 0, .int 0, .int 0, .int 0, .int 0, .int 0, .int 0]), (tx21, aI E 4 (fun _ => 0)), (q23_42, ob 3 [.ref tx25, .int 0, .int 0, .int 0, .int 0, .int 0, .int 0, .int 0]), (tx25, aI E 4 (fun _ => 0)), (q27_42, ob 3 [.ref tx29, .int 0, .int 0, .int 0, .int 0, .int 0, .int 0, .int 0]), (tx29, aI E 4 (fun _ => 0)), (q31_42, ob 3 [.ref tx33, .int 0, .int 0, .int 0, .int 0, .int 0, .int 0, .int 0]), (tx33, aI E 4 (fun _ => 0))]) 3 16 rfl rfl (vin rfl) (rfl) dX9_init_49 ?_
  refine V.iinc (v := 7) (lv2 := [(1, .int 7), (0, .ref a)]) dX9_init_50 0 rfl (by decide) (by decide) rfl ?_
  refine V.goto (tgt := 31) dX9_init_53 (by decide) ?_
  refine V.iload_n dX9_init_31 0 rfl ?_
  refine V.bipush (v := 6) dX9_init_32 (by decide) ?_
  refine V.icmp_gt (tgt := 56) dX9_init_34 (by decide) (fun _ => ?_) (fun hc => absurd (by decide) hc)
  exact V.vret rfl dX9_init_56 (⟨(q1_7, q3_15, q5_23, q7_42, tx9, q11_42, tx13, q15_42, tx17, q19_42, tx21, q23_42, tx25, q27_42, tx29, q31_42, tx33), rfl, rfl, rfl, fr34.1, fr34.2, trivial⟩)
