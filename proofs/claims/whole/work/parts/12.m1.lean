set_option maxHeartbeats 4000000 in
set_option maxRecDepth 100000 in
theorem c_held (E : vEnv) (l : Launch) (L : List Nat) (h : Nat → va_E) (x : Int32) : CT E l yX10_held cX10_held 1 (some (.int)) 1 0 0 L h [] [.int x] (qP L h (fun (_ : Unit) => []) (fun _ => some (.int (heldI x))) (fun _ => True)) := by
  refine CT.ofV (by decide +kernel) (Nat.le_of_ble_eq_true rfl) ?_
  refine V.locals2 (lv2 := [(0, .int x)]) rfl ?_
  refine V.iconst (v := 0) dX10_held_0 (by decide) ?_
  refine V.bipush (v := 99) dX10_held_1 (by decide) ?_
  refine V.iload_n dX10_held_3 0 rfl ?_
  refine V.mmin w_514 (Nat.le_of_ble_eq_true rfl) ⟨by decide, by decide⟩ ⟨by decide, by decide⟩ dX10_held_4 ?_
  refine V.mmax w_517 (Nat.le_of_ble_eq_true rfl) ⟨by decide, by decide⟩ ⟨by decide, by decide⟩ dX10_held_7 ?_
  exact V.iret rfl dX10_held_10 (⟨(), rfl, rfl, rfl, trivial⟩)

set_option maxHeartbeats 4000000 in
set_option maxRecDepth 100000 in
theorem c_within (E : vEnv) (l : Launch) (L : List Nat) (h : Nat → va_E) (x : Int32) (a : Int32) (b : Int32) : CT E l yX10_isWithin cX10_isWithin 3 (some (.boolean)) 0 0 0 L h [] [.int x, .int a, .int b] (qP L h (fun (_ : Unit) => []) (fun _ => some (.int (withinI x a b))) (fun _ => True)) := by
  refine CT.ofV (by decide +kernel) (Nat.le_of_ble_eq_true rfl) ?_
  refine V.locals2 (lv2 := [(0, .int x), (1, .int a), (2, .int b)]) rfl ?_
  refine V.iload_n dX10_isWithin_0 1 rfl ?_
  refine V.iload_n dX10_isWithin_1 0 rfl ?_
  refine V.icmp_gt (tgt := 14) dX10_isWithin_2 (by decide) (fun c1_2 => ?_) (fun c1_2 => ?_)
  · skip
    refine V.iconst (v := 0) dX10_isWithin_14 (by decide) ?_
    exact V.zret rfl (rfl) dX10_isWithin_15 (⟨(), by first | rw [within1 (by assumption) (by assumption)] | rw [within0a (by assumption)] | rw [within0b (by assumption)], rfl, rfl, trivial⟩)
  · skip
    refine V.iload_n dX10_isWithin_5 0 rfl ?_
    refine V.iload_n dX10_isWithin_6 2 rfl ?_
    refine V.icmp_gt (tgt := 14) dX10_isWithin_7 (by decide) (fun c2_7 => ?_) (fun c2_7 => ?_)
    · skip
      refine V.iconst (v := 0) dX10_isWithin_14 (by decide) ?_
      exact V.zret rfl (rfl) dX10_isWithin_15 (⟨(), by first | rw [within1 (by assumption) (by assumption)] | rw [within0a (by assumption)] | rw [within0b (by assumption)], rfl, rfl, trivial⟩)
    · skip
      refine V.iconst (v := 1) dX10_isWithin_10 (by decide) ?_
      refine V.goto (tgt := 15) dX10_isWithin_11 (by decide) ?_
      exact V.zret rfl (rfl) dX10_isWithin_15 (⟨(), by first | rw [within1 (by assumption) (by assumption)] | rw [within0a (by assumption)] | rw [within0b (by assumption)], rfl, rfl, trivial⟩)

set_option maxHeartbeats 4000000 in
set_option maxRecDepth 100000 in
theorem c_Shop_init_5 (E : vEnv) (l : Launch) (L : List Nat) (h : Nat → va_E) (q : Nat) (x0 : Int32) (x1 : Int32) (x2 : Int32) (so : Int32) (sg : Int32) (pr : Int32) : CT E l yX6_init cX6_init 4 none 1 0 0 L h [(q, ob 5 [.int x0, .int x1, .int x2])] [.ref q, .int so, .int sg, .int pr] (qP L h (fun (_ : Unit) => [(q, ob 5 [.int so, .int sg, .int pr])]) (fun _ => none) (fun _ => True)) := by
  refine CT.ofV (by decide +kernel) (Nat.le_of_ble_eq_true rfl) ?_
  refine V.locals2 (lv2 := [(0, .ref q), (1, .int so), (2, .int sg), (3, .int pr)]) rfl ?_
  refine V.aload_n dX6_init_0 0 rfl ?_
  refine V.objInit w_195 (Nat.le_of_ble_eq_true rfl) ⟨by decide, by decide⟩ dX6_init_1 ?_
  refine V.aload_n dX6_init_4 0 rfl ?_
  refine V.iload_n dX6_init_5 1 rfl ?_
  refine V.putF 0 0 (vw2 := [(q, ob 5 [.int so, .int x1, .int x2])]) rfl fp_X6_7_5 rfl rfl rfl (Nat.le_of_ble_eq_true rfl) rfl dX6_init_6 ?_
  refine V.aload_n dX6_init_9 0 rfl ?_
  refine V.iload_n dX6_init_10 2 rfl ?_
  refine V.putF 0 1 (vw2 := [(q, ob 5 [.int so, .int sg, .int x2])]) rfl fp_X6_13_5 rfl rfl rfl (Nat.le_of_ble_eq_true rfl) rfl dX6_init_11 ?_
  refine V.aload_n dX6_init_14 0 rfl ?_
  refine V.iload_n dX6_init_15 3 rfl ?_
  refine V.putF 0 2 (vw2 := [(q, ob 5 [.int so, .int sg, .int pr])]) rfl fp_X6_16_5 rfl rfl rfl (Nat.le_of_ble_eq_true rfl) rfl dX6_init_16 ?_
  exact V.vret rfl dX6_init_19 (⟨(), rfl, rfl, rfl, trivial⟩)

set_option maxHeartbeats 4000000 in
set_option maxRecDepth 100000 in
theorem c_Shop_init_2 (E : vEnv) (l : Launch) (L : List Nat) (h : Nat → va_E) (q : Nat) (x0 : Int32) (x1 : Int32) (x2 : Int32) (so : Int32) (sg : Int32) (pr : Int32) : CT E l yX6_init cX6_init 4 none 1 0 0 L h [(q, ob 2 [.int x0, .int x1, .int x2])] [.ref q, .int so, .int sg, .int pr] (qP L h (fun (_ : Unit) => [(q, ob 2 [.int so, .int sg, .int pr])]) (fun _ => none) (fun _ => True)) := by
  refine CT.ofV (by decide +kernel) (Nat.le_of_ble_eq_true rfl) ?_
  refine V.locals2 (lv2 := [(0, .ref q), (1, .int so), (2, .int sg), (3, .int pr)]) rfl ?_
  refine V.aload_n dX6_init_0 0 rfl ?_
  refine V.objInit w_195 (Nat.le_of_ble_eq_true rfl) ⟨by decide, by decide⟩ dX6_init_1 ?_
  refine V.aload_n dX6_init_4 0 rfl ?_
  refine V.iload_n dX6_init_5 1 rfl ?_
  refine V.putF 0 0 (vw2 := [(q, ob 2 [.int so, .int x1, .int x2])]) rfl fp_X6_7_2 rfl rfl rfl (Nat.le_of_ble_eq_true rfl) rfl dX6_init_6 ?_
  refine V.aload_n dX6_init_9 0 rfl ?_
  refine V.iload_n dX6_init_10 2 rfl ?_
  refine V.putF 0 1 (vw2 := [(q, ob 2 [.int so, .int sg, .int x2])]) rfl fp_X6_13_2 rfl rfl rfl (Nat.le_of_ble_eq_true rfl) rfl dX6_init_11 ?_
  refine V.aload_n dX6_init_14 0 rfl ?_
  refine V.iload_n dX6_init_15 3 rfl ?_
  refine V.putF 0 2 (vw2 := [(q, ob 2 [.int so, .int sg, .int pr])]) rfl fp_X6_16_2 rfl rfl rfl (Nat.le_of_ble_eq_true rfl) rfl dX6_init_16 ?_
  exact V.vret rfl dX6_init_19 (⟨(), rfl, rfl, rfl, trivial⟩)

set_option maxHeartbeats 4000000 in
set_option maxRecDepth 100000 in
theorem c_Shop_init_0 (E : vEnv) (l : Launch) (L : List Nat) (h : Nat → va_E) (q : Nat) (x0 : Int32) (x1 : Int32) (x2 : Int32) (so : Int32) (sg : Int32) (pr : Int32) : CT E l yX6_init cX6_init 4 none 1 0 0 L h [(q, ob 0 [.int x0, .int x1, .int x2])] [.ref q, .int so, .int sg, .int pr] (qP L h (fun (_ : Unit) => [(q, ob 0 [.int so, .int sg, .int pr])]) (fun _ => none) (fun _ => True)) := by
  refine CT.ofV (by decide +kernel) (Nat.le_of_ble_eq_true rfl) ?_
  refine V.locals2 (lv2 := [(0, .ref q), (1, .int so), (2, .int sg), (3, .int pr)]) rfl ?_
  refine V.aload_n dX6_init_0 0 rfl ?_
  refine V.objInit w_195 (Nat.le_of_ble_eq_true rfl) ⟨by decide, by decide⟩ dX6_init_1 ?_
  refine V.aload_n dX6_init_4 0 rfl ?_
  refine V.iload_n dX6_init_5 1 rfl ?_
  refine V.putF 0 0 (vw2 := [(q, ob 0 [.int so, .int x1, .int x2])]) rfl fp_X6_7_0 rfl rfl rfl (Nat.le_of_ble_eq_true rfl) rfl dX6_init_6 ?_
  refine V.aload_n dX6_init_9 0 rfl ?_
  refine V.iload_n dX6_init_10 2 rfl ?_
  refine V.putF 0 1 (vw2 := [(q, ob 0 [.int so, .int sg, .int x2])]) rfl fp_X6_13_0 rfl rfl rfl (Nat.le_of_ble_eq_true rfl) rfl dX6_init_11 ?_
  refine V.aload_n dX6_init_14 0 rfl ?_
  refine V.iload_n dX6_init_15 3 rfl ?_
  refine V.putF 0 2 (vw2 := [(q, ob 0 [.int so, .int sg, .int pr])]) rfl fp_X6_16_0 rfl rfl rfl (Nat.le_of_ble_eq_true rfl) rfl dX6_init_16 ?_
  exact V.vret rfl dX6_init_19 (⟨(), rfl, rfl, rfl, trivial⟩)

set_option maxHeartbeats 4000000 in
set_option maxRecDepth 100000 in
theorem c_Shop_init_4 (E : vEnv) (l : Launch) (L : List Nat) (h : Nat → va_E) (q : Nat) (x0 : Int32) (x1 : Int32) (x2 : Int32) (so : Int32) (sg : Int32) (pr : Int32) : CT E l yX6_init cX6_init 4 none 1 0 0 L h [(q, ob 4 [.int x0, .int x1, .int x2])] [.ref q, .int so, .int sg, .int pr] (qP L h (fun (_ : Unit) => [(q, ob 4 [.int so, .int sg, .int pr])]) (fun _ => none) (fun _ => True)) := by
  refine CT.ofV (by decide +kernel) (Nat.le_of_ble_eq_true rfl) ?_
  refine V.locals2 (lv2 := [(0, .ref q), (1, .int so), (2, .int sg), (3, .int pr)]) rfl ?_
  refine V.aload_n dX6_init_0 0 rfl ?_
  refine V.objInit w_195 (Nat.le_of_ble_eq_true rfl) ⟨by decide, by decide⟩ dX6_init_1 ?_
  refine V.aload_n dX6_init_4 0 rfl ?_
  refine V.iload_n dX6_init_5 1 rfl ?_
  refine V.putF 0 0 (vw2 := [(q, ob 4 [.int so, .int x1, .int x2])]) rfl fp_X6_7_4 rfl rfl rfl (Nat.le_of_ble_eq_true rfl) rfl dX6_init_6 ?_
  refine V.aload_n dX6_init_9 0 rfl ?_
  refine V.iload_n dX6_init_10 2 rfl ?_
  refine V.putF 0 1 (vw2 := [(q, ob 4 [.int so, .int sg, .int x2])]) rfl fp_X6_13_4 rfl rfl rfl (Nat.le_of_ble_eq_true rfl) rfl dX6_init_11 ?_
  refine V.aload_n dX6_init_14 0 rfl ?_
  refine V.iload_n dX6_init_15 3 rfl ?_
  refine V.putF 0 2 (vw2 := [(q, ob 4 [.int so, .int sg, .int pr])]) rfl fp_X6_16_4 rfl rfl rfl (Nat.le_of_ble_eq_true rfl) rfl dX6_init_16 ?_
  exact V.vret rfl dX6_init_19 (⟨(), rfl, rfl, rfl, trivial⟩)

set_option maxHeartbeats 4000000 in
set_option maxRecDepth 100000 in
theorem c_Plain_init (E : vEnv) (l : Launch) (L : List Nat) (h : Nat → va_E) (q : Nat) (x0 : Int32) (x1 : Int32) (x2 : Int32) (so : Int32) (sg : Int32) (pr : Int32) : CT E l yX5_init cX5_init 4 none 2 0 0 L h [(q, ob 5 [.int x0, .int x1, .int x2])] [.ref q, .int so, .int sg, .int pr] (qP L h (fun (_ : Unit) => [(q, ob 5 [.int so, .int sg, .int pr])]) (fun _ => none) (fun _ => True)) := by
  refine CT.ofV (by decide +kernel) (Nat.le_of_ble_eq_true rfl) ?_
  refine V.locals2 (lv2 := [(0, .ref q), (1, .int so), (2, .int sg), (3, .int pr)]) rfl ?_
  refine V.aload_n dX5_init_0 0 rfl ?_
  refine V.iload_n dX5_init_1 1 rfl ?_
  refine V.iload_n dX5_init_2 2 rfl ?_
  refine V.iload_n dX5_init_3 3 rfl ?_
  refine V.callIp (As := [.int so, .int sg, .int pr]) (rest := []) [0] (c_Shop_init_5 E l L _ q x0 x1 x2 so sg pr) rfl (by decide) mi_X6_init rfl w_406 w_193 rfl rfl (Nat.le_of_ble_eq_true rfl) ⟨by decide, by decide⟩ ⟨by decide, by decide⟩ dX5_init_4 (vw2 := fun _ => [(q, ob 5 [.int so, .int sg, .int pr])]) (st2 := fun _ => []) (fun _ => rfl) (fun _ => rfl) (fun _ => rfl) (fun _ _ => ?_)
  exact V.vret rfl dX5_init_7 (⟨(), rfl, rfl, rfl, trivial⟩)

set_option maxHeartbeats 4000000 in
set_option maxRecDepth 100000 in
theorem c_Coffee_init (E : vEnv) (l : Launch) (L : List Nat) (h : Nat → va_E) (q : Nat) (x0 : Int32) (x1 : Int32) (x2 : Int32) (so : Int32) (sg : Int32) (pr : Int32) : CT E l yX0_init cX0_init 4 none 2 0 0 L h [(q, ob 0 [.int x0, .int x1, .int x2])] [.ref q, .int so, .int sg, .int pr] (qP L h (fun (_ : Unit) => [(q, ob 0 [.int so, .int sg, .int pr])]) (fun _ => none) (fun _ => True)) := by
  refine CT.ofV (by decide +kernel) (Nat.le_of_ble_eq_true rfl) ?_
  refine V.locals2 (lv2 := [(0, .ref q), (1, .int so), (2, .int sg), (3, .int pr)]) rfl ?_
  refine V.aload_n dX0_init_0 0 rfl ?_
  refine V.iload_n dX0_init_1 1 rfl ?_
  refine V.iload_n dX0_init_2 2 rfl ?_
  refine V.iload_n dX0_init_3 3 rfl ?_
  refine V.callIp (As := [.int so, .int sg, .int pr]) (rest := []) [0] (c_Shop_init_0 E l L _ q x0 x1 x2 so sg pr) rfl (by decide) mi_X6_init rfl w_192 w_193 rfl rfl (Nat.le_of_ble_eq_true rfl) ⟨by decide, by decide⟩ ⟨by decide, by decide⟩ dX0_init_4 (vw2 := fun _ => [(q, ob 0 [.int so, .int sg, .int pr])]) (st2 := fun _ => []) (fun _ => rfl) (fun _ => rfl) (fun _ => rfl) (fun _ _ => ?_)
  exact V.vret rfl dX0_init_7 (⟨(), rfl, rfl, rfl, trivial⟩)

set_option maxHeartbeats 4000000 in
set_option maxRecDepth 100000 in
theorem c_Nothing_init (E : vEnv) (l : Launch) (L : List Nat) (h : Nat → va_E) (q : Nat) (x0 : Int32) (x1 : Int32) (x2 : Int32) (so : Int32) (sg : Int32) (pr : Int32) : CT E l yX4_init cX4_init 4 none 2 0 0 L h [(q, ob 4 [.int x0, .int x1, .int x2])] [.ref q, .int so, .int sg, .int pr] (qP L h (fun (_ : Unit) => [(q, ob 4 [.int so, .int sg, .int pr])]) (fun _ => none) (fun _ => True)) := by
  refine CT.ofV (by decide +kernel) (Nat.le_of_ble_eq_true rfl) ?_
  refine V.locals2 (lv2 := [(0, .ref q), (1, .int so), (2, .int sg), (3, .int pr)]) rfl ?_
  refine V.aload_n dX4_init_0 0 rfl ?_
  refine V.iload_n dX4_init_1 1 rfl ?_
  refine V.iload_n dX4_init_2 2 rfl ?_
  refine V.iload_n dX4_init_3 3 rfl ?_
  refine V.callIp (As := [.int so, .int sg, .int pr]) (rest := []) [0] (c_Shop_init_4 E l L _ q x0 x1 x2 so sg pr) rfl (by decide) mi_X6_init rfl w_432 w_193 rfl rfl (Nat.le_of_ble_eq_true rfl) ⟨by decide, by decide⟩ ⟨by decide, by decide⟩ dX4_init_4 (vw2 := fun _ => [(q, ob 4 [.int so, .int sg, .int pr])]) (st2 := fun _ => []) (fun _ => rfl) (fun _ => rfl) (fun _ => rfl) (fun _ _ => ?_)
  exact V.vret rfl dX4_init_7 (⟨(), rfl, rfl, rfl, trivial⟩)

set_option maxHeartbeats 4000000 in
set_option maxRecDepth 100000 in
theorem c_Plain_init_2 (E : vEnv) (l : Launch) (L : List Nat) (h : Nat → va_E) (q : Nat) (x0 : Int32) (x1 : Int32) (x2 : Int32) (so : Int32) (sg : Int32) (pr : Int32) : CT E l yX5_init cX5_init 4 none 2 0 0 L h [(q, ob 2 [.int x0, .int x1, .int x2])] [.ref q, .int so, .int sg, .int pr] (qP L h (fun (_ : Unit) => [(q, ob 2 [.int so, .int sg, .int pr])]) (fun _ => none) (fun _ => True)) := by
  refine CT.ofV (by decide +kernel) (Nat.le_of_ble_eq_true rfl) ?_
  refine V.locals2 (lv2 := [(0, .ref q), (1, .int so), (2, .int sg), (3, .int pr)]) rfl ?_
  refine V.aload_n dX5_init_0 0 rfl ?_
  refine V.iload_n dX5_init_1 1 rfl ?_
  refine V.iload_n dX5_init_2 2 rfl ?_
  refine V.iload_n dX5_init_3 3 rfl ?_
  refine V.callIp (As := [.int so, .int sg, .int pr]) (rest := []) [0] (c_Shop_init_2 E l L _ q x0 x1 x2 so sg pr) rfl (by decide) mi_X6_init rfl w_406 w_193 rfl rfl (Nat.le_of_ble_eq_true rfl) ⟨by decide, by decide⟩ ⟨by decide, by decide⟩ dX5_init_4 (vw2 := fun _ => [(q, ob 2 [.int so, .int sg, .int pr])]) (st2 := fun _ => []) (fun _ => rfl) (fun _ => rfl) (fun _ => rfl) (fun _ _ => ?_)
  exact V.vret rfl dX5_init_7 (⟨(), rfl, rfl, rfl, trivial⟩)

set_option maxHeartbeats 4000000 in
set_option maxRecDepth 100000 in
theorem c_Musk_init (E : vEnv) (l : Launch) (L : List Nat) (h : Nat → va_E) (q : Nat) (x0 : Int32) (x1 : Int32) (x2 : Int32) (so : Int32) (sg : Int32) (pr : Int32) : CT E l yX2_init cX2_init 4 none 3 0 0 L h [(q, ob 2 [.int x0, .int x1, .int x2])] [.ref q, .int so, .int sg, .int pr] (qP L h (fun (_ : Unit) => [(q, ob 2 [.int so, .int sg, .int pr])]) (fun _ => none) (fun _ => True)) := by
  refine CT.ofV (by decide +kernel) (Nat.le_of_ble_eq_true rfl) ?_
  refine V.locals2 (lv2 := [(0, .ref q), (1, .int so), (2, .int sg), (3, .int pr)]) rfl ?_
  refine V.aload_n dX2_init_0 0 rfl ?_
  refine V.iload_n dX2_init_1 1 rfl ?_
  refine V.iload_n dX2_init_2 2 rfl ?_
  refine V.iload_n dX2_init_3 3 rfl ?_
  refine V.callIp (As := [.int so, .int sg, .int pr]) (rest := []) [0] (c_Plain_init_2 E l L _ q x0 x1 x2 so sg pr) rfl (by decide) mi_X5_init rfl w_420 w_404 rfl rfl (Nat.le_of_ble_eq_true rfl) ⟨by decide, by decide⟩ ⟨by decide, by decide⟩ dX2_init_4 (vw2 := fun _ => [(q, ob 2 [.int so, .int sg, .int pr])]) (st2 := fun _ => []) (fun _ => rfl) (fun _ => rfl) (fun _ => rfl) (fun _ _ => ?_)
  exact V.vret rfl dX2_init_7 (⟨(), rfl, rfl, rfl, trivial⟩)

set_option maxHeartbeats 4000000 in
set_option maxRecDepth 100000 in
theorem c_Plain_kind (E : vEnv) (l : Launch) (L : List Nat) (h : Nat → va_E) (q : Nat) (so : Int32) (sg : Int32) (pr : Int32) : CT E l yX5_kind cX5_kind 1 (some (.int)) 0 0 0 L h [(q, ob 5 [.int so, .int sg, .int pr])] [.ref q] (qP L h (fun (_ : Unit) => [(q, ob 5 [.int so, .int sg, .int pr])]) (fun _ => some (.int (kindI 0))) (fun _ => True)) := by
  refine CT.ofV (by decide +kernel) (Nat.le_of_ble_eq_true rfl) ?_
  refine V.locals2 (lv2 := [(0, .ref q)]) rfl ?_
  refine V.iconst (v := 0) dX5_kind_0 (by decide) ?_
  exact V.iret rfl dX5_kind_1 (⟨(), rfl, rfl, rfl, trivial⟩)

set_option maxHeartbeats 4000000 in
set_option maxRecDepth 100000 in
theorem c_Musk_kind (E : vEnv) (l : Launch) (L : List Nat) (h : Nat → va_E) (q : Nat) (so : Int32) (sg : Int32) (pr : Int32) : CT E l yX2_kind cX2_kind 1 (some (.int)) 0 0 0 L h [(q, ob 2 [.int so, .int sg, .int pr])] [.ref q] (qP L h (fun (_ : Unit) => [(q, ob 2 [.int so, .int sg, .int pr])]) (fun _ => some (.int (kindI 1))) (fun _ => True)) := by
  refine CT.ofV (by decide +kernel) (Nat.le_of_ble_eq_true rfl) ?_
  refine V.locals2 (lv2 := [(0, .ref q)]) rfl ?_
  refine V.iconst (v := 1) dX2_kind_0 (by decide) ?_
  exact V.iret rfl dX2_kind_1 (⟨(), rfl, rfl, rfl, trivial⟩)

set_option maxHeartbeats 4000000 in
set_option maxRecDepth 100000 in
theorem c_Coffee_kind (E : vEnv) (l : Launch) (L : List Nat) (h : Nat → va_E) (q : Nat) (so : Int32) (sg : Int32) (pr : Int32) : CT E l yX0_kind cX0_kind 1 (some (.int)) 0 0 0 L h [(q, ob 0 [.int so, .int sg, .int pr])] [.ref q] (qP L h (fun (_ : Unit) => [(q, ob 0 [.int so, .int sg, .int pr])]) (fun _ => some (.int (kindI 2))) (fun _ => True)) := by
  refine CT.ofV (by decide +kernel) (Nat.le_of_ble_eq_true rfl) ?_
  refine V.locals2 (lv2 := [(0, .ref q)]) rfl ?_
  refine V.iconst (v := 2) dX0_kind_0 (by decide) ?_
  exact V.iret rfl dX0_kind_1 (⟨(), rfl, rfl, rfl, trivial⟩)

set_option maxHeartbeats 4000000 in
set_option maxRecDepth 100000 in
theorem c_Nothing_kind (E : vEnv) (l : Launch) (L : List Nat) (h : Nat → va_E) (q : Nat) (so : Int32) (sg : Int32) (pr : Int32) : CT E l yX4_kind cX4_kind 1 (some (.int)) 0 0 0 L h [(q, ob 4 [.int so, .int sg, .int pr])] [.ref q] (qP L h (fun (_ : Unit) => [(q, ob 4 [.int so, .int sg, .int pr])]) (fun _ => some (.int (kindI 3))) (fun _ => True)) := by
  refine CT.ofV (by decide +kernel) (Nat.le_of_ble_eq_true rfl) ?_
  refine V.locals2 (lv2 := [(0, .ref q)]) rfl ?_
  refine V.iconst (v := 3) dX4_kind_0 (by decide) ?_
  exact V.iret rfl dX4_kind_1 (⟨(), rfl, rfl, rfl, trivial⟩)

set_option maxHeartbeats 4000000 in
set_option maxRecDepth 100000 in
theorem c_Plain_tiring (E : vEnv) (l : Launch) (L : List Nat) (h : Nat → va_E) (q : Nat) (so : Int32) (sg : Int32) (pr : Int32) (tf : Int32) (ti : Int32) : CT E l yX5_tiring cX5_tiring 4 (some (.int)) 0 0 0 L h [(q, ob 5 [.int so, .int sg, .int pr])] [.ref q, .int tf, .int ti] (qP L h (fun (_ : Unit) => [(q, ob 5 [.int so, .int sg, .int pr])]) (fun _ => some (.int (tirePl so tf ti))) (fun _ => True)) := by
  refine CT.ofV (by decide +kernel) (Nat.le_of_ble_eq_true rfl) ?_
  refine V.locals2 (lv2 := [(0, .ref q), (1, .int tf), (2, .int ti)]) rfl ?_
  refine V.iload_n dX5_tiring_0 1 rfl ?_
  refine V.aload_n dX5_tiring_1 0 rfl ?_
  refine V.getf 0 0 rfl fa_X5_9_5 rfl dX5_tiring_2 ?_
  refine V.icmp_ne (tgt := 10) dX5_tiring_5 (by decide) (fun c1_5 => ?_) (fun c1_5 => ?_)
  · skip
    refine V.aload_n dX5_tiring_10 0 rfl ?_
    refine V.getf 0 0 rfl fa_X5_9_5 rfl dX5_tiring_11 ?_
    refine V.iconst (v := 1) dX5_tiring_14 (by decide) ?_
    refine V.iadd dX5_tiring_15 ?_
    refine V.iconst (v := 4) dX5_tiring_16 (by decide) ?_
    refine V.irem dX5_tiring_17 (by decide) ?_
    refine V.istore_n (lv2 := [(3, .int ((so + 1) - (so + 1) / 4 * 4)), (0, .ref q), (1, .int tf), (2, .int ti)]) dX5_tiring_18 rfl (by decide) rfl ?_
    refine V.iload_n dX5_tiring_19 2 rfl ?_
    refine V.iload_n dX5_tiring_20 0 rfl ?_
    refine V.icmp_ne (tgt := 30) dX5_tiring_21 (by decide) (fun c2_21 => ?_) (fun c2_21 => ?_)
    · skip
      refine V.iconst (v := 0) dX5_tiring_30 (by decide) ?_
      exact V.iret rfl dX5_tiring_31 (⟨(), (by simp only [tirePl]; (repeat' split) <;> first | rfl | contradiction | (exact absurd ‹(_ : Int32) ≤ _› (Int32.not_le.mpr ‹(_ : Int32) < _›)) | (exact absurd (Int32.not_le.mp ‹¬ (_ : Int32) ≤ _›) ‹¬ (_ : Int32) < _›)), rfl, rfl, trivial⟩)
    · skip
      refine V.iload_n dX5_tiring_24 3 rfl ?_
      refine V.iconst (v := 2) dX5_tiring_25 (by decide) ?_
      refine V.idiv dX5_tiring_26 (by decide) ?_
      refine V.goto (tgt := 31) dX5_tiring_27 (by decide) ?_
      exact V.iret rfl dX5_tiring_31 (⟨(), (by simp only [tirePl]; (repeat' split) <;> first | rfl | contradiction | (exact absurd ‹(_ : Int32) ≤ _› (Int32.not_le.mpr ‹(_ : Int32) < _›)) | (exact absurd (Int32.not_le.mp ‹¬ (_ : Int32) ≤ _›) ‹¬ (_ : Int32) < _›)), rfl, rfl, trivial⟩)
  · skip
    refine V.iload_n dX5_tiring_8 2 rfl ?_
    exact V.iret rfl dX5_tiring_9 (⟨(), (by simp only [tirePl]; (repeat' split) <;> first | rfl | contradiction | (exact absurd ‹(_ : Int32) ≤ _› (Int32.not_le.mpr ‹(_ : Int32) < _›)) | (exact absurd (Int32.not_le.mp ‹¬ (_ : Int32) ≤ _›) ‹¬ (_ : Int32) < _›)), rfl, rfl, trivial⟩)

set_option maxHeartbeats 4000000 in
set_option maxRecDepth 100000 in
theorem c_Plain_tiring_2 (E : vEnv) (l : Launch) (L : List Nat) (h : Nat → va_E) (q : Nat) (so : Int32) (sg : Int32) (pr : Int32) (tf : Int32) (ti : Int32) : CT E l yX5_tiring cX5_tiring 4 (some (.int)) 0 0 0 L h [(q, ob 2 [.int so, .int sg, .int pr])] [.ref q, .int tf, .int ti] (qP L h (fun (_ : Unit) => [(q, ob 2 [.int so, .int sg, .int pr])]) (fun _ => some (.int (tirePl so tf ti))) (fun _ => True)) := by
  refine CT.ofV (by decide +kernel) (Nat.le_of_ble_eq_true rfl) ?_
  refine V.locals2 (lv2 := [(0, .ref q), (1, .int tf), (2, .int ti)]) rfl ?_
  refine V.iload_n dX5_tiring_0 1 rfl ?_
  refine V.aload_n dX5_tiring_1 0 rfl ?_
  refine V.getf 0 0 rfl fa_X5_9_2 rfl dX5_tiring_2 ?_
  refine V.icmp_ne (tgt := 10) dX5_tiring_5 (by decide) (fun c1_5 => ?_) (fun c1_5 => ?_)
  · skip
    refine V.aload_n dX5_tiring_10 0 rfl ?_
    refine V.getf 0 0 rfl fa_X5_9_2 rfl dX5_tiring_11 ?_
    refine V.iconst (v := 1) dX5_tiring_14 (by decide) ?_
    refine V.iadd dX5_tiring_15 ?_
    refine V.iconst (v := 4) dX5_tiring_16 (by decide) ?_
    refine V.irem dX5_tiring_17 (by decide) ?_
    refine V.istore_n (lv2 := [(3, .int ((so + 1) - (so + 1) / 4 * 4)), (0, .ref q), (1, .int tf), (2, .int ti)]) dX5_tiring_18 rfl (by decide) rfl ?_
    refine V.iload_n dX5_tiring_19 2 rfl ?_
    refine V.iload_n dX5_tiring_20 0 rfl ?_
    refine V.icmp_ne (tgt := 30) dX5_tiring_21 (by decide) (fun c2_21 => ?_) (fun c2_21 => ?_)
    · skip
      refine V.iconst (v := 0) dX5_tiring_30 (by decide) ?_
      exact V.iret rfl dX5_tiring_31 (⟨(), (by simp only [tirePl]; (repeat' split) <;> first | rfl | contradiction | (exact absurd ‹(_ : Int32) ≤ _› (Int32.not_le.mpr ‹(_ : Int32) < _›)) | (exact absurd (Int32.not_le.mp ‹¬ (_ : Int32) ≤ _›) ‹¬ (_ : Int32) < _›)), rfl, rfl, trivial⟩)
    · skip
      refine V.iload_n dX5_tiring_24 3 rfl ?_
      refine V.iconst (v := 2) dX5_tiring_25 (by decide) ?_
      refine V.idiv dX5_tiring_26 (by decide) ?_
      refine V.goto (tgt := 31) dX5_tiring_27 (by decide) ?_
      exact V.iret rfl dX5_tiring_31 (⟨(), (by simp only [tirePl]; (repeat' split) <;> first | rfl | contradiction | (exact absurd ‹(_ : Int32) ≤ _› (Int32.not_le.mpr ‹(_ : Int32) < _›)) | (exact absurd (Int32.not_le.mp ‹¬ (_ : Int32) ≤ _›) ‹¬ (_ : Int32) < _›)), rfl, rfl, trivial⟩)
  · skip
    refine V.iload_n dX5_tiring_8 2 rfl ?_
    exact V.iret rfl dX5_tiring_9 (⟨(), (by simp only [tirePl]; (repeat' split) <;> first | rfl | contradiction | (exact absurd ‹(_ : Int32) ≤ _› (Int32.not_le.mpr ‹(_ : Int32) < _›)) | (exact absurd (Int32.not_le.mp ‹¬ (_ : Int32) ≤ _›) ‹¬ (_ : Int32) < _›)), rfl, rfl, trivial⟩)

set_option maxHeartbeats 4000000 in
set_option maxRecDepth 100000 in
theorem c_Musk_tiring (E : vEnv) (l : Launch) (L : List Nat) (h : Nat → va_E) (q : Nat) (so : Int32) (sg : Int32) (pr : Int32) (tf : Int32) (ti : Int32) : CT E l yX2_tiring cX2_tiring 3 (some (.int)) 1 0 0 L h [(q, ob 2 [.int so, .int sg, .int pr])] [.ref q, .int tf, .int ti] (qP L h (fun (_ : Unit) => [(q, ob 2 [.int so, .int sg, .int pr])]) (fun _ => some (.int (tirePl so tf ti + 2))) (fun _ => True)) := by
  refine CT.ofV (by decide +kernel) (Nat.le_of_ble_eq_true rfl) ?_
  refine V.locals2 (lv2 := [(0, .ref q), (1, .int tf), (2, .int ti)]) rfl ?_
  refine V.aload_n dX2_tiring_0 0 rfl ?_
  refine V.iload_n dX2_tiring_1 1 rfl ?_
  refine V.iload_n dX2_tiring_2 2 rfl ?_
  refine V.callSUp (As := [.int tf, .int ti]) (rest := []) [0] (c_Plain_tiring_2 E l L _ q so sg pr tf ti) rfl (by decide) mi_X5_tiring 0 rfl rfl w_504 w_1022 w_424 w_505 (by decide) rfl rfl (Nat.le_of_ble_eq_true rfl) ⟨by decide, by decide⟩ ⟨by decide, by decide⟩ dX2_tiring_3 (vw2 := fun _ => [(q, ob 2 [.int so, .int sg, .int pr])]) (st2 := fun _ => [.int (tirePl so tf ti)]) (fun _ => rfl) (fun _ => rfl) (fun _ => rfl) (fun _ _ => ?_)
  refine V.iconst (v := 2) dX2_tiring_6 (by decide) ?_
  refine V.iadd dX2_tiring_7 ?_
  exact V.iret rfl dX2_tiring_8 (⟨(), rfl, rfl, rfl, trivial⟩)

set_option maxHeartbeats 4000000 in
set_option maxRecDepth 100000 in
theorem c_Coffee_tiring (E : vEnv) (l : Launch) (L : List Nat) (h : Nat → va_E) (q : Nat) (so : Int32) (sg : Int32) (pr : Int32) (tf : Int32) (ti : Int32) : CT E l yX0_tiring cX0_tiring 3 (some (.int)) 0 0 0 L h [(q, ob 0 [.int so, .int sg, .int pr])] [.ref q, .int tf, .int ti] (qP L h (fun (_ : Unit) => [(q, ob 0 [.int so, .int sg, .int pr])]) (fun _ => some (.int (-10))) (fun _ => True)) := by
  refine CT.ofV (by decide +kernel) (Nat.le_of_ble_eq_true rfl) ?_
  refine V.locals2 (lv2 := [(0, .ref q), (1, .int tf), (2, .int ti)]) rfl ?_
  refine V.bipush (v := (-10)) dX0_tiring_0 (by decide) ?_
  exact V.iret rfl dX0_tiring_2 (⟨(), rfl, rfl, rfl, trivial⟩)

set_option maxHeartbeats 4000000 in
set_option maxRecDepth 100000 in
theorem c_Nothing_tiring (E : vEnv) (l : Launch) (L : List Nat) (h : Nat → va_E) (q : Nat) (so : Int32) (sg : Int32) (pr : Int32) (tf : Int32) (ti : Int32) : CT E l yX4_tiring cX4_tiring 3 (some (.int)) 0 0 0 L h [(q, ob 4 [.int so, .int sg, .int pr])] [.ref q, .int tf, .int ti] (qP L h (fun (_ : Unit) => [(q, ob 4 [.int so, .int sg, .int pr])]) (fun _ => some (.int 0)) (fun _ => True)) := by
  refine CT.ofV (by decide +kernel) (Nat.le_of_ble_eq_true rfl) ?_
  refine V.locals2 (lv2 := [(0, .ref q), (1, .int tf), (2, .int ti)]) rfl ?_
  refine V.iconst (v := 0) dX4_tiring_0 (by decide) ?_
  exact V.iret rfl dX4_tiring_1 (⟨(), rfl, rfl, rfl, trivial⟩)

set_option maxHeartbeats 4000000 in
set_option maxRecDepth 100000 in
theorem c_Shop_smeltBy_0 (E : vEnv) (l : Launch) (L : List Nat) (h : Nat → va_E) (q : Nat) (so : Int32) (sg : Int32) (pr : Int32) (td : Int32) (cb : Int32) : CT E l yX6_smeltBy cX6_smeltBy 4 (some (.int)) 1 0 0 L h [(q, ob 0 [.int so, .int sg, .int pr])] [.ref q, .int td, .int cb] (qP L h (fun (_ : Unit) => [(q, ob 0 [.int so, .int sg, .int pr])]) (fun _ => some (.int (smeltPl sg td cb))) (fun _ => True)) := by
  refine CT.ofV (by decide +kernel) (Nat.le_of_ble_eq_true rfl) ?_
  refine V.locals2 (lv2 := [(0, .ref q), (1, .int td), (2, .int cb)]) rfl ?_
  refine V.iconst (v := 0) dX6_smeltBy_0 (by decide) ?_
  refine V.aload_n dX6_smeltBy_1 0 rfl ?_
  refine V.getf 0 1 rfl fa_X6_13_0 rfl dX6_smeltBy_2 ?_
  refine V.iload_n dX6_smeltBy_5 1 rfl ?_
  refine V.isub dX6_smeltBy_6 ?_
  refine V.mmax w_482 (Nat.le_of_ble_eq_true rfl) ⟨by decide, by decide⟩ ⟨by decide, by decide⟩ dX6_smeltBy_7 ?_
  refine V.istore_n (lv2 := [(3, .int (if 0 < (sg - td) then (sg - td) else 0)), (0, .ref q), (1, .int td), (2, .int cb)]) dX6_smeltBy_10 rfl (by decide) rfl ?_
  refine V.iload_n dX6_smeltBy_11 3 rfl ?_
  refine V.if_eq (tgt := 21) dX6_smeltBy_12 (by decide) (fun c1_12 => ?_) (fun c1_12 => ?_)
  · skip
    refine V.iload_n dX6_smeltBy_21 0 rfl ?_
    exact V.iret rfl dX6_smeltBy_22 (⟨(), by simp only [smeltPl, *, if_pos, if_neg, not_false_eq_true, ↓reduceIte], rfl, rfl, trivial⟩)
  · skip
    refine V.iload_n dX6_smeltBy_15 0 rfl ?_
    refine V.iconst (v := 2) dX6_smeltBy_16 (by decide) ?_
    refine V.idiv dX6_smeltBy_17 (by decide) ?_
    refine V.goto (tgt := 22) dX6_smeltBy_18 (by decide) ?_
    exact V.iret rfl dX6_smeltBy_22 (⟨(), by simp only [smeltPl, *, if_pos, if_neg, not_false_eq_true, ↓reduceIte], rfl, rfl, trivial⟩)

set_option maxHeartbeats 4000000 in
set_option maxRecDepth 100000 in
theorem c_Shop_smeltBy_2 (E : vEnv) (l : Launch) (L : List Nat) (h : Nat → va_E) (q : Nat) (so : Int32) (sg : Int32) (pr : Int32) (td : Int32) (cb : Int32) : CT E l yX6_smeltBy cX6_smeltBy 4 (some (.int)) 1 0 0 L h [(q, ob 2 [.int so, .int sg, .int pr])] [.ref q, .int td, .int cb] (qP L h (fun (_ : Unit) => [(q, ob 2 [.int so, .int sg, .int pr])]) (fun _ => some (.int (smeltPl sg td cb))) (fun _ => True)) := by
  refine CT.ofV (by decide +kernel) (Nat.le_of_ble_eq_true rfl) ?_
  refine V.locals2 (lv2 := [(0, .ref q), (1, .int td), (2, .int cb)]) rfl ?_
  refine V.iconst (v := 0) dX6_smeltBy_0 (by decide) ?_
  refine V.aload_n dX6_smeltBy_1 0 rfl ?_
  refine V.getf 0 1 rfl fa_X6_13_2 rfl dX6_smeltBy_2 ?_
  refine V.iload_n dX6_smeltBy_5 1 rfl ?_
  refine V.isub dX6_smeltBy_6 ?_
  refine V.mmax w_482 (Nat.le_of_ble_eq_true rfl) ⟨by decide, by decide⟩ ⟨by decide, by decide⟩ dX6_smeltBy_7 ?_
  refine V.istore_n (lv2 := [(3, .int (if 0 < (sg - td) then (sg - td) else 0)), (0, .ref q), (1, .int td), (2, .int cb)]) dX6_smeltBy_10 rfl (by decide) rfl ?_
  refine V.iload_n dX6_smeltBy_11 3 rfl ?_
  refine V.if_eq (tgt := 21) dX6_smeltBy_12 (by decide) (fun c1_12 => ?_) (fun c1_12 => ?_)
  · skip
    refine V.iload_n dX6_smeltBy_21 0 rfl ?_
    exact V.iret rfl dX6_smeltBy_22 (⟨(), by simp only [smeltPl, *, if_pos, if_neg, not_false_eq_true, ↓reduceIte], rfl, rfl, trivial⟩)
  · skip
    refine V.iload_n dX6_smeltBy_15 0 rfl ?_
    refine V.iconst (v := 2) dX6_smeltBy_16 (by decide) ?_
    refine V.idiv dX6_smeltBy_17 (by decide) ?_
    refine V.goto (tgt := 22) dX6_smeltBy_18 (by decide) ?_
    exact V.iret rfl dX6_smeltBy_22 (⟨(), by simp only [smeltPl, *, if_pos, if_neg, not_false_eq_true, ↓reduceIte], rfl, rfl, trivial⟩)

set_option maxHeartbeats 4000000 in
set_option maxRecDepth 100000 in
theorem c_Shop_smeltBy_5 (E : vEnv) (l : Launch) (L : List Nat) (h : Nat → va_E) (q : Nat) (so : Int32) (sg : Int32) (pr : Int32) (td : Int32) (cb : Int32) : CT E l yX6_smeltBy cX6_smeltBy 4 (some (.int)) 1 0 0 L h [(q, ob 5 [.int so, .int sg, .int pr])] [.ref q, .int td, .int cb] (qP L h (fun (_ : Unit) => [(q, ob 5 [.int so, .int sg, .int pr])]) (fun _ => some (.int (smeltPl sg td cb))) (fun _ => True)) := by
  refine CT.ofV (by decide +kernel) (Nat.le_of_ble_eq_true rfl) ?_
  refine V.locals2 (lv2 := [(0, .ref q), (1, .int td), (2, .int cb)]) rfl ?_
  refine V.iconst (v := 0) dX6_smeltBy_0 (by decide) ?_
  refine V.aload_n dX6_smeltBy_1 0 rfl ?_
  refine V.getf 0 1 rfl fa_X6_13_5 rfl dX6_smeltBy_2 ?_
  refine V.iload_n dX6_smeltBy_5 1 rfl ?_
  refine V.isub dX6_smeltBy_6 ?_
  refine V.mmax w_482 (Nat.le_of_ble_eq_true rfl) ⟨by decide, by decide⟩ ⟨by decide, by decide⟩ dX6_smeltBy_7 ?_
  refine V.istore_n (lv2 := [(3, .int (if 0 < (sg - td) then (sg - td) else 0)), (0, .ref q), (1, .int td), (2, .int cb)]) dX6_smeltBy_10 rfl (by decide) rfl ?_
  refine V.iload_n dX6_smeltBy_11 3 rfl ?_
  refine V.if_eq (tgt := 21) dX6_smeltBy_12 (by decide) (fun c1_12 => ?_) (fun c1_12 => ?_)
  · skip
    refine V.iload_n dX6_smeltBy_21 0 rfl ?_
    exact V.iret rfl dX6_smeltBy_22 (⟨(), by simp only [smeltPl, *, if_pos, if_neg, not_false_eq_true, ↓reduceIte], rfl, rfl, trivial⟩)
  · skip
    refine V.iload_n dX6_smeltBy_15 0 rfl ?_
    refine V.iconst (v := 2) dX6_smeltBy_16 (by decide) ?_
    refine V.idiv dX6_smeltBy_17 (by decide) ?_
    refine V.goto (tgt := 22) dX6_smeltBy_18 (by decide) ?_
    exact V.iret rfl dX6_smeltBy_22 (⟨(), by simp only [smeltPl, *, if_pos, if_neg, not_false_eq_true, ↓reduceIte], rfl, rfl, trivial⟩)

set_option maxHeartbeats 4000000 in
set_option maxRecDepth 100000 in
theorem c_Nothing_smeltBy (E : vEnv) (l : Launch) (L : List Nat) (h : Nat → va_E) (q : Nat) (so : Int32) (sg : Int32) (pr : Int32) (td : Int32) (cb : Int32) : CT E l yX4_smeltBy cX4_smeltBy 3 (some (.int)) 0 0 0 L h [(q, ob 4 [.int so, .int sg, .int pr])] [.ref q, .int td, .int cb] (qP L h (fun (_ : Unit) => [(q, ob 4 [.int so, .int sg, .int pr])]) (fun _ => some (.int 3)) (fun _ => True)) := by
  refine CT.ofV (by decide +kernel) (Nat.le_of_ble_eq_true rfl) ?_
  refine V.locals2 (lv2 := [(0, .ref q), (1, .int td), (2, .int cb)]) rfl ?_
  refine V.iconst (v := 3) dX4_smeltBy_0 (by decide) ?_
  exact V.iret rfl dX4_smeltBy_1 (⟨(), rfl, rfl, rfl, trivial⟩)
