set_option maxHeartbeats 4000000 in
set_option maxRecDepth 100000 in
theorem c_Lane_setFirst (E : vEnv) (l : Launch) (L : List Nat) (h : Nat → va_E) (lo : Nat) (lt : Nat) (lr : Nat) (lw : Nat) (x0 : Int32) (wa : Int32) (lp : Int32) (ti : Nat → Int32) (r : Nat → Int32) : CT E l yX1_setFirst cX1_setFirst 2 none 0 0 0 L h [(lo, ob 1 [.ref lt, .ref lr, .ref lw, .int x0, .int wa, .int lp]), (lt, aI E 4 ti), (lr, aI E 4 r)] [.ref lo] (qP L h (fun (_ : Unit) => [(lo, ob 1 [.ref lt, .ref lr, .ref lw, .int 0, .int 10, .int 60]), (lt, aI E 4 (fun _ => 4)), (lr, aI E 4 (fun _ => 1))]) (fun _ => none) (fun _ => True)) := by
  refine CT.ofV (by decide +kernel) (Nat.le_of_ble_eq_true rfl) ?_
  refine V.locals2 (lv2 := [(0, .ref lo)]) rfl ?_
  refine V.iconst (v := 0) dX1_setFirst_0 (by decide) ?_
  refine V.istore_n (lv2 := [(1, .int 0), (0, .ref lo)]) dX1_setFirst_1 rfl (by decide) rfl ?_
  refine V.iload_n dX1_setFirst_2 0 rfl ?_
  refine V.iconst (v := 4) dX1_setFirst_3 (by decide) ?_
  refine V.icmp_ge (tgt := 27) dX1_setFirst_4 (by decide) (fun hc => absurd hc (by decide)) (fun _ => ?_)
  refine V.aload_n dX1_setFirst_7 1 rfl ?_
  refine V.getf 0 0 rfl fa_X1_9_1 rfl dX1_setFirst_8 ?_
  refine V.iload_n dX1_setFirst_11 0 rfl ?_
  refine V.iconst (v := 4) dX1_setFirst_12 (by decide) ?_
  refine V.iast (vw2 := [(lo, ob 1 [.ref lt, .ref lr, .ref lw, .int x0, .int wa, .int lp]), (lt, aI E 4 (upd ti 0 4)), (lr, aI E 4 r)]) 1 rfl (vin rfl) (rfl) dX1_setFirst_13 ?_
  refine V.aload_n dX1_setFirst_14 1 rfl ?_
  refine V.getf 0 1 rfl fa_X1_15_1 rfl dX1_setFirst_15 ?_
  refine V.iload_n dX1_setFirst_18 0 rfl ?_
  refine V.iconst (v := 1) dX1_setFirst_19 (by decide) ?_
  refine V.iast (vw2 := [(lo, ob 1 [.ref lt, .ref lr, .ref lw, .int x0, .int wa, .int lp]), (lt, aI E 4 (upd ti 0 4)), (lr, aI E 4 (upd r 0 1))]) 2 rfl (vin rfl) (rfl) dX1_setFirst_20 ?_
  refine V.iinc (v := 1) (lv2 := [(1, .int 1), (0, .ref lo)]) dX1_setFirst_21 0 rfl (by decide) (by decide) rfl ?_
  refine V.goto (tgt := 2) dX1_setFirst_24 (by decide) ?_
  refine V.iload_n dX1_setFirst_2 0 rfl ?_
  refine V.iconst (v := 4) dX1_setFirst_3 (by decide) ?_
  refine V.icmp_ge (tgt := 27) dX1_setFirst_4 (by decide) (fun hc => absurd hc (by decide)) (fun _ => ?_)
  refine V.aload_n dX1_setFirst_7 1 rfl ?_
  refine V.getf 0 0 rfl fa_X1_9_1 rfl dX1_setFirst_8 ?_
  refine V.iload_n dX1_setFirst_11 0 rfl ?_
  refine V.iconst (v := 4) dX1_setFirst_12 (by decide) ?_
  refine V.iast (vw2 := [(lo, ob 1 [.ref lt, .ref lr, .ref lw, .int x0, .int wa, .int lp]), (lt, aI E 4 (upd (upd ti 0 4) 1 4)), (lr, aI E 4 (upd r 0 1))]) 1 rfl (vin rfl) (rfl) dX1_setFirst_13 ?_
  refine V.aload_n dX1_setFirst_14 1 rfl ?_
  refine V.getf 0 1 rfl fa_X1_15_1 rfl dX1_setFirst_15 ?_
  refine V.iload_n dX1_setFirst_18 0 rfl ?_
  refine V.iconst (v := 1) dX1_setFirst_19 (by decide) ?_
  refine V.iast (vw2 := [(lo, ob 1 [.ref lt, .ref lr, .ref lw, .int x0, .int wa, .int lp]), (lt, aI E 4 (upd (upd ti 0 4) 1 4)), (lr, aI E 4 (upd (upd r 0 1) 1 1))]) 2 rfl (vin rfl) (rfl) dX1_setFirst_20 ?_
  refine V.iinc (v := 2) (lv2 := [(1, .int 2), (0, .ref lo)]) dX1_setFirst_21 0 rfl (by decide) (by decide) rfl ?_
  refine V.goto (tgt := 2) dX1_setFirst_24 (by decide) ?_
  refine V.iload_n dX1_setFirst_2 0 rfl ?_
  refine V.iconst (v := 4) dX1_setFirst_3 (by decide) ?_
  refine V.icmp_ge (tgt := 27) dX1_setFirst_4 (by decide) (fun hc => absurd hc (by decide)) (fun _ => ?_)
  refine V.aload_n dX1_setFirst_7 1 rfl ?_
  refine V.getf 0 0 rfl fa_X1_9_1 rfl dX1_setFirst_8 ?_
  refine V.iload_n dX1_setFirst_11 0 rfl ?_
  refine V.iconst (v := 4) dX1_setFirst_12 (by decide) ?_
  refine V.iast (vw2 := [(lo, ob 1 [.ref lt, .ref lr, .ref lw, .int x0, .int wa, .int lp]), (lt, aI E 4 (upd (upd (upd ti 0 4) 1 4) 2 4)), (lr, aI E 4 (upd (upd r 0 1) 1 1))]) 1 rfl (vin rfl) (rfl) dX1_setFirst_13 ?_
  refine V.aload_n dX1_setFirst_14 1 rfl ?_
  refine V.getf 0 1 rfl fa_X1_15_1 rfl dX1_setFirst_15 ?_
  refine V.iload_n dX1_setFirst_18 0 rfl ?_
  refine V.iconst (v := 1) dX1_setFirst_19 (by decide) ?_
  refine V.iast (vw2 := [(lo, ob 1 [.ref lt, .ref lr, .ref lw, .int x0, .int wa, .int lp]), (lt, aI E 4 (upd (upd (upd ti 0 4) 1 4) 2 4)), (lr, aI E 4 (upd (upd (upd r 0 1) 1 1) 2 1))]) 2 rfl (vin rfl) (rfl) dX1_setFirst_20 ?_
  refine V.iinc (v := 3) (lv2 := [(1, .int 3), (0, .ref lo)]) dX1_setFirst_21 0 rfl (by decide) (by decide) rfl ?_
  refine V.goto (tgt := 2) dX1_setFirst_24 (by decide) ?_
  refine V.iload_n dX1_setFirst_2 0 rfl ?_
  refine V.iconst (v := 4) dX1_setFirst_3 (by decide) ?_
  refine V.icmp_ge (tgt := 27) dX1_setFirst_4 (by decide) (fun hc => absurd hc (by decide)) (fun _ => ?_)
  refine V.aload_n dX1_setFirst_7 1 rfl ?_
  refine V.getf 0 0 rfl fa_X1_9_1 rfl dX1_setFirst_8 ?_
  refine V.iload_n dX1_setFirst_11 0 rfl ?_
  refine V.iconst (v := 4) dX1_setFirst_12 (by decide) ?_
  refine V.iast (vw2 := [(lo, ob 1 [.ref lt, .ref lr, .ref lw, .int x0, .int wa, .int lp]), (lt, aI E 4 (upd (upd (upd (upd ti 0 4) 1 4) 2 4) 3 4)), (lr, aI E 4 (upd (upd (upd r 0 1) 1 1) 2 1))]) 1 rfl (vin rfl) (rfl) dX1_setFirst_13 ?_
  refine V.aload_n dX1_setFirst_14 1 rfl ?_
  refine V.getf 0 1 rfl fa_X1_15_1 rfl dX1_setFirst_15 ?_
  refine V.iload_n dX1_setFirst_18 0 rfl ?_
  refine V.iconst (v := 1) dX1_setFirst_19 (by decide) ?_
  refine V.iast (vw2 := [(lo, ob 1 [.ref lt, .ref lr, .ref lw, .int x0, .int wa, .int lp]), (lt, aI E 4 (upd (upd (upd (upd ti 0 4) 1 4) 2 4) 3 4)), (lr, aI E 4 (upd (upd (upd (upd r 0 1) 1 1) 2 1) 3 1))]) 2 rfl (vin rfl) (rfl) dX1_setFirst_20 ?_
  refine V.iinc (v := 4) (lv2 := [(1, .int 4), (0, .ref lo)]) dX1_setFirst_21 0 rfl (by decide) (by decide) rfl ?_
  refine V.goto (tgt := 2) dX1_setFirst_24 (by decide) ?_
  refine V.iload_n dX1_setFirst_2 0 rfl ?_
  refine V.iconst (v := 4) dX1_setFirst_3 (by decide) ?_
  refine V.icmp_ge (tgt := 27) dX1_setFirst_4 (by decide) (fun _ => ?_) (fun hc => absurd (by decide) hc)
  refine V.arrEq (vw2 := [(lo, ob 1 [.ref lt, .ref lr, .ref lw, .int x0, .int wa, .int lp]), (lt, aI E 4 (fun _ => 4)), (lr, aI E 4 (upd (upd (upd (upd r 0 1) 1 1) 2 1) 3 1))]) 1 0 rfl (fun j hj => by rcases (show j = 0 ∨ j = 1 ∨ j = 2 ∨ j = 3 by omega) with rfl | rfl | rfl | rfl <;> rfl) rfl ?_
  refine V.arrEq (vw2 := [(lo, ob 1 [.ref lt, .ref lr, .ref lw, .int x0, .int wa, .int lp]), (lt, aI E 4 (fun _ => 4)), (lr, aI E 4 (fun _ => 1))]) 2 0 rfl (fun j hj => by rcases (show j = 0 ∨ j = 1 ∨ j = 2 ∨ j = 3 by omega) with rfl | rfl | rfl | rfl <;> rfl) rfl ?_
  refine V.aload_n dX1_setFirst_27 1 rfl ?_
  refine V.iconst (v := 0) dX1_setFirst_28 (by decide) ?_
  refine V.putf 0 3 (vw2 := [(lo, ob 1 [.ref lt, .ref lr, .ref lw, .int 0, .int wa, .int lp]), (lt, aI E 4 (fun _ => 4)), (lr, aI E 4 (fun _ => 1))]) rfl fp_X1_27_1 rfl rfl (Nat.le_of_ble_eq_true rfl) rfl dX1_setFirst_29 ?_
  refine V.aload_n dX1_setFirst_32 1 rfl ?_
  refine V.bipush (v := 10) dX1_setFirst_33 (by decide) ?_
  refine V.putf 0 4 (vw2 := [(lo, ob 1 [.ref lt, .ref lr, .ref lw, .int 0, .int 10, .int lp]), (lt, aI E 4 (fun _ => 4)), (lr, aI E 4 (fun _ => 1))]) rfl fp_X1_31_1 rfl rfl (Nat.le_of_ble_eq_true rfl) rfl dX1_setFirst_35 ?_
  refine V.aload_n dX1_setFirst_38 1 rfl ?_
  refine V.bipush (v := 60) dX1_setFirst_39 (by decide) ?_
  refine V.putf 0 5 (vw2 := [(lo, ob 1 [.ref lt, .ref lr, .ref lw, .int 0, .int 10, .int 60]), (lt, aI E 4 (fun _ => 4)), (lr, aI E 4 (fun _ => 1))]) rfl fp_X1_34_1 rfl rfl (Nat.le_of_ble_eq_true rfl) rfl dX1_setFirst_41 ?_
  exact V.vret rfl dX1_setFirst_44 (⟨(), rfl, rfl, rfl, trivial⟩)

set_option maxHeartbeats 4000000 in
set_option maxRecDepth 100000 in
theorem c_Lane_setSort (E : vEnv) (l : Launch) (L : List Nat) (h : Nat → va_E) (lo : Nat) (lt : Nat) (lr : Nat) (lw : Nat) (m : Nat) (wa : Int32) (lp : Int32) (ti : Nat → Int32) (r : Nat → Int32) (so : Nat) (x1 : Int32) (x2 : Int32) (hs : so < 4) : CT E l yX1_setSort cX1_setSort 4 none 1 0 0 L h [(lo, ob 1 [.ref lt, .ref lr, .ref lw, .int (nI m), .int wa, .int lp]), (lt, aI E 4 ti), (lr, aI E 4 r)] [.ref lo, .int (nI so), .int x1, .int x2] (qP L h (fun (_ : Unit) => [(lo, ob 1 [.ref lt, .ref lr, .ref lw, .int (nI m), .int wa, .int lp]), (lt, aI E 4 (upd ti so x1)), (lr, aI E 4 (upd r so x2))]) (fun _ => none) (fun _ => True)) := by
  refine CT.ofV (by decide +kernel) (Nat.le_of_ble_eq_true rfl) ?_
  refine V.locals2 (lv2 := [(0, .ref lo), (1, .int (nI so)), (2, .int x1), (3, .int x2)]) rfl ?_
  refine V.iload_n dX1_setSort_0 1 rfl ?_
  refine V.iconst (v := 0) dX1_setSort_1 (by decide) ?_
  refine V.iconst (v := 3) dX1_setSort_2 (by decide) ?_
  refine V.callSNp (host := "RoseLane") (As := [.int (nI so), .int 0, .int 3]) (rest := []) [] (c_within E l L _ ((nI so)) 0 3) rfl (by decide) mi_X10_isWithin (by decide) w_268 rfl rfl (Nat.le_of_ble_eq_true rfl) ⟨by decide, by decide⟩ ⟨by decide, by decide⟩ dX1_setSort_3 (vw2 := fun _ => [(lo, ob 1 [.ref lt, .ref lr, .ref lw, .int (nI m), .int wa, .int lp]), (lt, aI E 4 ti), (lr, aI E 4 r)]) (st2 := fun _ => [.int (withinI (nI so) 0 3)]) (fun _ => rfl) (fun _ => rfl) (fun _ => rfl) (fun _ _ => ?_)
  refine V.topc (v := 1) (within_nI (m := 4) hs (by omega)) ?_
  refine V.if_eq (tgt := 23) dX1_setSort_6 (by decide) (fun hc => absurd hc (by decide)) (fun _ => ?_)
  refine V.aload_n dX1_setSort_9 0 rfl ?_
  refine V.getf 0 0 rfl fa_X1_9_1 rfl dX1_setSort_10 ?_
  refine V.iload_n dX1_setSort_13 1 rfl ?_
  refine V.iload_n dX1_setSort_14 2 rfl ?_
  refine V.iast (vw2 := [(lo, ob 1 [.ref lt, .ref lr, .ref lw, .int (nI m), .int wa, .int lp]), (lt, aI E 4 (upd ti so x1)), (lr, aI E 4 r)]) 1 rfl (mod4_in hs) (by rw [nI_clamp (by omega)] <;> rfl) dX1_setSort_15 ?_
  refine V.aload_n dX1_setSort_16 0 rfl ?_
  refine V.getf 0 1 rfl fa_X1_15_1 rfl dX1_setSort_17 ?_
  refine V.iload_n dX1_setSort_20 1 rfl ?_
  refine V.iload_n dX1_setSort_21 3 rfl ?_
  refine V.iast (vw2 := [(lo, ob 1 [.ref lt, .ref lr, .ref lw, .int (nI m), .int wa, .int lp]), (lt, aI E 4 (upd ti so x1)), (lr, aI E 4 (upd r so x2))]) 2 rfl (mod4_in hs) (by rw [nI_clamp (by omega)] <;> rfl) dX1_setSort_22 ?_
  exact V.vret rfl dX1_setSort_23 (⟨(), rfl, rfl, rfl, trivial⟩)

set_option maxHeartbeats 4000000 in
set_option maxRecDepth 100000 in
theorem c_Lane_open_5 (E : vEnv) (l : Launch) (L : List Nat) (h : Nat → va_E) (lo : Nat) (lt : Nat) (lr : Nat) (lw : Nat) (m : Nat) (wa : Int32) (lp : Int32) (wf : Nat → Option Nat) (q : Nat) (so : Int32) (sg : Int32) (pr : Int32) (hm : m < 6) : CT E l yX1_open cX1_open 2 none 0 0 0 L h [(lo, ob 1 [.ref lt, .ref lr, .ref lw, .int (nI m), .int wa, .int lp]), (lw, aS E 6 wf), (q, ob 5 [.int so, .int sg, .int pr])] [.ref lo, .ref q] (qP L h (fun (_ : Unit) => [(lo, ob 1 [.ref lt, .ref lr, .ref lw, .int (nI (m + 1)), .int wa, .int lp]), (lw, aS E 6 (va_up wf m (some q))), (q, ob 5 [.int so, .int sg, .int pr])]) (fun _ => none) (fun _ => True)) := by
  refine CT.ofV (by decide +kernel) (Nat.le_of_ble_eq_true rfl) ?_
  refine V.locals2 (lv2 := [(0, .ref lo), (1, .ref q)]) rfl ?_
  refine V.aload_n dX1_open_0 0 rfl ?_
  refine V.getf 0 3 rfl fa_X1_27_1 rfl dX1_open_1 ?_
  refine V.bipush (v := 6) dX1_open_4 (by decide) ?_
  refine V.icmp_ge (tgt := 29) dX1_open_6 (by decide) (fun hc => absurd hc (show ¬ nI 6 ≤ nI m from nI_ge hm (by omega))) (fun _ => ?_)
  refine V.aload_n dX1_open_9 0 rfl ?_
  refine V.getf 0 2 rfl fa_X1_20_1 rfl dX1_open_10 ?_
  refine V.aload_n dX1_open_13 0 rfl ?_
  refine V.getf 0 3 rfl fa_X1_27_1 rfl dX1_open_14 ?_
  refine V.aload_n dX1_open_17 1 rfl ?_
  refine V.astS (vw2 := [(lo, ob 1 [.ref lt, .ref lr, .ref lw, .int (nI m), .int wa, .int lp]), (lw, aS E 6 (va_up wf m (some q))), (q, ob 5 [.int so, .int sg, .int pr])]) 1 2 rfl rfl rfl (by decide) (vinI (by omega)) (by rw [nI_clamp (by omega)] <;> rfl) dX1_open_18 ?_
  refine V.aload_n dX1_open_19 0 rfl ?_
  refine V.dup dX1_open_20 rfl ?_
  refine V.getf 0 3 rfl fa_X1_27_1 rfl dX1_open_21 ?_
  refine V.iconst (v := 1) dX1_open_24 (by decide) ?_
  refine V.iadd dX1_open_25 ?_
  refine V.topc (v := (nI (m + 1))) (nI_1 m) ?_
  refine V.putf 0 3 (vw2 := [(lo, ob 1 [.ref lt, .ref lr, .ref lw, .int (nI (m + 1)), .int wa, .int lp]), (lw, aS E 6 (va_up wf m (some q))), (q, ob 5 [.int so, .int sg, .int pr])]) rfl fp_X1_27_1 rfl rfl (Nat.le_of_ble_eq_true rfl) rfl dX1_open_26 ?_
  exact V.vret rfl dX1_open_29 (⟨(), rfl, rfl, rfl, trivial⟩)

set_option maxHeartbeats 4000000 in
set_option maxRecDepth 100000 in
theorem c_Lane_open_2 (E : vEnv) (l : Launch) (L : List Nat) (h : Nat → va_E) (lo : Nat) (lt : Nat) (lr : Nat) (lw : Nat) (m : Nat) (wa : Int32) (lp : Int32) (wf : Nat → Option Nat) (q : Nat) (so : Int32) (sg : Int32) (pr : Int32) (hm : m < 6) : CT E l yX1_open cX1_open 2 none 0 0 0 L h [(lo, ob 1 [.ref lt, .ref lr, .ref lw, .int (nI m), .int wa, .int lp]), (lw, aS E 6 wf), (q, ob 2 [.int so, .int sg, .int pr])] [.ref lo, .ref q] (qP L h (fun (_ : Unit) => [(lo, ob 1 [.ref lt, .ref lr, .ref lw, .int (nI (m + 1)), .int wa, .int lp]), (lw, aS E 6 (va_up wf m (some q))), (q, ob 2 [.int so, .int sg, .int pr])]) (fun _ => none) (fun _ => True)) := by
  refine CT.ofV (by decide +kernel) (Nat.le_of_ble_eq_true rfl) ?_
  refine V.locals2 (lv2 := [(0, .ref lo), (1, .ref q)]) rfl ?_
  refine V.aload_n dX1_open_0 0 rfl ?_
  refine V.getf 0 3 rfl fa_X1_27_1 rfl dX1_open_1 ?_
  refine V.bipush (v := 6) dX1_open_4 (by decide) ?_
  refine V.icmp_ge (tgt := 29) dX1_open_6 (by decide) (fun hc => absurd hc (show ¬ nI 6 ≤ nI m from nI_ge hm (by omega))) (fun _ => ?_)
  refine V.aload_n dX1_open_9 0 rfl ?_
  refine V.getf 0 2 rfl fa_X1_20_1 rfl dX1_open_10 ?_
  refine V.aload_n dX1_open_13 0 rfl ?_
  refine V.getf 0 3 rfl fa_X1_27_1 rfl dX1_open_14 ?_
  refine V.aload_n dX1_open_17 1 rfl ?_
  refine V.astS (vw2 := [(lo, ob 1 [.ref lt, .ref lr, .ref lw, .int (nI m), .int wa, .int lp]), (lw, aS E 6 (va_up wf m (some q))), (q, ob 2 [.int so, .int sg, .int pr])]) 1 2 rfl rfl rfl (by decide) (vinI (by omega)) (by rw [nI_clamp (by omega)] <;> rfl) dX1_open_18 ?_
  refine V.aload_n dX1_open_19 0 rfl ?_
  refine V.dup dX1_open_20 rfl ?_
  refine V.getf 0 3 rfl fa_X1_27_1 rfl dX1_open_21 ?_
  refine V.iconst (v := 1) dX1_open_24 (by decide) ?_
  refine V.iadd dX1_open_25 ?_
  refine V.topc (v := (nI (m + 1))) (nI_1 m) ?_
  refine V.putf 0 3 (vw2 := [(lo, ob 1 [.ref lt, .ref lr, .ref lw, .int (nI (m + 1)), .int wa, .int lp]), (lw, aS E 6 (va_up wf m (some q))), (q, ob 2 [.int so, .int sg, .int pr])]) rfl fp_X1_27_1 rfl rfl (Nat.le_of_ble_eq_true rfl) rfl dX1_open_26 ?_
  exact V.vret rfl dX1_open_29 (⟨(), rfl, rfl, rfl, trivial⟩)

set_option maxHeartbeats 4000000 in
set_option maxRecDepth 100000 in
theorem c_Lane_open_0 (E : vEnv) (l : Launch) (L : List Nat) (h : Nat → va_E) (lo : Nat) (lt : Nat) (lr : Nat) (lw : Nat) (m : Nat) (wa : Int32) (lp : Int32) (wf : Nat → Option Nat) (q : Nat) (so : Int32) (sg : Int32) (pr : Int32) (hm : m < 6) : CT E l yX1_open cX1_open 2 none 0 0 0 L h [(lo, ob 1 [.ref lt, .ref lr, .ref lw, .int (nI m), .int wa, .int lp]), (lw, aS E 6 wf), (q, ob 0 [.int so, .int sg, .int pr])] [.ref lo, .ref q] (qP L h (fun (_ : Unit) => [(lo, ob 1 [.ref lt, .ref lr, .ref lw, .int (nI (m + 1)), .int wa, .int lp]), (lw, aS E 6 (va_up wf m (some q))), (q, ob 0 [.int so, .int sg, .int pr])]) (fun _ => none) (fun _ => True)) := by
  refine CT.ofV (by decide +kernel) (Nat.le_of_ble_eq_true rfl) ?_
  refine V.locals2 (lv2 := [(0, .ref lo), (1, .ref q)]) rfl ?_
  refine V.aload_n dX1_open_0 0 rfl ?_
  refine V.getf 0 3 rfl fa_X1_27_1 rfl dX1_open_1 ?_
  refine V.bipush (v := 6) dX1_open_4 (by decide) ?_
  refine V.icmp_ge (tgt := 29) dX1_open_6 (by decide) (fun hc => absurd hc (show ¬ nI 6 ≤ nI m from nI_ge hm (by omega))) (fun _ => ?_)
  refine V.aload_n dX1_open_9 0 rfl ?_
  refine V.getf 0 2 rfl fa_X1_20_1 rfl dX1_open_10 ?_
  refine V.aload_n dX1_open_13 0 rfl ?_
  refine V.getf 0 3 rfl fa_X1_27_1 rfl dX1_open_14 ?_
  refine V.aload_n dX1_open_17 1 rfl ?_
  refine V.astS (vw2 := [(lo, ob 1 [.ref lt, .ref lr, .ref lw, .int (nI m), .int wa, .int lp]), (lw, aS E 6 (va_up wf m (some q))), (q, ob 0 [.int so, .int sg, .int pr])]) 1 2 rfl rfl rfl (by decide) (vinI (by omega)) (by rw [nI_clamp (by omega)] <;> rfl) dX1_open_18 ?_
  refine V.aload_n dX1_open_19 0 rfl ?_
  refine V.dup dX1_open_20 rfl ?_
  refine V.getf 0 3 rfl fa_X1_27_1 rfl dX1_open_21 ?_
  refine V.iconst (v := 1) dX1_open_24 (by decide) ?_
  refine V.iadd dX1_open_25 ?_
  refine V.topc (v := (nI (m + 1))) (nI_1 m) ?_
  refine V.putf 0 3 (vw2 := [(lo, ob 1 [.ref lt, .ref lr, .ref lw, .int (nI (m + 1)), .int wa, .int lp]), (lw, aS E 6 (va_up wf m (some q))), (q, ob 0 [.int so, .int sg, .int pr])]) rfl fp_X1_27_1 rfl rfl (Nat.le_of_ble_eq_true rfl) rfl dX1_open_26 ?_
  exact V.vret rfl dX1_open_29 (⟨(), rfl, rfl, rfl, trivial⟩)

set_option maxHeartbeats 4000000 in
set_option maxRecDepth 100000 in
theorem c_Lane_open_4 (E : vEnv) (l : Launch) (L : List Nat) (h : Nat → va_E) (lo : Nat) (lt : Nat) (lr : Nat) (lw : Nat) (m : Nat) (wa : Int32) (lp : Int32) (wf : Nat → Option Nat) (q : Nat) (so : Int32) (sg : Int32) (pr : Int32) (hm : m < 6) : CT E l yX1_open cX1_open 2 none 0 0 0 L h [(lo, ob 1 [.ref lt, .ref lr, .ref lw, .int (nI m), .int wa, .int lp]), (lw, aS E 6 wf), (q, ob 4 [.int so, .int sg, .int pr])] [.ref lo, .ref q] (qP L h (fun (_ : Unit) => [(lo, ob 1 [.ref lt, .ref lr, .ref lw, .int (nI (m + 1)), .int wa, .int lp]), (lw, aS E 6 (va_up wf m (some q))), (q, ob 4 [.int so, .int sg, .int pr])]) (fun _ => none) (fun _ => True)) := by
  refine CT.ofV (by decide +kernel) (Nat.le_of_ble_eq_true rfl) ?_
  refine V.locals2 (lv2 := [(0, .ref lo), (1, .ref q)]) rfl ?_
  refine V.aload_n dX1_open_0 0 rfl ?_
  refine V.getf 0 3 rfl fa_X1_27_1 rfl dX1_open_1 ?_
  refine V.bipush (v := 6) dX1_open_4 (by decide) ?_
  refine V.icmp_ge (tgt := 29) dX1_open_6 (by decide) (fun hc => absurd hc (show ¬ nI 6 ≤ nI m from nI_ge hm (by omega))) (fun _ => ?_)
  refine V.aload_n dX1_open_9 0 rfl ?_
  refine V.getf 0 2 rfl fa_X1_20_1 rfl dX1_open_10 ?_
  refine V.aload_n dX1_open_13 0 rfl ?_
  refine V.getf 0 3 rfl fa_X1_27_1 rfl dX1_open_14 ?_
  refine V.aload_n dX1_open_17 1 rfl ?_
  refine V.astS (vw2 := [(lo, ob 1 [.ref lt, .ref lr, .ref lw, .int (nI m), .int wa, .int lp]), (lw, aS E 6 (va_up wf m (some q))), (q, ob 4 [.int so, .int sg, .int pr])]) 1 2 rfl rfl rfl (by decide) (vinI (by omega)) (by rw [nI_clamp (by omega)] <;> rfl) dX1_open_18 ?_
  refine V.aload_n dX1_open_19 0 rfl ?_
  refine V.dup dX1_open_20 rfl ?_
  refine V.getf 0 3 rfl fa_X1_27_1 rfl dX1_open_21 ?_
  refine V.iconst (v := 1) dX1_open_24 (by decide) ?_
  refine V.iadd dX1_open_25 ?_
  refine V.topc (v := (nI (m + 1))) (nI_1 m) ?_
  refine V.putf 0 3 (vw2 := [(lo, ob 1 [.ref lt, .ref lr, .ref lw, .int (nI (m + 1)), .int wa, .int lp]), (lw, aS E 6 (va_up wf m (some q))), (q, ob 4 [.int so, .int sg, .int pr])]) rfl fp_X1_27_1 rfl rfl (Nat.le_of_ble_eq_true rfl) rfl dX1_open_26 ?_
  exact V.vret rfl dX1_open_29 (⟨(), rfl, rfl, rfl, trivial⟩)

set_option maxHeartbeats 4000000 in
set_option maxRecDepth 100000 in
theorem c_Lane_tell_0 (E : vEnv) (l : Launch) (L : List Nat) (h : Nat → va_E) (lo : Nat) (lt : Nat) (lr : Nat) (lw : Nat) (m : Nat) (wa : Int32) (lp : Int32) (ti : Nat → Int32) (r : Nat → Int32) (x1 : Int32) (x2 : Int32) (x3 : Int32) : CT E l yX1_tell cX1_tell 5 none 1 0 0 L h [(lo, ob 1 [.ref lt, .ref lr, .ref lw, .int (nI m), .int wa, .int lp]), (lt, aI E 4 ti), (lr, aI E 4 r)] [.ref lo, .int 0, .int x1, .int x2, .int x3] (qP L h (fun (_ : Unit) => [(lo, ob 1 [.ref lt, .ref lr, .ref lw, .int 0, .int 10, .int 60]), (lt, aI E 4 (fun _ => 4)), (lr, aI E 4 (fun _ => 1))]) (fun _ => none) (fun _ => True)) := by
  refine CT.ofV (by decide +kernel) (Nat.le_of_ble_eq_true rfl) ?_
  refine V.locals2 (lv2 := [(0, .ref lo), (1, .int 0), (2, .int x1), (3, .int x2), (4, .int x3)]) rfl ?_
  refine V.iload_n dX1_tell_0 1 rfl ?_
  refine V.tableIn (tgt := 52) (off := 51) dX1_tell_1 (by decide) (by decide) (by decide) (by decide) ?_
  refine V.aload_n dX1_tell_52 0 rfl ?_
  refine V.callVp (As := []) (rest := []) [0, 1, 2] (c_Lane_setFirst E l L _ lo lt lr lw ((nI m)) wa lp ti r) rfl (by decide) mi_X1_setFirst 0 rfl rfl w_71 w_72 w_73 rfl rfl (Nat.le_of_ble_eq_true rfl) ⟨by decide, by decide⟩ ⟨by decide, by decide⟩ dX1_tell_53 (vw2 := fun _ => [(lo, ob 1 [.ref lt, .ref lr, .ref lw, .int 0, .int 10, .int 60]), (lt, aI E 4 (fun _ => 4)), (lr, aI E 4 (fun _ => 1))]) (st2 := fun _ => []) (fun _ => rfl) (fun _ => rfl) (fun _ => rfl) (fun _ _ => ?_)
  refine V.goto (tgt := 166) dX1_tell_56 (by decide) ?_
  exact V.vret rfl dX1_tell_166 (⟨(), rfl, rfl, rfl, trivial⟩)

set_option maxHeartbeats 4000000 in
set_option maxRecDepth 100000 in
theorem c_Lane_tell_1 (E : vEnv) (l : Launch) (L : List Nat) (h : Nat → va_E) (lo : Nat) (lt : Nat) (lr : Nat) (lw : Nat) (m : Nat) (wa : Int32) (lp : Int32) (ti : Nat → Int32) (r : Nat → Int32) (so : Nat) (x1 : Int32) (x2 : Int32) (x3 : Int32) (hs : so < 4) : CT E l yX1_tell cX1_tell 5 none 2 0 0 L h [(lo, ob 1 [.ref lt, .ref lr, .ref lw, .int (nI m), .int wa, .int lp]), (lt, aI E 4 ti), (lr, aI E 4 r)] [.ref lo, .int 1, .int (nI so), .int x2, .int x3] (qP L h (fun (_ : Unit) => [(lo, ob 1 [.ref lt, .ref lr, .ref lw, .int (nI m), .int wa, .int lp]), (lt, aI E 4 (upd ti so x2)), (lr, aI E 4 (upd r so x3))]) (fun _ => none) (fun _ => True)) := by
  refine CT.ofV (by decide +kernel) (Nat.le_of_ble_eq_true rfl) ?_
  refine V.locals2 (lv2 := [(0, .ref lo), (1, .int 1), (2, .int (nI so)), (3, .int x2), (4, .int x3)]) rfl ?_
  refine V.iload_n dX1_tell_0 1 rfl ?_
  refine V.tableIn (tgt := 59) (off := 58) dX1_tell_1 (by decide) (by decide) (by decide) (by decide) ?_
  refine V.aload_n dX1_tell_59 0 rfl ?_
  refine V.iload_n dX1_tell_60 2 rfl ?_
  refine V.iload_n dX1_tell_61 3 rfl ?_
  refine V.iload dX1_tell_62 4 rfl ?_
  refine V.callVp (As := [.int (nI so), .int x2, .int x3]) (rest := []) [0, 1, 2] (c_Lane_setSort E l L _ lo lt lr lw m wa lp ti r so x2 x3 (by assumption)) rfl (by decide) mi_X1_setSort 0 rfl rfl w_396 w_397 w_398 rfl rfl (Nat.le_of_ble_eq_true rfl) ⟨by decide, by decide⟩ ⟨by decide, by decide⟩ dX1_tell_64 (vw2 := fun _ => [(lo, ob 1 [.ref lt, .ref lr, .ref lw, .int (nI m), .int wa, .int lp]), (lt, aI E 4 (upd ti so x2)), (lr, aI E 4 (upd r so x3))]) (st2 := fun _ => []) (fun _ => rfl) (fun _ => rfl) (fun _ => rfl) (fun _ _ => ?_)
  refine V.goto (tgt := 166) dX1_tell_67 (by decide) ?_
  exact V.vret rfl dX1_tell_166 (⟨(), rfl, rfl, rfl, trivial⟩)

set_option maxHeartbeats 4000000 in
set_option maxRecDepth 100000 in
theorem c_Lane_tell_2 (E : vEnv) (l : Launch) (L : List Nat) (h : Nat → va_E) (lo : Nat) (lt : Nat) (lr : Nat) (lw : Nat) (m : Nat) (wa : Int32) (lp : Int32) (wf : Nat → Option Nat) (x1 : Int32) (x2 : Int32) (x3 : Int32) (hm : m < 6) : CT E l yX1_tell cX1_tell 5 none 4 1 3 L h [(lo, ob 1 [.ref lt, .ref lr, .ref lw, .int (nI m), .int wa, .int lp]), (lw, aS E 6 wf)] [.ref lo, .int 2, .int x1, .int x2, .int x3] (qN L h (fun (q : Nat) => [(lo, ob 1 [.ref lt, .ref lr, .ref lw, .int (nI (m + 1)), .int wa, .int lp]), (lw, aS E 6 (va_up wf m (some q)))]) (fun (q : Nat) => [(q, ob 5 [.int x1, .int x2, .int x3])]) (fun q => none) (fun q => True)) := by
  refine CT.ofV (by decide +kernel) (Nat.le_of_ble_eq_true rfl) ?_
  refine V.locals2 (lv2 := [(0, .ref lo), (1, .int 2), (2, .int x1), (3, .int x2), (4, .int x3)]) rfl ?_
  refine V.iload_n dX1_tell_0 1 rfl ?_
  refine V.tableIn (tgt := 70) (off := 69) dX1_tell_1 (by decide) (by decide) (by decide) (by decide) ?_
  refine V.aload_n dX1_tell_70 0 rfl ?_
  refine V.new (ci := 5) (C := RX5) (T := TX5) (N := 3) tyX5 rfl in_X5 tyX5_ok w_401 w_402 w_14 (fs := [.int 0, .int 0, .int 0]) (by decide) (by decide) (by decide) dX1_tell_71 (fun q1_71 hq1_71 => ?_)
  refine V.view (vw2 := [(lo, ob 1 [.ref lt, .ref lr, .ref lw, .int (nI m), .int wa, .int lp]), (lw, aS E 6 wf), (q1_71, ob 5 [.int 0, .int 0, .int 0])]) (L2 := (L ++ [q1_71])) rfl (rfl) ?_
  refine V.dup dX1_tell_74 rfl ?_
  refine V.iload_n dX1_tell_75 2 rfl ?_
  refine V.iload_n dX1_tell_76 3 rfl ?_
  refine V.iload dX1_tell_77 4 rfl ?_
  refine V.callIp (As := [.int x1, .int x2, .int x3]) (rest := [.ref q1_71, .ref lo]) [2] (c_Plain_init E l (L ++ [q1_71]) _ q1_71 0 0 0 x1 x2 x3) rfl (by decide) mi_X5_init rfl w_403 w_404 rfl rfl (Nat.le_of_ble_eq_true rfl) ⟨by decide, by decide⟩ ⟨by decide, by decide⟩ dX1_tell_79 (vw2 := fun _ => [(lo, ob 1 [.ref lt, .ref lr, .ref lw, .int (nI m), .int wa, .int lp]), (lw, aS E 6 wf), (q1_71, ob 5 [.int x1, .int x2, .int x3])]) (st2 := fun _ => [.ref q1_71, .ref lo]) (fun _ => rfl) (fun _ => rfl) (fun _ => rfl) (fun _ _ => ?_)
  refine V.callVp (As := [.ref q1_71]) (rest := []) [0, 1, 2] (c_Lane_open_5 E l (L ++ [q1_71]) _ lo lt lr lw m wa lp wf q1_71 x1 x2 x3 (hm)) rfl (by decide) mi_X1_open 0 rfl rfl w_411 w_412 w_413 rfl rfl (Nat.le_of_ble_eq_true rfl) ⟨by decide, by decide⟩ ⟨by decide, by decide⟩ dX1_tell_82 (vw2 := fun _ => [(lo, ob 1 [.ref lt, .ref lr, .ref lw, .int (nI (m + 1)), .int wa, .int lp]), (lw, aS E 6 (va_up wf m (some q1_71))), (q1_71, ob 5 [.int x1, .int x2, .int x3])]) (st2 := fun _ => []) (fun _ => rfl) (fun _ => rfl) (fun _ => rfl) (fun _ _ => ?_)
  refine V.goto (tgt := 166) dX1_tell_85 (by decide) ?_
  exact V.vret rfl dX1_tell_166 (⟨q1_71, rfl, rfl, rfl, (fun a ha => by rw [List.mem_singleton.mp ha]; assumption), (List.nodup_cons.mpr ⟨List.not_mem_nil, List.nodup_nil⟩), trivial⟩)

set_option maxHeartbeats 4000000 in
set_option maxRecDepth 100000 in
theorem c_Lane_tell_3 (E : vEnv) (l : Launch) (L : List Nat) (h : Nat → va_E) (lo : Nat) (lt : Nat) (lr : Nat) (lw : Nat) (m : Nat) (wa : Int32) (lp : Int32) (wf : Nat → Option Nat) (x1 : Int32) (x2 : Int32) (x3 : Int32) (hm : m < 6) : CT E l yX1_tell cX1_tell 5 none 4 1 3 L h [(lo, ob 1 [.ref lt, .ref lr, .ref lw, .int (nI m), .int wa, .int lp]), (lw, aS E 6 wf)] [.ref lo, .int 3, .int x1, .int x2, .int x3] (qN L h (fun (q : Nat) => [(lo, ob 1 [.ref lt, .ref lr, .ref lw, .int (nI (m + 1)), .int wa, .int lp]), (lw, aS E 6 (va_up wf m (some q)))]) (fun (q : Nat) => [(q, ob 2 [.int x1, .int x2, .int x3])]) (fun q => none) (fun q => True)) := by
  refine CT.ofV (by decide +kernel) (Nat.le_of_ble_eq_true rfl) ?_
  refine V.locals2 (lv2 := [(0, .ref lo), (1, .int 3), (2, .int x1), (3, .int x2), (4, .int x3)]) rfl ?_
  refine V.iload_n dX1_tell_0 1 rfl ?_
  refine V.tableIn (tgt := 88) (off := 87) dX1_tell_1 (by decide) (by decide) (by decide) (by decide) ?_
  refine V.aload_n dX1_tell_88 0 rfl ?_
  refine V.new (ci := 2) (C := RX2) (T := TX2) (N := 3) tyX2 rfl in_X2 tyX2_ok w_415 w_416 w_15 (fs := [.int 0, .int 0, .int 0]) (by decide) (by decide) (by decide) dX1_tell_89 (fun q1_89 hq1_89 => ?_)
  refine V.view (vw2 := [(lo, ob 1 [.ref lt, .ref lr, .ref lw, .int (nI m), .int wa, .int lp]), (lw, aS E 6 wf), (q1_89, ob 2 [.int 0, .int 0, .int 0])]) (L2 := (L ++ [q1_89])) rfl (rfl) ?_
  refine V.dup dX1_tell_92 rfl ?_
  refine V.iload_n dX1_tell_93 2 rfl ?_
  refine V.iload_n dX1_tell_94 3 rfl ?_
  refine V.iload dX1_tell_95 4 rfl ?_
  refine V.callIp (As := [.int x1, .int x2, .int x3]) (rest := [.ref q1_89, .ref lo]) [2] (c_Musk_init E l (L ++ [q1_89]) _ q1_89 0 0 0 x1 x2 x3) rfl (by decide) mi_X2_init rfl w_417 w_418 rfl rfl (Nat.le_of_ble_eq_true rfl) ⟨by decide, by decide⟩ ⟨by decide, by decide⟩ dX1_tell_97 (vw2 := fun _ => [(lo, ob 1 [.ref lt, .ref lr, .ref lw, .int (nI m), .int wa, .int lp]), (lw, aS E 6 wf), (q1_89, ob 2 [.int x1, .int x2, .int x3])]) (st2 := fun _ => [.ref q1_89, .ref lo]) (fun _ => rfl) (fun _ => rfl) (fun _ => rfl) (fun _ _ => ?_)
  refine V.callVp (As := [.ref q1_89]) (rest := []) [0, 1, 2] (c_Lane_open_2 E l (L ++ [q1_89]) _ lo lt lr lw m wa lp wf q1_89 x1 x2 x3 (hm)) rfl (by decide) mi_X1_open 0 rfl rfl w_411 w_412 w_413 rfl rfl (Nat.le_of_ble_eq_true rfl) ⟨by decide, by decide⟩ ⟨by decide, by decide⟩ dX1_tell_100 (vw2 := fun _ => [(lo, ob 1 [.ref lt, .ref lr, .ref lw, .int (nI (m + 1)), .int wa, .int lp]), (lw, aS E 6 (va_up wf m (some q1_89))), (q1_89, ob 2 [.int x1, .int x2, .int x3])]) (st2 := fun _ => []) (fun _ => rfl) (fun _ => rfl) (fun _ => rfl) (fun _ _ => ?_)
  refine V.goto (tgt := 166) dX1_tell_103 (by decide) ?_
  exact V.vret rfl dX1_tell_166 (⟨q1_89, rfl, rfl, rfl, (fun a ha => by rw [List.mem_singleton.mp ha]; assumption), (List.nodup_cons.mpr ⟨List.not_mem_nil, List.nodup_nil⟩), trivial⟩)

set_option maxHeartbeats 4000000 in
set_option maxRecDepth 100000 in
theorem c_Lane_tell_4 (E : vEnv) (l : Launch) (L : List Nat) (h : Nat → va_E) (lo : Nat) (lt : Nat) (lr : Nat) (lw : Nat) (m : Nat) (wa : Int32) (lp : Int32) (wf : Nat → Option Nat) (x1 : Int32) (x2 : Int32) (x3 : Int32) (hm : m < 6) : CT E l yX1_tell cX1_tell 5 none 4 1 3 L h [(lo, ob 1 [.ref lt, .ref lr, .ref lw, .int (nI m), .int wa, .int lp]), (lw, aS E 6 wf)] [.ref lo, .int 4, .int x1, .int x2, .int x3] (qN L h (fun (q : Nat) => [(lo, ob 1 [.ref lt, .ref lr, .ref lw, .int (nI (m + 1)), .int wa, .int lp]), (lw, aS E 6 (va_up wf m (some q)))]) (fun (q : Nat) => [(q, ob 0 [.int x1, .int x2, .int x3])]) (fun q => none) (fun q => True)) := by
  refine CT.ofV (by decide +kernel) (Nat.le_of_ble_eq_true rfl) ?_
  refine V.locals2 (lv2 := [(0, .ref lo), (1, .int 4), (2, .int x1), (3, .int x2), (4, .int x3)]) rfl ?_
  refine V.iload_n dX1_tell_0 1 rfl ?_
  refine V.tableIn (tgt := 106) (off := 105) dX1_tell_1 (by decide) (by decide) (by decide) (by decide) ?_
  refine V.aload_n dX1_tell_106 0 rfl ?_
  refine V.new (ci := 0) (C := RX0) (T := TX0) (N := 3) tyX0 rfl in_X0 tyX0_ok w_425 w_188 w_8 (fs := [.int 0, .int 0, .int 0]) (by decide) (by decide) (by decide) dX1_tell_107 (fun q1_107 hq1_107 => ?_)
  refine V.view (vw2 := [(lo, ob 1 [.ref lt, .ref lr, .ref lw, .int (nI m), .int wa, .int lp]), (lw, aS E 6 wf), (q1_107, ob 0 [.int 0, .int 0, .int 0])]) (L2 := (L ++ [q1_107])) rfl (rfl) ?_
  refine V.dup dX1_tell_110 rfl ?_
  refine V.iload_n dX1_tell_111 2 rfl ?_
  refine V.iload_n dX1_tell_112 3 rfl ?_
  refine V.iload dX1_tell_113 4 rfl ?_
  refine V.callIp (As := [.int x1, .int x2, .int x3]) (rest := [.ref q1_107, .ref lo]) [2] (c_Coffee_init E l (L ++ [q1_107]) _ q1_107 0 0 0 x1 x2 x3) rfl (by decide) mi_X0_init rfl w_426 w_190 rfl rfl (Nat.le_of_ble_eq_true rfl) ⟨by decide, by decide⟩ ⟨by decide, by decide⟩ dX1_tell_115 (vw2 := fun _ => [(lo, ob 1 [.ref lt, .ref lr, .ref lw, .int (nI m), .int wa, .int lp]), (lw, aS E 6 wf), (q1_107, ob 0 [.int x1, .int x2, .int x3])]) (st2 := fun _ => [.ref q1_107, .ref lo]) (fun _ => rfl) (fun _ => rfl) (fun _ => rfl) (fun _ _ => ?_)
  refine V.callVp (As := [.ref q1_107]) (rest := []) [0, 1, 2] (c_Lane_open_0 E l (L ++ [q1_107]) _ lo lt lr lw m wa lp wf q1_107 x1 x2 x3 (hm)) rfl (by decide) mi_X1_open 0 rfl rfl w_411 w_412 w_413 rfl rfl (Nat.le_of_ble_eq_true rfl) ⟨by decide, by decide⟩ ⟨by decide, by decide⟩ dX1_tell_118 (vw2 := fun _ => [(lo, ob 1 [.ref lt, .ref lr, .ref lw, .int (nI (m + 1)), .int wa, .int lp]), (lw, aS E 6 (va_up wf m (some q1_107))), (q1_107, ob 0 [.int x1, .int x2, .int x3])]) (st2 := fun _ => []) (fun _ => rfl) (fun _ => rfl) (fun _ => rfl) (fun _ _ => ?_)
  refine V.goto (tgt := 166) dX1_tell_121 (by decide) ?_
  exact V.vret rfl dX1_tell_166 (⟨q1_107, rfl, rfl, rfl, (fun a ha => by rw [List.mem_singleton.mp ha]; assumption), (List.nodup_cons.mpr ⟨List.not_mem_nil, List.nodup_nil⟩), trivial⟩)

set_option maxHeartbeats 4000000 in
set_option maxRecDepth 100000 in
theorem c_Lane_tell_5 (E : vEnv) (l : Launch) (L : List Nat) (h : Nat → va_E) (lo : Nat) (lt : Nat) (lr : Nat) (lw : Nat) (m : Nat) (wa : Int32) (lp : Int32) (wf : Nat → Option Nat) (x1 : Int32) (x2 : Int32) (x3 : Int32) (hm : m < 6) : CT E l yX1_tell cX1_tell 5 none 4 1 3 L h [(lo, ob 1 [.ref lt, .ref lr, .ref lw, .int (nI m), .int wa, .int lp]), (lw, aS E 6 wf)] [.ref lo, .int 5, .int x1, .int x2, .int x3] (qN L h (fun (q : Nat) => [(lo, ob 1 [.ref lt, .ref lr, .ref lw, .int (nI (m + 1)), .int wa, .int lp]), (lw, aS E 6 (va_up wf m (some q)))]) (fun (q : Nat) => [(q, ob 4 [.int x1, .int x2, .int x3])]) (fun q => none) (fun q => True)) := by
  refine CT.ofV (by decide +kernel) (Nat.le_of_ble_eq_true rfl) ?_
  refine V.locals2 (lv2 := [(0, .ref lo), (1, .int 5), (2, .int x1), (3, .int x2), (4, .int x3)]) rfl ?_
  refine V.iload_n dX1_tell_0 1 rfl ?_
  refine V.tableIn (tgt := 124) (off := 123) dX1_tell_1 (by decide) (by decide) (by decide) (by decide) ?_
  refine V.aload_n dX1_tell_124 0 rfl ?_
  refine V.new (ci := 4) (C := RX4) (T := TX4) (N := 3) tyX4 rfl in_X4 tyX4_ok w_427 w_428 w_16 (fs := [.int 0, .int 0, .int 0]) (by decide) (by decide) (by decide) dX1_tell_125 (fun q1_125 hq1_125 => ?_)
  refine V.view (vw2 := [(lo, ob 1 [.ref lt, .ref lr, .ref lw, .int (nI m), .int wa, .int lp]), (lw, aS E 6 wf), (q1_125, ob 4 [.int 0, .int 0, .int 0])]) (L2 := (L ++ [q1_125])) rfl (rfl) ?_
  refine V.dup dX1_tell_128 rfl ?_
  refine V.iload_n dX1_tell_129 2 rfl ?_
  refine V.iload_n dX1_tell_130 3 rfl ?_
  refine V.iload dX1_tell_131 4 rfl ?_
  refine V.callIp (As := [.int x1, .int x2, .int x3]) (rest := [.ref q1_125, .ref lo]) [2] (c_Nothing_init E l (L ++ [q1_125]) _ q1_125 0 0 0 x1 x2 x3) rfl (by decide) mi_X4_init rfl w_429 w_430 rfl rfl (Nat.le_of_ble_eq_true rfl) ⟨by decide, by decide⟩ ⟨by decide, by decide⟩ dX1_tell_133 (vw2 := fun _ => [(lo, ob 1 [.ref lt, .ref lr, .ref lw, .int (nI m), .int wa, .int lp]), (lw, aS E 6 wf), (q1_125, ob 4 [.int x1, .int x2, .int x3])]) (st2 := fun _ => [.ref q1_125, .ref lo]) (fun _ => rfl) (fun _ => rfl) (fun _ => rfl) (fun _ _ => ?_)
  refine V.callVp (As := [.ref q1_125]) (rest := []) [0, 1, 2] (c_Lane_open_4 E l (L ++ [q1_125]) _ lo lt lr lw m wa lp wf q1_125 x1 x2 x3 (hm)) rfl (by decide) mi_X1_open 0 rfl rfl w_411 w_412 w_413 rfl rfl (Nat.le_of_ble_eq_true rfl) ⟨by decide, by decide⟩ ⟨by decide, by decide⟩ dX1_tell_136 (vw2 := fun _ => [(lo, ob 1 [.ref lt, .ref lr, .ref lw, .int (nI (m + 1)), .int wa, .int lp]), (lw, aS E 6 (va_up wf m (some q1_125))), (q1_125, ob 4 [.int x1, .int x2, .int x3])]) (st2 := fun _ => []) (fun _ => rfl) (fun _ => rfl) (fun _ => rfl) (fun _ _ => ?_)
  refine V.goto (tgt := 166) dX1_tell_139 (by decide) ?_
  exact V.vret rfl dX1_tell_166 (⟨q1_125, rfl, rfl, rfl, (fun a ha => by rw [List.mem_singleton.mp ha]; assumption), (List.nodup_cons.mpr ⟨List.not_mem_nil, List.nodup_nil⟩), trivial⟩)

set_option maxHeartbeats 4000000 in
set_option maxRecDepth 100000 in
theorem c_Lane_tell_6 (E : vEnv) (l : Launch) (L : List Nat) (h : Nat → va_E) (lo : Nat) (lt : Nat) (lr : Nat) (lw : Nat) (m : Nat) (wa : Int32) (lp : Int32) (x1 : Int32) (x2 : Int32) (x3 : Int32) : CT E l yX1_tell cX1_tell 5 none 0 0 0 L h [(lo, ob 1 [.ref lt, .ref lr, .ref lw, .int (nI m), .int wa, .int lp])] [.ref lo, .int 6, .int x1, .int x2, .int x3] (qP L h (fun (_ : Unit) => [(lo, ob 1 [.ref lt, .ref lr, .ref lw, .int (nI m), .int x1, .int lp])]) (fun _ => none) (fun _ => True)) := by
  refine CT.ofV (by decide +kernel) (Nat.le_of_ble_eq_true rfl) ?_
  refine V.locals2 (lv2 := [(0, .ref lo), (1, .int 6), (2, .int x1), (3, .int x2), (4, .int x3)]) rfl ?_
  refine V.iload_n dX1_tell_0 1 rfl ?_
  refine V.tableIn (tgt := 142) (off := 141) dX1_tell_1 (by decide) (by decide) (by decide) (by decide) ?_
  refine V.aload_n dX1_tell_142 0 rfl ?_
  refine V.iload_n dX1_tell_143 2 rfl ?_
  refine V.putf 0 4 (vw2 := [(lo, ob 1 [.ref lt, .ref lr, .ref lw, .int (nI m), .int x1, .int lp])]) rfl fp_X1_31_1 rfl rfl (Nat.le_of_ble_eq_true rfl) rfl dX1_tell_144 ?_
  refine V.goto (tgt := 166) dX1_tell_147 (by decide) ?_
  exact V.vret rfl dX1_tell_166 (⟨(), rfl, rfl, rfl, trivial⟩)

set_option maxHeartbeats 4000000 in
set_option maxRecDepth 100000 in
theorem c_Lane_tell_7 (E : vEnv) (l : Launch) (L : List Nat) (h : Nat → va_E) (lo : Nat) (lt : Nat) (lr : Nat) (lw : Nat) (m : Nat) (wa : Int32) (lp : Int32) (x1 : Int32) (x2 : Int32) (x3 : Int32) : CT E l yX1_tell cX1_tell 5 none 0 0 0 L h [(lo, ob 1 [.ref lt, .ref lr, .ref lw, .int (nI m), .int wa, .int lp])] [.ref lo, .int 7, .int x1, .int x2, .int x3] (qP L h (fun (_ : Unit) => [(lo, ob 1 [.ref lt, .ref lr, .ref lw, .int (nI m), .int wa, .int x1])]) (fun _ => none) (fun _ => True)) := by
  refine CT.ofV (by decide +kernel) (Nat.le_of_ble_eq_true rfl) ?_
  refine V.locals2 (lv2 := [(0, .ref lo), (1, .int 7), (2, .int x1), (3, .int x2), (4, .int x3)]) rfl ?_
  refine V.iload_n dX1_tell_0 1 rfl ?_
  refine V.tableIn (tgt := 150) (off := 149) dX1_tell_1 (by decide) (by decide) (by decide) (by decide) ?_
  refine V.aload_n dX1_tell_150 0 rfl ?_
  refine V.iload_n dX1_tell_151 2 rfl ?_
  refine V.putf 0 5 (vw2 := [(lo, ob 1 [.ref lt, .ref lr, .ref lw, .int (nI m), .int wa, .int x1])]) rfl fp_X1_34_1 rfl rfl (Nat.le_of_ble_eq_true rfl) rfl dX1_tell_152 ?_
  refine V.goto (tgt := 166) dX1_tell_155 (by decide) ?_
  exact V.vret rfl dX1_tell_166 (⟨(), rfl, rfl, rfl, trivial⟩)

set_option maxHeartbeats 4000000 in
set_option maxRecDepth 100000 in
theorem c_Lane_tell_8 (E : vEnv) (l : Launch) (L : List Nat) (h : Nat → va_E) (lo : Nat) (lt : Nat) (lr : Nat) (lw : Nat) (m : Nat) (wa : Int32) (lp : Int32) (x1 : Int32) (x2 : Int32) (x3 : Int32) : CT E l yX1_tell cX1_tell 5 none 0 0 0 L h [(lo, ob 1 [.ref lt, .ref lr, .ref lw, .int (nI m), .int wa, .int lp])] [.ref lo, .int 8, .int x1, .int x2, .int x3] (qP L h (fun (_ : Unit) => [(lo, ob 1 [.ref lt, .ref lr, .ref lw, .int 0, .int wa, .int lp])]) (fun _ => none) (fun _ => True)) := by
  refine CT.ofV (by decide +kernel) (Nat.le_of_ble_eq_true rfl) ?_
  refine V.locals2 (lv2 := [(0, .ref lo), (1, .int 8), (2, .int x1), (3, .int x2), (4, .int x3)]) rfl ?_
  refine V.iload_n dX1_tell_0 1 rfl ?_
  refine V.tableIn (tgt := 158) (off := 157) dX1_tell_1 (by decide) (by decide) (by decide) (by decide) ?_
  refine V.aload_n dX1_tell_158 0 rfl ?_
  refine V.iconst (v := 0) dX1_tell_159 (by decide) ?_
  refine V.putf 0 3 (vw2 := [(lo, ob 1 [.ref lt, .ref lr, .ref lw, .int 0, .int wa, .int lp])]) rfl fp_X1_27_1 rfl rfl (Nat.le_of_ble_eq_true rfl) rfl dX1_tell_160 ?_
  refine V.goto (tgt := 166) dX1_tell_163 (by decide) ?_
  exact V.vret rfl dX1_tell_166 (⟨(), rfl, rfl, rfl, trivial⟩)

set_option maxHeartbeats 4000000 in
set_option maxRecDepth 100000 in
theorem c_Tells_add (E : vEnv) (l : Launch) (L : List Nat) (h : Nat → va_E) (to : Nat) (tS : Nat) (tV : Nat) (tM : Nat) (n : Nat) (fS : Nat → Int32) (fV : Nat → Int32) (fM : Nat → Int32) (x1 : Int32) (x2 : Int32) (x3 : Int32) (hn : n < 6) : CT E l yX7_add cX7_add 4 (some (.boolean)) 0 0 0 L h [(to, ob 6 [.ref tS, .ref tV, .ref tM, .int (nI n)]), (tS, aI E 6 fS), (tV, aI E 6 fV), (tM, aI E 6 fM)] [.ref to, .int x1, .int x2, .int x3] (qP L h (fun (_ : Unit) => [(to, ob 6 [.ref tS, .ref tV, .ref tM, .int (nI (n + 1))]), (tS, aI E 6 (upd fS n x1)), (tV, aI E 6 (upd fV n x2)), (tM, aI E 6 (upd fM n x3))]) (fun _ => some (.int 1)) (fun _ => True)) := by
  refine CT.ofV (by decide +kernel) (Nat.le_of_ble_eq_true rfl) ?_
  refine V.locals2 (lv2 := [(0, .ref to), (1, .int x1), (2, .int x2), (3, .int x3)]) rfl ?_
  refine V.aload_n dX7_add_0 0 rfl ?_
  refine V.getf 0 3 rfl fa_X7_21_6 rfl dX7_add_1 ?_
  refine V.bipush (v := 6) dX7_add_4 (by decide) ?_
  refine V.icmp_lt (tgt := 11) dX7_add_6 (by decide) (fun _ => ?_) (fun hc => absurd (show nI n < nI 6 from nI_lt hn (by omega)) hc)
  refine V.aload_n dX7_add_11 0 rfl ?_
  refine V.getf 0 0 rfl fa_X7_9_6 rfl dX7_add_12 ?_
  refine V.aload_n dX7_add_15 0 rfl ?_
  refine V.getf 0 3 rfl fa_X7_21_6 rfl dX7_add_16 ?_
  refine V.iload_n dX7_add_19 1 rfl ?_
  refine V.iast (vw2 := [(to, ob 6 [.ref tS, .ref tV, .ref tM, .int (nI n)]), (tS, aI E 6 (upd fS n x1)), (tV, aI E 6 fV), (tM, aI E 6 fM)]) 1 rfl (vinI (by omega)) (by rw [nI_clamp (by omega)] <;> rfl) dX7_add_20 ?_
  refine V.aload_n dX7_add_21 0 rfl ?_
  refine V.getf 0 1 rfl fa_X7_15_6 rfl dX7_add_22 ?_
  refine V.aload_n dX7_add_25 0 rfl ?_
  refine V.getf 0 3 rfl fa_X7_21_6 rfl dX7_add_26 ?_
  refine V.iload_n dX7_add_29 2 rfl ?_
  refine V.iast (vw2 := [(to, ob 6 [.ref tS, .ref tV, .ref tM, .int (nI n)]), (tS, aI E 6 (upd fS n x1)), (tV, aI E 6 (upd fV n x2)), (tM, aI E 6 fM)]) 2 rfl (vinI (by omega)) (by rw [nI_clamp (by omega)] <;> rfl) dX7_add_30 ?_
  refine V.aload_n dX7_add_31 0 rfl ?_
  refine V.getf 0 2 rfl fa_X7_18_6 rfl dX7_add_32 ?_
  refine V.aload_n dX7_add_35 0 rfl ?_
  refine V.getf 0 3 rfl fa_X7_21_6 rfl dX7_add_36 ?_
  refine V.iload_n dX7_add_39 3 rfl ?_
  refine V.iast (vw2 := [(to, ob 6 [.ref tS, .ref tV, .ref tM, .int (nI n)]), (tS, aI E 6 (upd fS n x1)), (tV, aI E 6 (upd fV n x2)), (tM, aI E 6 (upd fM n x3))]) 3 rfl (vinI (by omega)) (by rw [nI_clamp (by omega)] <;> rfl) dX7_add_40 ?_
  refine V.aload_n dX7_add_41 0 rfl ?_
  refine V.dup dX7_add_42 rfl ?_
  refine V.getf 0 3 rfl fa_X7_21_6 rfl dX7_add_43 ?_
  refine V.iconst (v := 1) dX7_add_46 (by decide) ?_
  refine V.iadd dX7_add_47 ?_
  refine V.topc (v := (nI (n + 1))) (nI_1 n) ?_
  refine V.putf 0 3 (vw2 := [(to, ob 6 [.ref tS, .ref tV, .ref tM, .int (nI (n + 1))]), (tS, aI E 6 (upd fS n x1)), (tV, aI E 6 (upd fV n x2)), (tM, aI E 6 (upd fM n x3))]) rfl fp_X7_21_6 rfl rfl (Nat.le_of_ble_eq_true rfl) rfl dX7_add_48 ?_
  refine V.iconst (v := 1) dX7_add_51 (by decide) ?_
  exact V.zret rfl (rfl) dX7_add_52 (⟨(), rfl, rfl, rfl, trivial⟩)

set_option maxHeartbeats 4000000 in
set_option maxRecDepth 100000 in
theorem c_Tells_addF (E : vEnv) (l : Launch) (L : List Nat) (h : Nat → va_E) (to : Nat) (tS : Nat) (tV : Nat) (tM : Nat) (n : Nat) (x1 : Int32) (x2 : Int32) (x3 : Int32) (hn : 6 ≤ n) (hn2 : n < 2 ^ 30) : CT E l yX7_add cX7_add 4 (some (.boolean)) 0 0 0 L h [(to, ob 6 [.ref tS, .ref tV, .ref tM, .int (nI n)])] [.ref to, .int x1, .int x2, .int x3] (qP L h (fun (_ : Unit) => [(to, ob 6 [.ref tS, .ref tV, .ref tM, .int (nI n)])]) (fun _ => some (.int 0)) (fun _ => True)) := by
  refine CT.ofV (by decide +kernel) (Nat.le_of_ble_eq_true rfl) ?_
  refine V.locals2 (lv2 := [(0, .ref to), (1, .int x1), (2, .int x2), (3, .int x3)]) rfl ?_
  refine V.aload_n dX7_add_0 0 rfl ?_
  refine V.getf 0 3 rfl fa_X7_21_6 rfl dX7_add_1 ?_
  refine V.bipush (v := 6) dX7_add_4 (by decide) ?_
  refine V.icmp_lt (tgt := 11) dX7_add_6 (by decide) (fun hc => absurd hc (show ¬ nI n < nI 6 from nI_nlt hn (by omega))) (fun _ => ?_)
  refine V.iconst (v := 0) dX7_add_9 (by decide) ?_
  exact V.zret rfl (rfl) dX7_add_10 (⟨(), rfl, rfl, rfl, trivial⟩)

set_option maxHeartbeats 4000000 in
set_option maxRecDepth 100000 in
theorem c_Tells_smeltBehind (E : vEnv) (l : Launch) (L : List Nat) (h : Nat → va_E) (q : Nat) (κ : Nat) (so : Nat) (sg : Int32) (pr : Int32) (v : Nat) (ti : Int32) (hk : κ < 4) (hs : so < 4) (hv : v ≤ 9) : CT E l yX7_smeltBehind cX7_smeltBehind 5 (some (.int)) 2 0 0 L h [(q, ob (kci κ) [.int (nI so), .int sg, .int pr])] [.ref q, .int (nI v), .int ti] (qP L h (fun (_ : Unit) => [(q, ob (kci κ) [.int (nI so), .int sg, .int pr])]) (fun _ => some (.int (smeltI κ sg (tiredBy κ so ti v) 0))) (fun _ => True)) := by
  refine CT.ofV (by decide +kernel) (Nat.le_of_ble_eq_true rfl) ?_
  obtain ⟨Z, hZ⟩ : ∃ Z, Z = mZ E (qP L h (fun (_ : Unit) => [(q, ob (kci κ) [.int (nI so), .int sg, .int pr])]) (fun _ => some (.int (smeltI κ sg (tiredBy κ so ti v) 0))) (fun _ => True)) 0 0 := ⟨_, rfl⟩
  rw [← hZ]
  refine V.locals2 (lv2 := [(0, .ref q), (1, .int (nI v)), (2, .int ti)]) rfl ?_
  refine V.iconst (v := 0) dX7_smeltBehind_0 (by decide) ?_
  refine V.istore_n (lv2 := [(3, .int 0), (0, .ref q), (1, .int (nI v)), (2, .int ti)]) dX7_smeltBehind_1 rfl (by decide) rfl ?_
  refine V.iconst (v := 0) dX7_smeltBehind_2 (by decide) ?_
  refine V.istore (lv2 := [(4, .int 0), (3, .int 0), (0, .ref q), (1, .int (nI v)), (2, .int ti)]) dX7_smeltBehind_3 (by decide) rfl ?_
  refine V.locals [2, 3, 4, 1, 0] (by rfl) ?_
  have lp_5 : ∀ (fuel : Nat) (i : Nat) (hi : i ≤ v) (hf : v < i + fuel), V E l yX7_smeltBehind cX7_smeltBehind 5 (some (.int)) (rmk 2 0 0) Z L h 0 0 [(q, ob (kci κ) [.int (nI so), .int sg, .int pr])] 5 [(0, .ref q), (1, .int (nI v)), (2, .int ti), (3, .int (tiredBy κ so ti i)), (4, .int (nI i))] [] := by
    intro fuel
    induction fuel with
    | zero =>
      intro i hi hf
      exfalso; omega
    | succ fuel ih_5 =>
      intro i hi hf
      refine V.iload dX7_smeltBehind_5 4 rfl ?_
      refine V.iload_n dX7_smeltBehind_7 1 rfl ?_
      refine V.icmp_ge (tgt := 32) dX7_smeltBehind_8 (by decide) (fun c1_8 => ?_) (fun c1_8 => ?_)
      · skip
        have hc1_8 : v ≤ i := (nI_leI (by omega) (by omega)).mp c1_8
        refine V.aload_n dX7_smeltBehind_32 0 rfl ?_
        refine V.iload_n dX7_smeltBehind_33 3 rfl ?_
        refine V.iconst (v := 0) dX7_smeltBehind_34 (by decide) ?_
        refine V.smeltBy (rest := []) (by assumption) 0 rfl w_693 rfl (Nat.le_of_ble_eq_true rfl) ⟨by decide, by decide⟩ ⟨by decide, by decide⟩ dX7_smeltBehind_35 ?_
        subst hZ
        exact V.iret rfl dX7_smeltBehind_38 (⟨(), by rw [show i = v by omega], rfl, rfl, trivial⟩)
      · skip
        have hc1_8 : i < v := Nat.lt_of_not_le (fun hh => c1_8 (nI_le hh (by omega)))
        refine V.iload_n dX7_smeltBehind_11 3 rfl ?_
        refine V.aload_n dX7_smeltBehind_12 0 rfl ?_
        refine V.aload_n dX7_smeltBehind_13 0 rfl ?_
        refine V.getf 0 0 rfl (fas_X7_31 (by assumption)) rfl dX7_smeltBehind_14 ?_
        refine V.iload_n dX7_smeltBehind_17 2 rfl ?_
        refine V.tiring (rest := [.int (tiredBy κ so ti i)]) (by assumption) 0 rfl w_691 rfl (Nat.le_of_ble_eq_true rfl) ⟨by decide, by decide⟩ ⟨by decide, by decide⟩ dX7_smeltBehind_18 ?_
        refine V.iadd dX7_smeltBehind_21 ?_
        refine V.callSNp (host := "RoseLane") (As := [.int ((tiredBy κ so ti i) + (tiringI κ (nI so) (nI so) ti))]) (rest := []) [] (c_held E l L _ (((tiredBy κ so ti i) + (tiringI κ (nI so) (nI so) ti)))) rfl (by decide) mi_X10_held (by decide) w_512 rfl rfl (Nat.le_of_ble_eq_true rfl) ⟨by decide, by decide⟩ ⟨by decide, by decide⟩ dX7_smeltBehind_22 (vw2 := fun _ => [(q, ob (kci κ) [.int (nI so), .int sg, .int pr])]) (st2 := fun _ => [.int (heldI ((tiredBy κ so ti i) + (tiringI κ (nI so) (nI so) ti)))]) (fun _ => rfl) (fun _ => rfl) (fun _ => rfl) (fun _ _ => ?_)
        refine V.istore_n (lv2 := [(3, .int (heldI ((tiredBy κ so ti i) + (tiringI κ (nI so) (nI so) ti)))), (0, .ref q), (1, .int (nI v)), (2, .int ti), (4, .int (nI i))]) dX7_smeltBehind_25 rfl (by decide) rfl ?_
        refine V.iinc (v := (nI (i + 1))) (lv2 := [(4, .int (nI (i + 1))), (3, .int (heldI ((tiredBy κ so ti i) + (tiringI κ (nI so) (nI so) ti)))), (0, .ref q), (1, .int (nI v)), (2, .int ti)]) dX7_smeltBehind_26 4 rfl (nI_1 _) (by decide) rfl ?_
        refine V.goto (tgt := 5) dX7_smeltBehind_29 (by decide) ?_
        refine V.locals [2, 3, 4, 1, 0] (by rfl) ?_
        exact ih_5 (i + 1) (by omega) (by omega)
  exact lp_5 (v + 1) 0 (Nat.zero_le _) (by omega)
