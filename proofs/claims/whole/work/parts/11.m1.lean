set_option maxHeartbeats 4000000 in
set_option maxRecDepth 100000 in
theorem c_held (E : vEnv) (l : Launch) (L : List Nat) (h : Nat → va_E) (x : Int32) : CT E l yX10_held cX10_held 1 (some (.int)) 1 0 0 L h [] [.int x] (qP L h (fun (_ : Unit) => []) (fun _ => some (.int (heldI x))) (fun _ => True)) := by
  refine CT.ofV (by decide +kernel) (Nat.le_of_ble_eq_true rfl) ?_
  refine V.locals2 (lv2 := [(0, .int x)]) rfl ?_
  refine V.iconst (v := 0) dX10_held_0 (by decide) ?_
  refine V.bipush (v := 99) dX10_held_1 (by decide) ?_
  refine V.iload_n dX10_held_3 0 rfl ?_
  refine V.mmin w_518 (Nat.le_of_ble_eq_true rfl) ⟨by decide, by decide⟩ ⟨by decide, by decide⟩ dX10_held_4 ?_
  refine V.mmax w_521 (Nat.le_of_ble_eq_true rfl) ⟨by decide, by decide⟩ ⟨by decide, by decide⟩ dX10_held_7 ?_
  exact V.iret rfl dX10_held_10 (⟨(), rfl, rfl, rfl, trivial⟩)

set_option maxHeartbeats 4000000 in
set_option maxRecDepth 100000 in
theorem c_within (E : vEnv) (l : Launch) (L : List Nat) (h : Nat → va_E) (x : Int32) (a : Int32) (b : Int32) : CT E l yX10_isWithin cX10_isWithin 3 (some (.boolean)) 0 0 0 L h [] [.int x, .int a, .int b] (qP L h (fun (_ : Unit) => []) (fun _ => some (.int (withinI x a b))) (fun _ => True)) := by
  refine CT.ofV (by decide +kernel) (Nat.le_of_ble_eq_true rfl) ?_
  refine V.locals2 (lv2 := [(0, .int x), (1, .int a), (2, .int b)]) rfl ?_
  refine V.iload_n dX10_isWithin_0 1 rfl ?_
  refine V.iload_n dX10_isWithin_1 0 rfl ?_
  refine V.icmp_gt (tgt := 14) dX10_isWithin_2 (by decide) (fun c1_2 => ?_) (fun c1_2 => ?_)
  · skip
    refine V.iconst (v := 0) dX10_isWithin_14 (by decide) ?_
    exact V.zret rfl (rfl) dX10_isWithin_15 (⟨(), by first | rw [within1 (by assumption) (by assumption)] | rw [within0a (by assumption)] | rw [within0b (by assumption)], rfl, rfl, trivial⟩)
  · skip
    refine V.iload_n dX10_isWithin_5 0 rfl ?_
    refine V.iload_n dX10_isWithin_6 2 rfl ?_
    refine V.icmp_gt (tgt := 14) dX10_isWithin_7 (by decide) (fun c2_7 => ?_) (fun c2_7 => ?_)
    · skip
      refine V.iconst (v := 0) dX10_isWithin_14 (by decide) ?_
      exact V.zret rfl (rfl) dX10_isWithin_15 (⟨(), by first | rw [within1 (by assumption) (by assumption)] | rw [within0a (by assumption)] | rw [within0b (by assumption)], rfl, rfl, trivial⟩)
    · skip
      refine V.iconst (v := 1) dX10_isWithin_10 (by decide) ?_
      refine V.goto (tgt := 15) dX10_isWithin_11 (by decide) ?_
      exact V.zret rfl (rfl) dX10_isWithin_15 (⟨(), by first | rw [within1 (by assumption) (by assumption)] | rw [within0a (by assumption)] | rw [within0b (by assumption)], rfl, rfl, trivial⟩)

set_option maxHeartbeats 4000000 in
set_option maxRecDepth 100000 in
theorem c_Nose_step (E : vEnv) (l : Launch) (L : List Nat) (h : Nat → va_E) (a : Nat) (ta : Nat) (t : Nat → Int32) (pl : Int32) (sp : Int32) (co : Int32) (pu : Int32) (bo : Int32) (sm : Int32) (tu : Int32) (lo : Nat) (lt : Nat) (lr : Nat) (lw : Nat) (r : Nat → Int32) (sh : Int32) (wa : Int32) (lp : Int32) (n : Int32) : CT E l yX3_step cX3_step 4 none 2 0 0 L h [(a, ob 3 [.ref ta, .int pl, .int sp, .int co, .int pu, .int bo, .int sm, .int tu]), (ta, aI E 4 t), (lo, ob 1 [.ref lt, .ref lr, .ref lw, .int sh, .int wa, .int lp]), (lr, aI E 4 r)] [.ref a, .ref lo, .int n] (qP L h (fun (_ : Unit) => [(a, ob 3 [.ref ta, .int pl, .int (sp + n), .int (if 0 < co - n then co - n else 0), .int pu, .int bo, .int sm, .int tu]), (ta, aI E 4 (stepT t r n)), (lo, ob 1 [.ref lt, .ref lr, .ref lw, .int sh, .int wa, .int lp]), (lr, aI E 4 r)]) (fun _ => none) (fun _ => True)) := by
  refine CT.ofV (by decide +kernel) (Nat.le_of_ble_eq_true rfl) ?_
  refine V.locals2 (lv2 := [(0, .ref a), (1, .ref lo), (2, .int n)]) rfl ?_
  refine V.iconst (v := 0) dX3_step_0 (by decide) ?_
  refine V.istore_n (lv2 := [(3, .int 0), (0, .ref a), (1, .ref lo), (2, .int n)]) dX3_step_1 rfl (by decide) rfl ?_
  refine V.iload_n dX3_step_2 0 rfl ?_
  refine V.iconst (v := 4) dX3_step_3 (by decide) ?_
  refine V.icmp_ge (tgt := 37) dX3_step_4 (by decide) (fun hc => absurd hc (by decide)) (fun _ => ?_)
  refine V.aload_n dX3_step_7 1 rfl ?_
  refine V.getf 0 0 rfl fa_X3_9_3 rfl dX3_step_8 ?_
  refine V.iload_n dX3_step_11 0 rfl ?_
  refine V.aload_n dX3_step_12 1 rfl ?_
  refine V.getf 0 0 rfl fa_X3_9_3 rfl dX3_step_13 ?_
  refine V.iload_n dX3_step_16 0 rfl ?_
  refine V.iald 1 rfl (vin rfl) dX3_step_17 ?_
  refine V.topc (v := (t 0)) (rfl) ?_
  refine V.iload_n dX3_step_18 3 rfl ?_
  refine V.aload_n dX3_step_19 2 rfl ?_
  refine V.getf 2 1 rfl fa_X3_50_1 rfl dX3_step_20 ?_
  refine V.iload_n dX3_step_23 0 rfl ?_
  refine V.iald 3 rfl (vin rfl) dX3_step_24 ?_
  refine V.topc (v := (r 0)) (rfl) ?_
  refine V.imul dX3_step_25 ?_
  refine V.isub dX3_step_26 ?_
  refine V.callSNp (host := "RoseLane") (As := [.int ((t 0) - (n * (r 0)))]) (rest := [.int 0, .ref ta]) [] (c_held E l L _ (((t 0) - (n * (r 0))))) rfl (by decide) mi_X10_held (by decide) w_516 rfl rfl (Nat.le_of_ble_eq_true rfl) ⟨by decide, by decide⟩ ⟨by decide, by decide⟩ dX3_step_27 (vw2 := fun _ => [(a, ob 3 [.ref ta, .int pl, .int sp, .int co, .int pu, .int bo, .int sm, .int tu]), (ta, aI E 4 t), (lo, ob 1 [.ref lt, .ref lr, .ref lw, .int sh, .int wa, .int lp]), (lr, aI E 4 r)]) (st2 := fun _ => [.int (heldI ((t 0) - (n * (r 0)))), .int 0, .ref ta]) (fun _ => rfl) (fun _ => rfl) (fun _ => rfl) (fun _ _ => ?_)
  refine V.iast (vw2 := [(a, ob 3 [.ref ta, .int pl, .int sp, .int co, .int pu, .int bo, .int sm, .int tu]), (ta, aI E 4 (upd t 0 (heldI ((t 0) - (n * (r 0)))))), (lo, ob 1 [.ref lt, .ref lr, .ref lw, .int sh, .int wa, .int lp]), (lr, aI E 4 r)]) 1 rfl (vin rfl) (rfl) dX3_step_30 ?_
  refine V.iinc (v := 1) (lv2 := [(3, .int 1), (0, .ref a), (1, .ref lo), (2, .int n)]) dX3_step_31 0 rfl (by decide) (by decide) rfl ?_
  refine V.goto (tgt := 2) dX3_step_34 (by decide) ?_
  refine V.iload_n dX3_step_2 0 rfl ?_
  refine V.iconst (v := 4) dX3_step_3 (by decide) ?_
  refine V.icmp_ge (tgt := 37) dX3_step_4 (by decide) (fun hc => absurd hc (by decide)) (fun _ => ?_)
  refine V.aload_n dX3_step_7 1 rfl ?_
  refine V.getf 0 0 rfl fa_X3_9_3 rfl dX3_step_8 ?_
  refine V.iload_n dX3_step_11 0 rfl ?_
  refine V.aload_n dX3_step_12 1 rfl ?_
  refine V.getf 0 0 rfl fa_X3_9_3 rfl dX3_step_13 ?_
  refine V.iload_n dX3_step_16 0 rfl ?_
  refine V.iald 1 rfl (vin rfl) dX3_step_17 ?_
  refine V.topc (v := (t 1)) (rfl) ?_
  refine V.iload_n dX3_step_18 3 rfl ?_
  refine V.aload_n dX3_step_19 2 rfl ?_
  refine V.getf 2 1 rfl fa_X3_50_1 rfl dX3_step_20 ?_
  refine V.iload_n dX3_step_23 0 rfl ?_
  refine V.iald 3 rfl (vin rfl) dX3_step_24 ?_
  refine V.topc (v := (r 1)) (rfl) ?_
  refine V.imul dX3_step_25 ?_
  refine V.isub dX3_step_26 ?_
  refine V.callSNp (host := "RoseLane") (As := [.int ((t 1) - (n * (r 1)))]) (rest := [.int 1, .ref ta]) [] (c_held E l L _ (((t 1) - (n * (r 1))))) rfl (by decide) mi_X10_held (by decide) w_516 rfl rfl (Nat.le_of_ble_eq_true rfl) ⟨by decide, by decide⟩ ⟨by decide, by decide⟩ dX3_step_27 (vw2 := fun _ => [(a, ob 3 [.ref ta, .int pl, .int sp, .int co, .int pu, .int bo, .int sm, .int tu]), (ta, aI E 4 (upd t 0 (heldI ((t 0) - (n * (r 0)))))), (lo, ob 1 [.ref lt, .ref lr, .ref lw, .int sh, .int wa, .int lp]), (lr, aI E 4 r)]) (st2 := fun _ => [.int (heldI ((t 1) - (n * (r 1)))), .int 1, .ref ta]) (fun _ => rfl) (fun _ => rfl) (fun _ => rfl) (fun _ _ => ?_)
  refine V.iast (vw2 := [(a, ob 3 [.ref ta, .int pl, .int sp, .int co, .int pu, .int bo, .int sm, .int tu]), (ta, aI E 4 (upd (upd t 0 (heldI ((t 0) - (n * (r 0))))) 1 (heldI ((t 1) - (n * (r 1)))))), (lo, ob 1 [.ref lt, .ref lr, .ref lw, .int sh, .int wa, .int lp]), (lr, aI E 4 r)]) 1 rfl (vin rfl) (rfl) dX3_step_30 ?_
  refine V.iinc (v := 2) (lv2 := [(3, .int 2), (0, .ref a), (1, .ref lo), (2, .int n)]) dX3_step_31 0 rfl (by decide) (by decide) rfl ?_
  refine V.goto (tgt := 2) dX3_step_34 (by decide) ?_
  refine V.iload_n dX3_step_2 0 rfl ?_
  refine V.iconst (v := 4) dX3_step_3 (by decide) ?_
  refine V.icmp_ge (tgt := 37) dX3_step_4 (by decide) (fun hc => absurd hc (by decide)) (fun _ => ?_)
  refine V.aload_n dX3_step_7 1 rfl ?_
  refine V.getf 0 0 rfl fa_X3_9_3 rfl dX3_step_8 ?_
  refine V.iload_n dX3_step_11 0 rfl ?_
  refine V.aload_n dX3_step_12 1 rfl ?_
  refine V.getf 0 0 rfl fa_X3_9_3 rfl dX3_step_13 ?_
  refine V.iload_n dX3_step_16 0 rfl ?_
  refine V.iald 1 rfl (vin rfl) dX3_step_17 ?_
  refine V.topc (v := (t 2)) (rfl) ?_
  refine V.iload_n dX3_step_18 3 rfl ?_
  refine V.aload_n dX3_step_19 2 rfl ?_
  refine V.getf 2 1 rfl fa_X3_50_1 rfl dX3_step_20 ?_
  refine V.iload_n dX3_step_23 0 rfl ?_
  refine V.iald 3 rfl (vin rfl) dX3_step_24 ?_
  refine V.topc (v := (r 2)) (rfl) ?_
  refine V.imul dX3_step_25 ?_
  refine V.isub dX3_step_26 ?_
  refine V.callSNp (host := "RoseLane") (As := [.int ((t 2) - (n * (r 2)))]) (rest := [.int 2, .ref ta]) [] (c_held E l L _ (((t 2) - (n * (r 2))))) rfl (by decide) mi_X10_held (by decide) w_516 rfl rfl (Nat.le_of_ble_eq_true rfl) ⟨by decide, by decide⟩ ⟨by decide, by decide⟩ dX3_step_27 (vw2 := fun _ => [(a, ob 3 [.ref ta, .int pl, .int sp, .int co, .int pu, .int bo, .int sm, .int tu]), (ta, aI E 4 (upd (upd t 0 (heldI ((t 0) - (n * (r 0))))) 1 (heldI ((t 1) - (n * (r 1)))))), (lo, ob 1 [.ref lt, .ref lr, .ref lw, .int sh, .int wa, .int lp]), (lr, aI E 4 r)]) (st2 := fun _ => [.int (heldI ((t 2) - (n * (r 2)))), .int 2, .ref ta]) (fun _ => rfl) (fun _ => rfl) (fun _ => rfl) (fun _ _ => ?_)
  refine V.iast (vw2 := [(a, ob 3 [.ref ta, .int pl, .int sp, .int co, .int pu, .int bo, .int sm, .int tu]), (ta, aI E 4 (upd (upd (upd t 0 (heldI ((t 0) - (n * (r 0))))) 1 (heldI ((t 1) - (n * (r 1))))) 2 (heldI ((t 2) - (n * (r 2)))))), (lo, ob 1 [.ref lt, .ref lr, .ref lw, .int sh, .int wa, .int lp]), (lr, aI E 4 r)]) 1 rfl (vin rfl) (rfl) dX3_step_30 ?_
  refine V.iinc (v := 3) (lv2 := [(3, .int 3), (0, .ref a), (1, .ref lo), (2, .int n)]) dX3_step_31 0 rfl (by decide) (by decide) rfl ?_
  refine V.goto (tgt := 2) dX3_step_34 (by decide) ?_
  refine V.iload_n dX3_step_2 0 rfl ?_
  refine V.iconst (v := 4) dX3_step_3 (by decide) ?_
  refine V.icmp_ge (tgt := 37) dX3_step_4 (by decide) (fun hc => absurd hc (by decide)) (fun _ => ?_)
  refine V.aload_n dX3_step_7 1 rfl ?_
  refine V.getf 0 0 rfl fa_X3_9_3 rfl dX3_step_8 ?_
  refine V.iload_n dX3_step_11 0 rfl ?_
  refine V.aload_n dX3_step_12 1 rfl ?_
  refine V.getf 0 0 rfl fa_X3_9_3 rfl dX3_step_13 ?_
  refine V.iload_n dX3_step_16 0 rfl ?_
  refine V.iald 1 rfl (vin rfl) dX3_step_17 ?_
  refine V.topc (v := (t 3)) (rfl) ?_
  refine V.iload_n dX3_step_18 3 rfl ?_
  refine V.aload_n dX3_step_19 2 rfl ?_
  refine V.getf 2 1 rfl fa_X3_50_1 rfl dX3_step_20 ?_
  refine V.iload_n dX3_step_23 0 rfl ?_
  refine V.iald 3 rfl (vin rfl) dX3_step_24 ?_
  refine V.topc (v := (r 3)) (rfl) ?_
  refine V.imul dX3_step_25 ?_
  refine V.isub dX3_step_26 ?_
  refine V.callSNp (host := "RoseLane") (As := [.int ((t 3) - (n * (r 3)))]) (rest := [.int 3, .ref ta]) [] (c_held E l L _ (((t 3) - (n * (r 3))))) rfl (by decide) mi_X10_held (by decide) w_516 rfl rfl (Nat.le_of_ble_eq_true rfl) ⟨by decide, by decide⟩ ⟨by decide, by decide⟩ dX3_step_27 (vw2 := fun _ => [(a, ob 3 [.ref ta, .int pl, .int sp, .int co, .int pu, .int bo, .int sm, .int tu]), (ta, aI E 4 (upd (upd (upd t 0 (heldI ((t 0) - (n * (r 0))))) 1 (heldI ((t 1) - (n * (r 1))))) 2 (heldI ((t 2) - (n * (r 2)))))), (lo, ob 1 [.ref lt, .ref lr, .ref lw, .int sh, .int wa, .int lp]), (lr, aI E 4 r)]) (st2 := fun _ => [.int (heldI ((t 3) - (n * (r 3)))), .int 3, .ref ta]) (fun _ => rfl) (fun _ => rfl) (fun _ => rfl) (fun _ _ => ?_)
  refine V.iast (vw2 := [(a, ob 3 [.ref ta, .int pl, .int sp, .int co, .int pu, .int bo, .int sm, .int tu]), (ta, aI E 4 (upd (upd (upd (upd t 0 (heldI ((t 0) - (n * (r 0))))) 1 (heldI ((t 1) - (n * (r 1))))) 2 (heldI ((t 2) - (n * (r 2))))) 3 (heldI ((t 3) - (n * (r 3)))))), (lo, ob 1 [.ref lt, .ref lr, .ref lw, .int sh, .int wa, .int lp]), (lr, aI E 4 r)]) 1 rfl (vin rfl) (rfl) dX3_step_30 ?_
  refine V.iinc (v := 4) (lv2 := [(3, .int 4), (0, .ref a), (1, .ref lo), (2, .int n)]) dX3_step_31 0 rfl (by decide) (by decide) rfl ?_
  refine V.goto (tgt := 2) dX3_step_34 (by decide) ?_
  refine V.iload_n dX3_step_2 0 rfl ?_
  refine V.iconst (v := 4) dX3_step_3 (by decide) ?_
  refine V.icmp_ge (tgt := 37) dX3_step_4 (by decide) (fun _ => ?_) (fun hc => absurd (by decide) hc)
  refine V.aload_n dX3_step_37 1 rfl ?_
  refine V.iconst (v := 0) dX3_step_38 (by decide) ?_
  refine V.aload_n dX3_step_39 1 rfl ?_
  refine V.getf 0 3 rfl fa_X3_28_3 rfl dX3_step_40 ?_
  refine V.iload_n dX3_step_43 3 rfl ?_
  refine V.isub dX3_step_44 ?_
  refine V.mmax w_551 (Nat.le_of_ble_eq_true rfl) ⟨by decide, by decide⟩ ⟨by decide, by decide⟩ dX3_step_45 ?_
  refine V.putf 0 3 (vw2 := [(a, ob 3 [.ref ta, .int pl, .int sp, .int (if 0 < (co - n) then (co - n) else 0), .int pu, .int bo, .int sm, .int tu]), (ta, aI E 4 (upd (upd (upd (upd t 0 (heldI ((t 0) - (n * (r 0))))) 1 (heldI ((t 1) - (n * (r 1))))) 2 (heldI ((t 2) - (n * (r 2))))) 3 (heldI ((t 3) - (n * (r 3)))))), (lo, ob 1 [.ref lt, .ref lr, .ref lw, .int sh, .int wa, .int lp]), (lr, aI E 4 r)]) rfl fp_X3_28_3 rfl rfl (Nat.le_of_ble_eq_true rfl) rfl dX3_step_48 ?_
  refine V.aload_n dX3_step_51 1 rfl ?_
  refine V.dup dX3_step_52 rfl ?_
  refine V.getf 0 2 rfl fa_X3_25_3 rfl dX3_step_53 ?_
  refine V.iload_n dX3_step_56 3 rfl ?_
  refine V.iadd dX3_step_57 ?_
  refine V.putf 0 2 (vw2 := [(a, ob 3 [.ref ta, .int pl, .int (sp + n), .int (if 0 < (co - n) then (co - n) else 0), .int pu, .int bo, .int sm, .int tu]), (ta, aI E 4 (upd (upd (upd (upd t 0 (heldI ((t 0) - (n * (r 0))))) 1 (heldI ((t 1) - (n * (r 1))))) 2 (heldI ((t 2) - (n * (r 2))))) 3 (heldI ((t 3) - (n * (r 3)))))), (lo, ob 1 [.ref lt, .ref lr, .ref lw, .int sh, .int wa, .int lp]), (lr, aI E 4 r)]) rfl fp_X3_25_3 rfl rfl (Nat.le_of_ble_eq_true rfl) rfl dX3_step_58 ?_
  exact V.vret rfl dX3_step_61 (⟨(), rfl, rfl, rfl, trivial⟩)
