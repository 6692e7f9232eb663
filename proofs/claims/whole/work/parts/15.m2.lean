set_option maxHeartbeats 4000000 in
set_option maxRecDepth 100000 in
theorem c_Nose_copy (E : vEnv) (l : Launch) (L : List Nat) (h : Nat → va_E) (a : Nat) (ta : Nat) (s : NS) (b : Nat) (tb : Nat) (s2 : NS) (hb : s2.2.2.2.2.2.2.2 = 0 ∨ s2.2.2.2.2.2.2.2 = 1) : CT E l yX3_copy cX3_copy 2 none 1 0 0 L h [(a, ob 3 [.ref ta, .int s.2.1, .int s.2.2.1, .int s.2.2.2.1, .int s.2.2.2.2.1, .int s.2.2.2.2.2.1, .int s.2.2.2.2.2.2.1, .int s.2.2.2.2.2.2.2]), (ta, aI E 4 s.1), (b, ob 3 [.ref tb, .int s2.2.1, .int s2.2.2.1, .int s2.2.2.2.1, .int s2.2.2.2.2.1, .int s2.2.2.2.2.2.1, .int s2.2.2.2.2.2.2.1, .int s2.2.2.2.2.2.2.2]), (tb, aI E 4 s2.1)] [.ref a, .ref b] (qP L h (fun (_ : Unit) => [(a, ob 3 [.ref ta, .int s2.2.1, .int s2.2.2.1, .int s2.2.2.2.1, .int s2.2.2.2.2.1, .int s2.2.2.2.2.2.1, .int s2.2.2.2.2.2.2.1, .int s2.2.2.2.2.2.2.2]), (ta, aI E 4 s2.1), (b, ob 3 [.ref tb, .int s2.2.1, .int s2.2.2.1, .int s2.2.2.2.1, .int s2.2.2.2.2.1, .int s2.2.2.2.2.2.1, .int s2.2.2.2.2.2.2.1, .int s2.2.2.2.2.2.2.2]), (tb, aI E 4 s2.1)]) (fun _ => none) (fun _ => True)) := by
  refine CT.ofV (by decide +kernel) (Nat.le_of_ble_eq_true rfl) ?_
  refine V.locals2 (lv2 := [(0, .ref a), (1, .ref b)]) rfl ?_
  refine V.aload_n dX3_copy_0 1 rfl ?_
  refine V.getf 2 0 rfl fa_X3_9_3 rfl dX3_copy_1 ?_
  refine V.iconst (v := 0) dX3_copy_4 (by decide) ?_
  refine V.aload_n dX3_copy_5 0 rfl ?_
  refine V.getf 0 0 rfl fa_X3_9_3 rfl dX3_copy_6 ?_
  refine V.iconst (v := 0) dX3_copy_9 (by decide) ?_
  refine V.iconst (v := 4) dX3_copy_10 (by decide) ?_
  refine V.copyi (vw2 := [(a, ob 3 [.ref ta, .int s.2.1, .int s.2.2.1, .int s.2.2.2.1, .int s.2.2.2.2.1, .int s.2.2.2.2.2.1, .int s.2.2.2.2.2.2.1, .int s.2.2.2.2.2.2.2]), (ta, aI E 4 (va_cpy s2.1 s.1 0 0 4)), (b, ob 3 [.ref tb, .int s2.2.1, .int s2.2.2.1, .int s2.2.2.2.1, .int s2.2.2.2.2.1, .int s2.2.2.2.2.2.1, .int s2.2.2.2.2.2.2.1, .int s2.2.2.2.2.2.2.2]), (tb, aI E 4 s2.1)]) 3 1 rfl rfl w_530 (by decide) (by decide) (by decide) (by decide) (by decide) rfl ⟨by decide, by decide⟩ dX3_copy_11 ?_
  refine V.aload_n dX3_copy_14 0 rfl ?_
  refine V.aload_n dX3_copy_15 1 rfl ?_
  refine V.getf 2 1 rfl fa_X3_21_3 rfl dX3_copy_16 ?_
  refine V.arrEq (vw2 := [(a, ob 3 [.ref ta, .int s.2.1, .int s.2.2.1, .int s.2.2.2.1, .int s.2.2.2.2.1, .int s.2.2.2.2.2.1, .int s.2.2.2.2.2.2.1, .int s.2.2.2.2.2.2.2]), (ta, aI E 4 s2.1), (b, ob 3 [.ref tb, .int s2.2.1, .int s2.2.2.1, .int s2.2.2.2.1, .int s2.2.2.2.2.1, .int s2.2.2.2.2.2.1, .int s2.2.2.2.2.2.2.1, .int s2.2.2.2.2.2.2.2]), (tb, aI E 4 s2.1)]) 1 0 rfl (fun j hj => by rcases (show j = 0 ∨ j = 1 ∨ j = 2 ∨ j = 3 by omega) with rfl | rfl | rfl | rfl <;> rfl) rfl ?_
  refine V.putf 0 1 (vw2 := [(a, ob 3 [.ref ta, .int s2.2.1, .int s.2.2.1, .int s.2.2.2.1, .int s.2.2.2.2.1, .int s.2.2.2.2.2.1, .int s.2.2.2.2.2.2.1, .int s.2.2.2.2.2.2.2]), (ta, aI E 4 s2.1), (b, ob 3 [.ref tb, .int s2.2.1, .int s2.2.2.1, .int s2.2.2.2.1, .int s2.2.2.2.2.1, .int s2.2.2.2.2.2.1, .int s2.2.2.2.2.2.2.1, .int s2.2.2.2.2.2.2.2]), (tb, aI E 4 s2.1)]) rfl fp_X3_21_3 rfl rfl (Nat.le_of_ble_eq_true rfl) rfl dX3_copy_19 ?_
  refine V.aload_n dX3_copy_22 0 rfl ?_
  refine V.aload_n dX3_copy_23 1 rfl ?_
  refine V.getf 2 2 rfl fa_X3_25_3 rfl dX3_copy_24 ?_
  refine V.putf 0 2 (vw2 := [(a, ob 3 [.ref ta, .int s2.2.1, .int s2.2.2.1, .int s.2.2.2.1, .int s.2.2.2.2.1, .int s.2.2.2.2.2.1, .int s.2.2.2.2.2.2.1, .int s.2.2.2.2.2.2.2]), (ta, aI E 4 s2.1), (b, ob 3 [.ref tb, .int s2.2.1, .int s2.2.2.1, .int s2.2.2.2.1, .int s2.2.2.2.2.1, .int s2.2.2.2.2.2.1, .int s2.2.2.2.2.2.2.1, .int s2.2.2.2.2.2.2.2]), (tb, aI E 4 s2.1)]) rfl fp_X3_25_3 rfl rfl (Nat.le_of_ble_eq_true rfl) rfl dX3_copy_27 ?_
  refine V.aload_n dX3_copy_30 0 rfl ?_
  refine V.aload_n dX3_copy_31 1 rfl ?_
  refine V.getf 2 3 rfl fa_X3_28_3 rfl dX3_copy_32 ?_
  refine V.putf 0 3 (vw2 := [(a, ob 3 [.ref ta, .int s2.2.1, .int s2.2.2.1, .int s2.2.2.2.1, .int s.2.2.2.2.1, .int s.2.2.2.2.2.1, .int s.2.2.2.2.2.2.1, .int s.2.2.2.2.2.2.2]), (ta, aI E 4 s2.1), (b, ob 3 [.ref tb, .int s2.2.1, .int s2.2.2.1, .int s2.2.2.2.1, .int s2.2.2.2.2.1, .int s2.2.2.2.2.2.1, .int s2.2.2.2.2.2.2.1, .int s2.2.2.2.2.2.2.2]), (tb, aI E 4 s2.1)]) rfl fp_X3_28_3 rfl rfl (Nat.le_of_ble_eq_true rfl) rfl dX3_copy_35 ?_
  refine V.aload_n dX3_copy_38 0 rfl ?_
  refine V.aload_n dX3_copy_39 1 rfl ?_
  refine V.getf 2 4 rfl fa_X3_31_3 rfl dX3_copy_40 ?_
  refine V.putf 0 4 (vw2 := [(a, ob 3 [.ref ta, .int s2.2.1, .int s2.2.2.1, .int s2.2.2.2.1, .int s2.2.2.2.2.1, .int s.2.2.2.2.2.1, .int s.2.2.2.2.2.2.1, .int s.2.2.2.2.2.2.2]), (ta, aI E 4 s2.1), (b, ob 3 [.ref tb, .int s2.2.1, .int s2.2.2.1, .int s2.2.2.2.1, .int s2.2.2.2.2.1, .int s2.2.2.2.2.2.1, .int s2.2.2.2.2.2.2.1, .int s2.2.2.2.2.2.2.2]), (tb, aI E 4 s2.1)]) rfl fp_X3_31_3 rfl rfl (Nat.le_of_ble_eq_true rfl) rfl dX3_copy_43 ?_
  refine V.aload_n dX3_copy_46 0 rfl ?_
  refine V.aload_n dX3_copy_47 1 rfl ?_
  refine V.getf 2 5 rfl fa_X3_34_3 rfl dX3_copy_48 ?_
  refine V.putf 0 5 (vw2 := [(a, ob 3 [.ref ta, .int s2.2.1, .int s2.2.2.1, .int s2.2.2.2.1, .int s2.2.2.2.2.1, .int s2.2.2.2.2.2.1, .int s.2.2.2.2.2.2.1, .int s.2.2.2.2.2.2.2]), (ta, aI E 4 s2.1), (b, ob 3 [.ref tb, .int s2.2.1, .int s2.2.2.1, .int s2.2.2.2.1, .int s2.2.2.2.2.1, .int s2.2.2.2.2.2.1, .int s2.2.2.2.2.2.2.1, .int s2.2.2.2.2.2.2.2]), (tb, aI E 4 s2.1)]) rfl fp_X3_34_3 rfl rfl (Nat.le_of_ble_eq_true rfl) rfl dX3_copy_51 ?_
  refine V.aload_n dX3_copy_54 0 rfl ?_
  refine V.aload_n dX3_copy_55 1 rfl ?_
  refine V.getf 2 6 rfl fa_X3_37_3 rfl dX3_copy_56 ?_
  refine V.putf 0 6 (vw2 := [(a, ob 3 [.ref ta, .int s2.2.1, .int s2.2.2.1, .int s2.2.2.2.1, .int s2.2.2.2.2.1, .int s2.2.2.2.2.2.1, .int s2.2.2.2.2.2.2.1, .int s.2.2.2.2.2.2.2]), (ta, aI E 4 s2.1), (b, ob 3 [.ref tb, .int s2.2.1, .int s2.2.2.1, .int s2.2.2.2.1, .int s2.2.2.2.2.1, .int s2.2.2.2.2.2.1, .int s2.2.2.2.2.2.2.1, .int s2.2.2.2.2.2.2.2]), (tb, aI E 4 s2.1)]) rfl fp_X3_37_3 rfl rfl (Nat.le_of_ble_eq_true rfl) rfl dX3_copy_59 ?_
  refine V.aload_n dX3_copy_62 0 rfl ?_
  refine V.aload_n dX3_copy_63 1 rfl ?_
  refine V.getf 2 7 rfl fa_X3_40_3 rfl dX3_copy_64 ?_
  refine V.putf 0 7 (vw2 := [(a, ob 3 [.ref ta, .int s2.2.1, .int s2.2.2.1, .int s2.2.2.2.1, .int s2.2.2.2.2.1, .int s2.2.2.2.2.2.1, .int s2.2.2.2.2.2.2.1, .int s2.2.2.2.2.2.2.2]), (ta, aI E 4 s2.1), (b, ob 3 [.ref tb, .int s2.2.1, .int s2.2.2.1, .int s2.2.2.2.1, .int s2.2.2.2.2.1, .int s2.2.2.2.2.2.1, .int s2.2.2.2.2.2.2.1, .int s2.2.2.2.2.2.2.2]), (tb, aI E 4 s2.1)]) rfl fp_X3_40_3 (by rcases hb with e | e <;> rw [e] <;> rfl) (by rcases hb with e | e <;> rw [e] <;> rfl) (Nat.le_of_ble_eq_true rfl) rfl dX3_copy_67 ?_
  exact V.vret rfl dX3_copy_70 (⟨(), rfl, rfl, rfl, trivial⟩)

set_option maxHeartbeats 4000000 in
set_option maxRecDepth 100000 in
theorem c_Nose_freshen (E : vEnv) (l : Launch) (L : List Nat) (h : Nat → va_E) (a : Nat) (ta : Nat) (s : NS) (lo : Nat) (lt : Nat) (lr : Nat) (lw : Nat) (m : Nat) (wa : Int32) (lp : Int32) : CT E l yX3_freshen cX3_freshen 3 none 0 0 0 L h [(a, ob 3 [.ref ta, .int s.2.1, .int s.2.2.1, .int s.2.2.2.1, .int s.2.2.2.2.1, .int s.2.2.2.2.2.1, .int s.2.2.2.2.2.2.1, .int s.2.2.2.2.2.2.2]), (ta, aI E 4 s.1), (lo, ob 1 [.ref lt, .ref lr, .ref lw, .int (nI m), .int wa, .int lp])] [.ref a, .ref lo] (qP L h (fun (_ : Unit) => [(a, ob 3 [.ref ta, .int (freshN lp s).2.1, .int (freshN lp s).2.2.1, .int (freshN lp s).2.2.2.1, .int (freshN lp s).2.2.2.2.1, .int (freshN lp s).2.2.2.2.2.1, .int (freshN lp s).2.2.2.2.2.2.1, .int (freshN lp s).2.2.2.2.2.2.2]), (ta, aI E 4 (freshN lp s).1), (lo, ob 1 [.ref lt, .ref lr, .ref lw, .int (nI m), .int wa, .int lp])]) (fun _ => none) (fun _ => True)) := by
  refine CT.ofV (by decide +kernel) (Nat.le_of_ble_eq_true rfl) ?_
  refine V.locals2 (lv2 := [(0, .ref a), (1, .ref lo)]) rfl ?_
  refine V.iconst (v := 0) dX3_freshen_0 (by decide) ?_
  refine V.istore_n (lv2 := [(2, .int 0), (0, .ref a), (1, .ref lo)]) dX3_freshen_1 rfl (by decide) rfl ?_
  refine V.iload_n dX3_freshen_2 0 rfl ?_
  refine V.iconst (v := 4) dX3_freshen_3 (by decide) ?_
  refine V.icmp_ge (tgt := 20) dX3_freshen_4 (by decide) (fun hc => absurd hc (by decide)) (fun _ => ?_)
  refine V.aload_n dX3_freshen_7 1 rfl ?_
  refine V.getf 0 0 rfl fa_X3_9_3 rfl dX3_freshen_8 ?_
  refine V.iload_n dX3_freshen_11 0 rfl ?_
  refine V.iconst (v := 0) dX3_freshen_12 (by decide) ?_
  refine V.iast (vw2 := [(a, ob 3 [.ref ta, .int s.2.1, .int s.2.2.1, .int s.2.2.2.1, .int s.2.2.2.2.1, .int s.2.2.2.2.2.1, .int s.2.2.2.2.2.2.1, .int s.2.2.2.2.2.2.2]), (ta, aI E 4 (upd s.1 0 0)), (lo, ob 1 [.ref lt, .ref lr, .ref lw, .int (nI m), .int wa, .int lp])]) 1 rfl (vin rfl) (rfl) dX3_freshen_13 ?_
  refine V.iinc (v := 1) (lv2 := [(2, .int 1), (0, .ref a), (1, .ref lo)]) dX3_freshen_14 0 rfl (by decide) (by decide) rfl ?_
  refine V.goto (tgt := 2) dX3_freshen_17 (by decide) ?_
  refine V.iload_n dX3_freshen_2 0 rfl ?_
  refine V.iconst (v := 4) dX3_freshen_3 (by decide) ?_
  refine V.icmp_ge (tgt := 20) dX3_freshen_4 (by decide) (fun hc => absurd hc (by decide)) (fun _ => ?_)
  refine V.aload_n dX3_freshen_7 1 rfl ?_
  refine V.getf 0 0 rfl fa_X3_9_3 rfl dX3_freshen_8 ?_
  refine V.iload_n dX3_freshen_11 0 rfl ?_
  refine V.iconst (v := 0) dX3_freshen_12 (by decide) ?_
  refine V.iast (vw2 := [(a, ob 3 [.ref ta, .int s.2.1, .int s.2.2.1, .int s.2.2.2.1, .int s.2.2.2.2.1, .int s.2.2.2.2.2.1, .int s.2.2.2.2.2.2.1, .int s.2.2.2.2.2.2.2]), (ta, aI E 4 (upd (upd s.1 0 0) 1 0)), (lo, ob 1 [.ref lt, .ref lr, .ref lw, .int (nI m), .int wa, .int lp])]) 1 rfl (vin rfl) (rfl) dX3_freshen_13 ?_
  refine V.iinc (v := 2) (lv2 := [(2, .int 2), (0, .ref a), (1, .ref lo)]) dX3_freshen_14 0 rfl (by decide) (by decide) rfl ?_
  refine V.goto (tgt := 2) dX3_freshen_17 (by decide) ?_
  refine V.iload_n dX3_freshen_2 0 rfl ?_
  refine V.iconst (v := 4) dX3_freshen_3 (by decide) ?_
  refine V.icmp_ge (tgt := 20) dX3_freshen_4 (by decide) (fun hc => absurd hc (by decide)) (fun _ => ?_)
  refine V.aload_n dX3_freshen_7 1 rfl ?_
  refine V.getf 0 0 rfl fa_X3_9_3 rfl dX3_freshen_8 ?_
  refine V.iload_n dX3_freshen_11 0 rfl ?_
  refine V.iconst (v := 0) dX3_freshen_12 (by decide) ?_
  refine V.iast (vw2 := [(a, ob 3 [.ref ta, .int s.2.1, .int s.2.2.1, .int s.2.2.2.1, .int s.2.2.2.2.1, .int s.2.2.2.2.2.1, .int s.2.2.2.2.2.2.1, .int s.2.2.2.2.2.2.2]), (ta, aI E 4 (upd (upd (upd s.1 0 0) 1 0) 2 0)), (lo, ob 1 [.ref lt, .ref lr, .ref lw, .int (nI m), .int wa, .int lp])]) 1 rfl (vin rfl) (rfl) dX3_freshen_13 ?_
  refine V.iinc (v := 3) (lv2 := [(2, .int 3), (0, .ref a), (1, .ref lo)]) dX3_freshen_14 0 rfl (by decide) (by decide) rfl ?_
  refine V.goto (tgt := 2) dX3_freshen_17 (by decide) ?_
  refine V.iload_n dX3_freshen_2 0 rfl ?_
  refine V.iconst (v := 4) dX3_freshen_3 (by decide) ?_
  refine V.icmp_ge (tgt := 20) dX3_freshen_4 (by decide) (fun hc => absurd hc (by decide)) (fun _ => ?_)
  refine V.aload_n dX3_freshen_7 1 rfl ?_
  refine V.getf 0 0 rfl fa_X3_9_3 rfl dX3_freshen_8 ?_
  refine V.iload_n dX3_freshen_11 0 rfl ?_
  refine V.iconst (v := 0) dX3_freshen_12 (by decide) ?_
  refine V.iast (vw2 := [(a, ob 3 [.ref ta, .int s.2.1, .int s.2.2.1, .int s.2.2.2.1, .int s.2.2.2.2.1, .int s.2.2.2.2.2.1, .int s.2.2.2.2.2.2.1, .int s.2.2.2.2.2.2.2]), (ta, aI E 4 (upd (upd (upd (upd s.1 0 0) 1 0) 2 0) 3 0)), (lo, ob 1 [.ref lt, .ref lr, .ref lw, .int (nI m), .int wa, .int lp])]) 1 rfl (vin rfl) (rfl) dX3_freshen_13 ?_
  refine V.iinc (v := 4) (lv2 := [(2, .int 4), (0, .ref a), (1, .ref lo)]) dX3_freshen_14 0 rfl (by decide) (by decide) rfl ?_
  refine V.goto (tgt := 2) dX3_freshen_17 (by decide) ?_
  refine V.iload_n dX3_freshen_2 0 rfl ?_
  refine V.iconst (v := 4) dX3_freshen_3 (by decide) ?_
  refine V.icmp_ge (tgt := 20) dX3_freshen_4 (by decide) (fun _ => ?_) (fun hc => absurd (by decide) hc)
  refine V.aload_n dX3_freshen_20 1 rfl ?_
  refine V.iconst (v := 0) dX3_freshen_21 (by decide) ?_
  refine V.putf 0 1 (vw2 := [(a, ob 3 [.ref ta, .int 0, .int s.2.2.1, .int s.2.2.2.1, .int s.2.2.2.2.1, .int s.2.2.2.2.2.1, .int s.2.2.2.2.2.2.1, .int s.2.2.2.2.2.2.2]), (ta, aI E 4 (upd (upd (upd (upd s.1 0 0) 1 0) 2 0) 3 0)), (lo, ob 1 [.ref lt, .ref lr, .ref lw, .int (nI m), .int wa, .int lp])]) rfl fp_X3_21_3 rfl rfl (Nat.le_of_ble_eq_true rfl) rfl dX3_freshen_22 ?_
  refine V.aload_n dX3_freshen_25 1 rfl ?_
  refine V.iconst (v := 0) dX3_freshen_26 (by decide) ?_
  refine V.putf 0 2 (vw2 := [(a, ob 3 [.ref ta, .int 0, .int 0, .int s.2.2.2.1, .int s.2.2.2.2.1, .int s.2.2.2.2.2.1, .int s.2.2.2.2.2.2.1, .int s.2.2.2.2.2.2.2]), (ta, aI E 4 (upd (upd (upd (upd s.1 0 0) 1 0) 2 0) 3 0)), (lo, ob 1 [.ref lt, .ref lr, .ref lw, .int (nI m), .int wa, .int lp])]) rfl fp_X3_25_3 rfl rfl (Nat.le_of_ble_eq_true rfl) rfl dX3_freshen_27 ?_
  refine V.aload_n dX3_freshen_30 1 rfl ?_
  refine V.iconst (v := 0) dX3_freshen_31 (by decide) ?_
  refine V.putf 0 3 (vw2 := [(a, ob 3 [.ref ta, .int 0, .int 0, .int 0, .int s.2.2.2.2.1, .int s.2.2.2.2.2.1, .int s.2.2.2.2.2.2.1, .int s.2.2.2.2.2.2.2]), (ta, aI E 4 (upd (upd (upd (upd s.1 0 0) 1 0) 2 0) 3 0)), (lo, ob 1 [.ref lt, .ref lr, .ref lw, .int (nI m), .int wa, .int lp])]) rfl fp_X3_28_3 rfl rfl (Nat.le_of_ble_eq_true rfl) rfl dX3_freshen_32 ?_
  refine V.aload_n dX3_freshen_35 1 rfl ?_
  refine V.aload_n dX3_freshen_36 2 rfl ?_
  refine V.getf 2 5 rfl fa_X3_44_1 rfl dX3_freshen_37 ?_
  refine V.putf 0 4 (vw2 := [(a, ob 3 [.ref ta, .int 0, .int 0, .int 0, .int lp, .int s.2.2.2.2.2.1, .int s.2.2.2.2.2.2.1, .int s.2.2.2.2.2.2.2]), (ta, aI E 4 (upd (upd (upd (upd s.1 0 0) 1 0) 2 0) 3 0)), (lo, ob 1 [.ref lt, .ref lr, .ref lw, .int (nI m), .int wa, .int lp])]) rfl fp_X3_31_3 rfl rfl (Nat.le_of_ble_eq_true rfl) rfl dX3_freshen_40 ?_
  refine V.aload_n dX3_freshen_43 1 rfl ?_
  refine V.iconst (v := 0) dX3_freshen_44 (by decide) ?_
  refine V.putf 0 5 (vw2 := [(a, ob 3 [.ref ta, .int 0, .int 0, .int 0, .int lp, .int 0, .int s.2.2.2.2.2.2.1, .int s.2.2.2.2.2.2.2]), (ta, aI E 4 (upd (upd (upd (upd s.1 0 0) 1 0) 2 0) 3 0)), (lo, ob 1 [.ref lt, .ref lr, .ref lw, .int (nI m), .int wa, .int lp])]) rfl fp_X3_34_3 rfl rfl (Nat.le_of_ble_eq_true rfl) rfl dX3_freshen_45 ?_
  refine V.aload_n dX3_freshen_48 1 rfl ?_
  refine V.iconst (v := 0) dX3_freshen_49 (by decide) ?_
  refine V.putf 0 6 (vw2 := [(a, ob 3 [.ref ta, .int 0, .int 0, .int 0, .int lp, .int 0, .int 0, .int s.2.2.2.2.2.2.2]), (ta, aI E 4 (upd (upd (upd (upd s.1 0 0) 1 0) 2 0) 3 0)), (lo, ob 1 [.ref lt, .ref lr, .ref lw, .int (nI m), .int wa, .int lp])]) rfl fp_X3_37_3 rfl rfl (Nat.le_of_ble_eq_true rfl) rfl dX3_freshen_50 ?_
  refine V.arrEq (vw2 := [(a, ob 3 [.ref ta, .int 0, .int 0, .int 0, .int lp, .int 0, .int 0, .int s.2.2.2.2.2.2.2]), (ta, aI E 4 (freshN lp s).1), (lo, ob 1 [.ref lt, .ref lr, .ref lw, .int (nI m), .int wa, .int lp])]) 1 0 rfl (fun j hj => by rcases (show j = 0 ∨ j = 1 ∨ j = 2 ∨ j = 3 by omega) with rfl | rfl | rfl | rfl <;> rfl) rfl ?_
  exact V.vret rfl dX3_freshen_53 (⟨(), rfl, rfl, rfl, trivial⟩)

set_option maxHeartbeats 4000000 in
set_option maxRecDepth 100000 in
theorem c_Nose_placeOf (E : vEnv) (l : Launch) (L : List Nat) (h : Nat → va_E) (a : Nat) (ta : Nat) (s : NS) (lo : Nat) (lt : Nat) (lr : Nat) (lw : Nat) (m : Nat) (wa : Int32) (lp : Int32) (k : Nat) : CT E l yX3_placeOf cX3_placeOf 3 (some (.int)) 0 0 0 L h [(a, ob 3 [.ref ta, .int s.2.1, .int s.2.2.1, .int s.2.2.2.1, .int s.2.2.2.2.1, .int s.2.2.2.2.2.1, .int s.2.2.2.2.2.2.1, .int s.2.2.2.2.2.2.2]), (ta, aI E 4 s.1), (lo, ob 1 [.ref lt, .ref lr, .ref lw, .int (nI m), .int wa, .int lp])] [.ref a, .ref lo, .int (nI k)] (qP L h (fun (_ : Unit) => [(a, ob 3 [.ref ta, .int s.2.1, .int s.2.2.1, .int s.2.2.2.1, .int s.2.2.2.2.1, .int s.2.2.2.2.2.1, .int s.2.2.2.2.2.2.1, .int s.2.2.2.2.2.2.2]), (ta, aI E 4 s.1), (lo, ob 1 [.ref lt, .ref lr, .ref lw, .int (nI m), .int wa, .int lp])]) (fun _ => some (.int (placeI m k s.2.2.2.2.2.2.2))) (fun _ => True)) := by
  refine CT.ofV (by decide +kernel) (Nat.le_of_ble_eq_true rfl) ?_
  refine V.locals2 (lv2 := [(0, .ref a), (1, .ref lo), (2, .int (nI k))]) rfl ?_
  refine V.aload_n dX3_placeOf_0 0 rfl ?_
  refine V.getf 0 7 rfl fa_X3_40_3 rfl dX3_placeOf_1 ?_
  refine V.if_eq (tgt := 18) dX3_placeOf_4 (by decide) (fun c1_4 => ?_) (fun c1_4 => ?_)
  · skip
    refine V.iload_n dX3_placeOf_18 2 rfl ?_
    exact V.iret rfl dX3_placeOf_19 (⟨(), (by simp only [placeI]; (repeat' split) <;> first | rfl | contradiction | (exact absurd ‹(_ : Int32) ≤ _› (Int32.not_le.mpr ‹(_ : Int32) < _›)) | (exact absurd (Int32.not_le.mp ‹¬ (_ : Int32) ≤ _›) ‹¬ (_ : Int32) < _›)), rfl, rfl, trivial⟩)
  · skip
    refine V.aload_n dX3_placeOf_7 1 rfl ?_
    refine V.getf 2 3 rfl fa_X3_47_1 rfl dX3_placeOf_8 ?_
    refine V.iconst (v := 1) dX3_placeOf_11 (by decide) ?_
    refine V.isub dX3_placeOf_12 ?_
    refine V.iload_n dX3_placeOf_13 2 rfl ?_
    refine V.isub dX3_placeOf_14 ?_
    refine V.goto (tgt := 19) dX3_placeOf_15 (by decide) ?_
    exact V.iret rfl dX3_placeOf_19 (⟨(), (by simp only [placeI]; (repeat' split) <;> first | rfl | contradiction | (exact absurd ‹(_ : Int32) ≤ _› (Int32.not_le.mpr ‹(_ : Int32) < _›)) | (exact absurd (Int32.not_le.mp ‹¬ (_ : Int32) ≤ _›) ‹¬ (_ : Int32) < _›)), rfl, rfl, trivial⟩)

set_option maxHeartbeats 4000000 in
set_option maxRecDepth 100000 in
theorem c_Nose_step (E : vEnv) (l : Launch) (L : List Nat) (h : Nat → va_E) (a : Nat) (ta : Nat) (s : NS) (lo : Nat) (lt : Nat) (lr : Nat) (lw : Nat) (m : Nat) (wa : Int32) (lp : Int32) (r : Nat → Int32) (n : Int32) : CT E l yX3_step cX3_step 4 none 2 0 0 L h [(a, ob 3 [.ref ta, .int s.2.1, .int s.2.2.1, .int s.2.2.2.1, .int s.2.2.2.2.1, .int s.2.2.2.2.2.1, .int s.2.2.2.2.2.2.1, .int s.2.2.2.2.2.2.2]), (ta, aI E 4 s.1), (lo, ob 1 [.ref lt, .ref lr, .ref lw, .int (nI m), .int wa, .int lp]), (lr, aI E 4 r)] [.ref a, .ref lo, .int n] (qP L h (fun (_ : Unit) => [(a, ob 3 [.ref ta, .int (stepN r n s).2.1, .int (stepN r n s).2.2.1, .int (stepN r n s).2.2.2.1, .int (stepN r n s).2.2.2.2.1, .int (stepN r n s).2.2.2.2.2.1, .int (stepN r n s).2.2.2.2.2.2.1, .int (stepN r n s).2.2.2.2.2.2.2]), (ta, aI E 4 (stepN r n s).1), (lo, ob 1 [.ref lt, .ref lr, .ref lw, .int (nI m), .int wa, .int lp]), (lr, aI E 4 r)]) (fun _ => none) (fun _ => True)) := by
  refine CT.ofV (by decide +kernel) (Nat.le_of_ble_eq_true rfl) ?_
  refine V.locals2 (lv2 := [(0, .ref a), (1, .ref lo), (2, .int n)]) rfl ?_
  refine V.iconst (v := 0) dX3_step_0 (by decide) ?_
  refine V.istore_n (lv2 := [(3, .int 0), (0, .ref a), (1, .ref lo), (2, .int n)]) dX3_step_1 rfl (by decide) rfl ?_
  refine V.iload_n dX3_step_2 0 rfl ?_
  refine V.iconst (v := 4) dX3_step_3 (by decide) ?_
  refine V.icmp_ge (tgt := 37) dX3_step_4 (by decide) (fun hc => absurd hc (by decide)) (fun _ => ?_)
  refine V.aload_n dX3_step_7 1 rfl ?_
  refine V.getf 0 0 rfl fa_X3_9_3 rfl dX3_step_8 ?_
  refine V.iload_n dX3_step_11 0 rfl ?_
  refine V.aload_n dX3_step_12 1 rfl ?_
  refine V.getf 0 0 rfl fa_X3_9_3 rfl dX3_step_13 ?_
  refine V.iload_n dX3_step_16 0 rfl ?_
  refine V.iald 1 rfl (vin rfl) dX3_step_17 ?_
  refine V.topc (v := (s.1 0)) (rfl) ?_
  refine V.iload_n dX3_step_18 3 rfl ?_
  refine V.aload_n dX3_step_19 2 rfl ?_
  refine V.getf 2 1 rfl fa_X3_50_1 rfl dX3_step_20 ?_
  refine V.iload_n dX3_step_23 0 rfl ?_
  refine V.iald 3 rfl (vin rfl) dX3_step_24 ?_
  refine V.topc (v := (r 0)) (rfl) ?_
  refine V.imul dX3_step_25 ?_
  refine V.isub dX3_step_26 ?_
  refine V.callSNp (host := "RoseLane") (As := [.int ((s.1 0) - (n * (r 0)))]) (rest := [.int 0, .ref ta]) [] (c_held E l L _ (((s.1 0) - (n * (r 0))))) rfl (by decide) mi_X10_held (by decide) w_512 rfl rfl (Nat.le_of_ble_eq_true rfl) ⟨by decide, by decide⟩ ⟨by decide, by decide⟩ dX3_step_27 (vw2 := fun _ => [(a, ob 3 [.ref ta, .int s.2.1, .int s.2.2.1, .int s.2.2.2.1, .int s.2.2.2.2.1, .int s.2.2.2.2.2.1, .int s.2.2.2.2.2.2.1, .int s.2.2.2.2.2.2.2]), (ta, aI E 4 s.1), (lo, ob 1 [.ref lt, .ref lr, .ref lw, .int (nI m), .int wa, .int lp]), (lr, aI E 4 r)]) (st2 := fun _ => [.int (heldI ((s.1 0) - (n * (r 0)))), .int 0, .ref ta]) (fun _ => rfl) (fun _ => rfl) (fun _ => rfl) (fun _ _ => ?_)
  refine V.iast (vw2 := [(a, ob 3 [.ref ta, .int s.2.1, .int s.2.2.1, .int s.2.2.2.1, .int s.2.2.2.2.1, .int s.2.2.2.2.2.1, .int s.2.2.2.2.2.2.1, .int s.2.2.2.2.2.2.2]), (ta, aI E 4 (upd s.1 0 (heldI ((s.1 0) - (n * (r 0)))))), (lo, ob 1 [.ref lt, .ref lr, .ref lw, .int (nI m), .int wa, .int lp]), (lr, aI E 4 r)]) 1 rfl (vin rfl) (rfl) dX3_step_30 ?_
  refine V.iinc (v := 1) (lv2 := [(3, .int 1), (0, .ref a), (1, .ref lo), (2, .int n)]) dX3_step_31 0 rfl (by decide) (by decide) rfl ?_
  refine V.goto (tgt := 2) dX3_step_34 (by decide) ?_
  refine V.iload_n dX3_step_2 0 rfl ?_
  refine V.iconst (v := 4) dX3_step_3 (by decide) ?_
  refine V.icmp_ge (tgt := 37) dX3_step_4 (by decide) (fun hc => absurd hc (by decide)) (fun _ => ?_)
  refine V.aload_n dX3_step_7 1 rfl ?_
  refine V.getf 0 0 rfl fa_X3_9_3 rfl dX3_step_8 ?_
  refine V.iload_n dX3_step_11 0 rfl ?_
  refine V.aload_n dX3_step_12 1 rfl ?_
  refine V.getf 0 0 rfl fa_X3_9_3 rfl dX3_step_13 ?_
  refine V.iload_n dX3_step_16 0 rfl ?_
  refine V.iald 1 rfl (vin rfl) dX3_step_17 ?_
  refine V.topc (v := (s.1 1)) (rfl) ?_
  refine V.iload_n dX3_step_18 3 rfl ?_
  refine V.aload_n dX3_step_19 2 rfl ?_
  refine V.getf 2 1 rfl fa_X3_50_1 rfl dX3_step_20 ?_
  refine V.iload_n dX3_step_23 0 rfl ?_
  refine V.iald 3 rfl (vin rfl) dX3_step_24 ?_
  refine V.topc (v := (r 1)) (rfl) ?_
  refine V.imul dX3_step_25 ?_
  refine V.isub dX3_step_26 ?_
  refine V.callSNp (host := "RoseLane") (As := [.int ((s.1 1) - (n * (r 1)))]) (rest := [.int 1, .ref ta]) [] (c_held E l L _ (((s.1 1) - (n * (r 1))))) rfl (by decide) mi_X10_held (by decide) w_512 rfl rfl (Nat.le_of_ble_eq_true rfl) ⟨by decide, by decide⟩ ⟨by decide, by decide⟩ dX3_step_27 (vw2 := fun _ => [(a, ob 3 [.ref ta, .int s.2.1, .int s.2.2.1, .int s.2.2.2.1, .int s.2.2.2.2.1, .int s.2.2.2.2.2.1, .int s.2.2.2.2.2.2.1, .int s.2.2.2.2.2.2.2]), (ta, aI E 4 (upd s.1 0 (heldI ((s.1 0) - (n * (r 0)))))), (lo, ob 1 [.ref lt, .ref lr, .ref lw, .int (nI m), .int wa, .int lp]), (lr, aI E 4 r)]) (st2 := fun _ => [.int (heldI ((s.1 1) - (n * (r 1)))), .int 1, .ref ta]) (fun _ => rfl) (fun _ => rfl) (fun _ => rfl) (fun _ _ => ?_)
  refine V.iast (vw2 := [(a, ob 3 [.ref ta, .int s.2.1, .int s.2.2.1, .int s.2.2.2.1, .int s.2.2.2.2.1, .int s.2.2.2.2.2.1, .int s.2.2.2.2.2.2.1, .int s.2.2.2.2.2.2.2]), (ta, aI E 4 (upd (upd s.1 0 (heldI ((s.1 0) - (n * (r 0))))) 1 (heldI ((s.1 1) - (n * (r 1)))))), (lo, ob 1 [.ref lt, .ref lr, .ref lw, .int (nI m), .int wa, .int lp]), (lr, aI E 4 r)]) 1 rfl (vin rfl) (rfl) dX3_step_30 ?_
  refine V.iinc (v := 2) (lv2 := [(3, .int 2), (0, .ref a), (1, .ref lo), (2, .int n)]) dX3_step_31 0 rfl (by decide) (by decide) rfl ?_
  refine V.goto (tgt := 2) dX3_step_34 (by decide) ?_
  refine V.iload_n dX3_step_2 0 rfl ?_
  refine V.iconst (v := 4) dX3_step_3 (by decide) ?_
  refine V.icmp_ge (tgt := 37) dX3_step_4 (by decide) (fun hc => absurd hc (by decide)) (fun _ => ?_)
  refine V.aload_n dX3_step_7 1 rfl ?_
  refine V.getf 0 0 rfl fa_X3_9_3 rfl dX3_step_8 ?_
  refine V.iload_n dX3_step_11 0 rfl ?_
  refine V.aload_n dX3_step_12 1 rfl ?_
  refine V.getf 0 0 rfl fa_X3_9_3 rfl dX3_step_13 ?_
  refine V.iload_n dX3_step_16 0 rfl ?_
  refine V.iald 1 rfl (vin rfl) dX3_step_17 ?_
  refine V.topc (v := (s.1 2)) (rfl) ?_
  refine V.iload_n dX3_step_18 3 rfl ?_
  refine V.aload_n dX3_step_19 2 rfl ?_
  refine V.getf 2 1 rfl fa_X3_50_1 rfl dX3_step_20 ?_
  refine V.iload_n dX3_step_23 0 rfl ?_
  refine V.iald 3 rfl (vin rfl) dX3_step_24 ?_
  refine V.topc (v := (r 2)) (rfl) ?_
  refine V.imul dX3_step_25 ?_
  refine V.isub dX3_step_26 ?_
  refine V.callSNp (host := "RoseLane") (As := [.int ((s.1 2) - (n * (r 2)))]) (rest := [.int 2, .ref ta]) [] (c_held E l L _ (((s.1 2) - (n * (r 2))))) rfl (by decide) mi_X10_held (by decide) w_512 rfl rfl (Nat.le_of_ble_eq_true rfl) ⟨by decide, by decide⟩ ⟨by decide, by decide⟩ dX3_step_27 (vw2 := fun _ => [(a, ob 3 [.ref ta, .int s.2.1, .int s.2.2.1, .int s.2.2.2.1, .int s.2.2.2.2.1, .int s.2.2.2.2.2.1, .int s.2.2.2.2.2.2.1, .int s.2.2.2.2.2.2.2]), (ta, aI E 4 (upd (upd s.1 0 (heldI ((s.1 0) - (n * (r 0))))) 1 (heldI ((s.1 1) - (n * (r 1)))))), (lo, ob 1 [.ref lt, .ref lr, .ref lw, .int (nI m), .int wa, .int lp]), (lr, aI E 4 r)]) (st2 := fun _ => [.int (heldI ((s.1 2) - (n * (r 2)))), .int 2, .ref ta]) (fun _ => rfl) (fun _ => rfl) (fun _ => rfl) (fun _ _ => ?_)
  refine V.iast (vw2 := [(a, ob 3 [.ref ta, .int s.2.1, .int s.2.2.1, .int s.2.2.2.1, .int s.2.2.2.2.1, .int s.2.2.2.2.2.1, .int s.2.2.2.2.2.2.1, .int s.2.2.2.2.2.2.2]), (ta, aI E 4 (upd (upd (upd s.1 0 (heldI ((s.1 0) - (n * (r 0))))) 1 (heldI ((s.1 1) - (n * (r 1))))) 2 (heldI ((s.1 2) - (n * (r 2)))))), (lo, ob 1 [.ref lt, .ref lr, .ref lw, .int (nI m), .int wa, .int lp]), (lr, aI E 4 r)]) 1 rfl (vin rfl) (rfl) dX3_step_30 ?_
  refine V.iinc (v := 3) (lv2 := [(3, .int 3), (0, .ref a), (1, .ref lo), (2, .int n)]) dX3_step_31 0 rfl (by decide) (by decide) rfl ?_
  refine V.goto (tgt := 2) dX3_step_34 (by decide) ?_
  refine V.iload_n dX3_step_2 0 rfl ?_
  refine V.iconst (v := 4) dX3_step_3 (by decide) ?_
  refine V.icmp_ge (tgt := 37) dX3_step_4 (by decide) (fun hc => absurd hc (by decide)) (fun _ => ?_)
  refine V.aload_n dX3_step_7 1 rfl ?_
  refine V.getf 0 0 rfl fa_X3_9_3 rfl dX3_step_8 ?_
  refine V.iload_n dX3_step_11 0 rfl ?_
  refine V.aload_n dX3_step_12 1 rfl ?_
  refine V.getf 0 0 rfl fa_X3_9_3 rfl dX3_step_13 ?_
  refine V.iload_n dX3_step_16 0 rfl ?_
  refine V.iald 1 rfl (vin rfl) dX3_step_17 ?_
  refine V.topc (v := (s.1 3)) (rfl) ?_
  refine V.iload_n dX3_step_18 3 rfl ?_
  refine V.aload_n dX3_step_19 2 rfl ?_
  refine V.getf 2 1 rfl fa_X3_50_1 rfl dX3_step_20 ?_
  refine V.iload_n dX3_step_23 0 rfl ?_
  refine V.iald 3 rfl (vin rfl) dX3_step_24 ?_
  refine V.topc (v := (r 3)) (rfl) ?_
  refine V.imul dX3_step_25 ?_
  refine V.isub dX3_step_26 ?_
  refine V.callSNp (host := "RoseLane") (As := [.int ((s.1 3) - (n * (r 3)))]) (rest := [.int 3, .ref ta]) [] (c_held E l L _ (((s.1 3) - (n * (r 3))))) rfl (by decide) mi_X10_held (by decide) w_512 rfl rfl (Nat.le_of_ble_eq_true rfl) ⟨by decide, by decide⟩ ⟨by decide, by decide⟩ dX3_step_27 (vw2 := fun _ => [(a, ob 3 [.ref ta, .int s.2.1, .int s.2.2.1, .int s.2.2.2.1, .int s.2.2.2.2.1, .int s.2.2.2.2.2.1, .int s.2.2.2.2.2.2.1, .int s.2.2.2.2.2.2.2]), (ta, aI E 4 (upd (upd (upd s.1 0 (heldI ((s.1 0) - (n * (r 0))))) 1 (heldI ((s.1 1) - (n * (r 1))))) 2 (heldI ((s.1 2) - (n * (r 2)))))), (lo, ob 1 [.ref lt, .ref lr, .ref lw, .int (nI m), .int wa, .int lp]), (lr, aI E 4 r)]) (st2 := fun _ => [.int (heldI ((s.1 3) - (n * (r 3)))), .int 3, .ref ta]) (fun _ => rfl) (fun _ => rfl) (fun _ => rfl) (fun _ _ => ?_)
  refine V.iast (vw2 := [(a, ob 3 [.ref ta, .int s.2.1, .int s.2.2.1, .int s.2.2.2.1, .int s.2.2.2.2.1, .int s.2.2.2.2.2.1, .int s.2.2.2.2.2.2.1, .int s.2.2.2.2.2.2.2]), (ta, aI E 4 (upd (upd (upd (upd s.1 0 (heldI ((s.1 0) - (n * (r 0))))) 1 (heldI ((s.1 1) - (n * (r 1))))) 2 (heldI ((s.1 2) - (n * (r 2))))) 3 (heldI ((s.1 3) - (n * (r 3)))))), (lo, ob 1 [.ref lt, .ref lr, .ref lw, .int (nI m), .int wa, .int lp]), (lr, aI E 4 r)]) 1 rfl (vin rfl) (rfl) dX3_step_30 ?_
  refine V.iinc (v := 4) (lv2 := [(3, .int 4), (0, .ref a), (1, .ref lo), (2, .int n)]) dX3_step_31 0 rfl (by decide) (by decide) rfl ?_
  refine V.goto (tgt := 2) dX3_step_34 (by decide) ?_
  refine V.iload_n dX3_step_2 0 rfl ?_
  refine V.iconst (v := 4) dX3_step_3 (by decide) ?_
  refine V.icmp_ge (tgt := 37) dX3_step_4 (by decide) (fun _ => ?_) (fun hc => absurd (by decide) hc)
  refine V.arrEq (vw2 := [(a, ob 3 [.ref ta, .int s.2.1, .int s.2.2.1, .int s.2.2.2.1, .int s.2.2.2.2.1, .int s.2.2.2.2.2.1, .int s.2.2.2.2.2.2.1, .int s.2.2.2.2.2.2.2]), (ta, aI E 4 (stepN r n s).1), (lo, ob 1 [.ref lt, .ref lr, .ref lw, .int (nI m), .int wa, .int lp]), (lr, aI E 4 r)]) 1 0 rfl (fun j hj => by rcases (show j = 0 ∨ j = 1 ∨ j = 2 ∨ j = 3 by omega) with rfl | rfl | rfl | rfl <;> rfl) rfl ?_
  refine V.aload_n dX3_step_37 1 rfl ?_
  refine V.iconst (v := 0) dX3_step_38 (by decide) ?_
  refine V.aload_n dX3_step_39 1 rfl ?_
  refine V.getf 0 3 rfl fa_X3_28_3 rfl dX3_step_40 ?_
  refine V.iload_n dX3_step_43 3 rfl ?_
  refine V.isub dX3_step_44 ?_
  refine V.mmax w_547 (Nat.le_of_ble_eq_true rfl) ⟨by decide, by decide⟩ ⟨by decide, by decide⟩ dX3_step_45 ?_
  refine V.putf 0 3 (vw2 := [(a, ob 3 [.ref ta, .int s.2.1, .int s.2.2.1, .int (if 0 < (s.2.2.2.1 - n) then (s.2.2.2.1 - n) else 0), .int s.2.2.2.2.1, .int s.2.2.2.2.2.1, .int s.2.2.2.2.2.2.1, .int s.2.2.2.2.2.2.2]), (ta, aI E 4 (stepN r n s).1), (lo, ob 1 [.ref lt, .ref lr, .ref lw, .int (nI m), .int wa, .int lp]), (lr, aI E 4 r)]) rfl fp_X3_28_3 rfl rfl (Nat.le_of_ble_eq_true rfl) rfl dX3_step_48 ?_
  refine V.aload_n dX3_step_51 1 rfl ?_
  refine V.dup dX3_step_52 rfl ?_
  refine V.getf 0 2 rfl fa_X3_25_3 rfl dX3_step_53 ?_
  refine V.iload_n dX3_step_56 3 rfl ?_
  refine V.iadd dX3_step_57 ?_
  refine V.putf 0 2 (vw2 := [(a, ob 3 [.ref ta, .int s.2.1, .int (s.2.2.1 + n), .int (if 0 < (s.2.2.2.1 - n) then (s.2.2.2.1 - n) else 0), .int s.2.2.2.2.1, .int s.2.2.2.2.2.1, .int s.2.2.2.2.2.2.1, .int s.2.2.2.2.2.2.2]), (ta, aI E 4 (stepN r n s).1), (lo, ob 1 [.ref lt, .ref lr, .ref lw, .int (nI m), .int wa, .int lp]), (lr, aI E 4 r)]) rfl fp_X3_25_3 rfl rfl (Nat.le_of_ble_eq_true rfl) rfl dX3_step_58 ?_
  exact V.vret rfl dX3_step_61 (⟨(), rfl, rfl, rfl, trivial⟩)

set_option maxHeartbeats 4000000 in
set_option maxRecDepth 100000 in
theorem c_Nose_smell (E : vEnv) (l : Launch) (L : List Nat) (h : Nat → va_E) (a : Nat) (ta : Nat) (s : NS) (lo : Nat) (lt : Nat) (lr : Nat) (lw : Nat) (m : Nat) (wa : Int32) (lp : Int32) (ti : Nat → Int32) (q : Nat) (κ : Nat) (so : Nat) (sg : Int32) (pr : Int32) (hk : κ < 4) (hs : so < 4) : CT E l yX3_smell cX3_smell 6 (some (.int)) 3 0 0 L h [(a, ob 3 [.ref ta, .int s.2.1, .int s.2.2.1, .int s.2.2.2.1, .int s.2.2.2.2.1, .int s.2.2.2.2.2.1, .int s.2.2.2.2.2.2.1, .int s.2.2.2.2.2.2.2]), (ta, aI E 4 s.1), (lo, ob 1 [.ref lt, .ref lr, .ref lw, .int (nI m), .int wa, .int lp]), (lt, aI E 4 ti), (q, ob (kci κ) [.int (nI so), .int sg, .int pr])] [.ref a, .ref lo, .ref q] (qP L h (fun (_ : Unit) => [(a, ob 3 [.ref ta, .int (smellN κ so sg ti s).2.1, .int (smellN κ so sg ti s).2.2.1, .int (smellN κ so sg ti s).2.2.2.1, .int (smellN κ so sg ti s).2.2.2.2.1, .int (smellN κ so sg ti s).2.2.2.2.2.1, .int (smellN κ so sg ti s).2.2.2.2.2.2.1, .int (smellN κ so sg ti s).2.2.2.2.2.2.2]), (ta, aI E 4 (smellN κ so sg ti s).1), (lo, ob 1 [.ref lt, .ref lr, .ref lw, .int (nI m), .int wa, .int lp]), (lt, aI E 4 ti), (q, ob (kci κ) [.int (nI so), .int sg, .int pr])]) (fun _ => some (.int (muchN κ so sg s))) (fun _ => True)) := by
  refine CT.ofV (by decide +kernel) (Nat.le_of_ble_eq_true rfl) ?_
  refine V.locals2 (lv2 := [(0, .ref a), (1, .ref lo), (2, .ref q)]) rfl ?_
  refine V.aload_n dX3_smell_0 2 rfl ?_
  refine V.ifnonnull (tgt := 6) dX3_smell_1 (by decide) ?_
  refine V.aload_n dX3_smell_6 2 rfl ?_
  refine V.aload_n dX3_smell_7 0 rfl ?_
  refine V.getf 0 0 rfl fa_X3_9_3 rfl dX3_smell_8 ?_
  refine V.aload_n dX3_smell_11 2 rfl ?_
  refine V.getf 4 0 rfl (fas_X3_63 (by assumption)) rfl dX3_smell_12 ?_
  refine V.iald 1 rfl (mod4_in hs) dX3_smell_15 ?_
  refine V.topc (v := (s.1 so)) (by rw [nI_clamp (by omega)] <;> rfl) ?_
  refine V.aload_n dX3_smell_16 0 rfl ?_
  refine V.getf 0 3 rfl fa_X3_28_3 rfl dX3_smell_17 ?_
  refine V.if_le (tgt := 27) dX3_smell_20 (by decide) (fun c1_20 => ?_) (fun c1_20 => ?_)
  · skip
    have hcold : coldB s.2.2.2.1 = 0 := if_neg (Int32.not_lt.mpr c1_20)
    refine V.iconst (v := 0) dX3_smell_27 (by decide) ?_
    refine V.smeltBy (rest := []) (by assumption) 4 rfl w_552 rfl (Nat.le_of_ble_eq_true rfl) ⟨by decide, by decide⟩ ⟨by decide, by decide⟩ dX3_smell_28 ?_
    refine V.topc (v := (muchN κ so sg s)) (by unfold muchN; rw [hcold]) ?_
    refine V.istore_n (lv2 := [(3, .int (muchN κ so sg s)), (0, .ref a), (1, .ref lo), (2, .ref q)]) dX3_smell_31 rfl (by decide) rfl ?_
    refine V.aload_n dX3_smell_32 2 rfl ?_
    refine V.getf 2 0 rfl fa_X3_72_1 rfl dX3_smell_33 ?_
    refine V.aload_n dX3_smell_36 3 rfl ?_
    refine V.getf 4 0 rfl (fas_X3_63 (by assumption)) rfl dX3_smell_37 ?_
    refine V.iald 3 rfl (mod4_in hs) dX3_smell_40 ?_
    refine V.topc (v := (ti so)) (by rw [nI_clamp (by omega)] <;> rfl) ?_
    refine V.istore (lv2 := [(4, .int (ti so)), (3, .int (muchN κ so sg s)), (0, .ref a), (1, .ref lo), (2, .ref q)]) dX3_smell_41 (by decide) rfl ?_
    refine V.iconst (v := 0) dX3_smell_43 (by decide) ?_
    refine V.istore (lv2 := [(5, .int 0), (4, .int (ti so)), (3, .int (muchN κ so sg s)), (0, .ref a), (1, .ref lo), (2, .ref q)]) dX3_smell_44 (by decide) rfl ?_
    refine V.iload dX3_smell_46 0 rfl ?_
    refine V.iconst (v := 4) dX3_smell_48 (by decide) ?_
    refine V.icmp_ge (tgt := 84) dX3_smell_49 (by decide) (fun hc => absurd hc (by decide)) (fun _ => ?_)
    refine V.aload_n dX3_smell_52 3 rfl ?_
    refine V.getf 0 0 rfl fa_X3_9_3 rfl dX3_smell_53 ?_
    refine V.iload dX3_smell_56 0 rfl ?_
    refine V.aload_n dX3_smell_58 3 rfl ?_
    refine V.getf 0 0 rfl fa_X3_9_3 rfl dX3_smell_59 ?_
    refine V.iload dX3_smell_62 0 rfl ?_
    refine V.iald 1 rfl (vin rfl) dX3_smell_64 ?_
    refine V.topc (v := (s.1 0)) (rfl) ?_
    refine V.aload_n dX3_smell_65 5 rfl ?_
    refine V.iload dX3_smell_66 0 rfl ?_
    refine V.iload dX3_smell_68 1 rfl ?_
    refine V.tiring (rest := [.int (s.1 0), .int 0, .ref ta]) (by assumption) 4 rfl w_553 rfl (Nat.le_of_ble_eq_true rfl) ⟨by decide, by decide⟩ ⟨by decide, by decide⟩ dX3_smell_70 ?_
    refine V.iadd dX3_smell_73 ?_
    refine V.callSNp (host := "RoseLane") (As := [.int ((s.1 0) + (tiringI κ (nI so) 0 (ti so)))]) (rest := [.int 0, .ref ta]) [] (c_held E l L _ (((s.1 0) + (tiringI κ (nI so) 0 (ti so))))) rfl (by decide) mi_X10_held (by decide) w_512 rfl rfl (Nat.le_of_ble_eq_true rfl) ⟨by decide, by decide⟩ ⟨by decide, by decide⟩ dX3_smell_74 (vw2 := fun _ => [(a, ob 3 [.ref ta, .int s.2.1, .int s.2.2.1, .int s.2.2.2.1, .int s.2.2.2.2.1, .int s.2.2.2.2.2.1, .int s.2.2.2.2.2.2.1, .int s.2.2.2.2.2.2.2]), (ta, aI E 4 s.1), (lo, ob 1 [.ref lt, .ref lr, .ref lw, .int (nI m), .int wa, .int lp]), (lt, aI E 4 ti), (q, ob (kci κ) [.int (nI so), .int sg, .int pr])]) (st2 := fun _ => [.int (heldI ((s.1 0) + (tiringI κ (nI so) 0 (ti so)))), .int 0, .ref ta]) (fun _ => rfl) (fun _ => rfl) (fun _ => rfl) (fun _ _ => ?_)
    refine V.iast (vw2 := [(a, ob 3 [.ref ta, .int s.2.1, .int s.2.2.1, .int s.2.2.2.1, .int s.2.2.2.2.1, .int s.2.2.2.2.2.1, .int s.2.2.2.2.2.2.1, .int s.2.2.2.2.2.2.2]), (ta, aI E 4 (upd s.1 0 (heldI ((s.1 0) + (tiringI κ (nI so) 0 (ti so)))))), (lo, ob 1 [.ref lt, .ref lr, .ref lw, .int (nI m), .int wa, .int lp]), (lt, aI E 4 ti), (q, ob (kci κ) [.int (nI so), .int sg, .int pr])]) 1 rfl (vin rfl) (rfl) dX3_smell_77 ?_
    refine V.iinc (v := 1) (lv2 := [(5, .int 1), (4, .int (ti so)), (3, .int (muchN κ so sg s)), (0, .ref a), (1, .ref lo), (2, .ref q)]) dX3_smell_78 0 rfl (by decide) (by decide) rfl ?_
    refine V.goto (tgt := 46) dX3_smell_81 (by decide) ?_
    refine V.iload dX3_smell_46 0 rfl ?_
    refine V.iconst (v := 4) dX3_smell_48 (by decide) ?_
    refine V.icmp_ge (tgt := 84) dX3_smell_49 (by decide) (fun hc => absurd hc (by decide)) (fun _ => ?_)
    refine V.aload_n dX3_smell_52 3 rfl ?_
    refine V.getf 0 0 rfl fa_X3_9_3 rfl dX3_smell_53 ?_
    refine V.iload dX3_smell_56 0 rfl ?_
    refine V.aload_n dX3_smell_58 3 rfl ?_
    refine V.getf 0 0 rfl fa_X3_9_3 rfl dX3_smell_59 ?_
    refine V.iload dX3_smell_62 0 rfl ?_
    refine V.iald 1 rfl (vin rfl) dX3_smell_64 ?_
    refine V.topc (v := (s.1 1)) (rfl) ?_
    refine V.aload_n dX3_smell_65 5 rfl ?_
    refine V.iload dX3_smell_66 0 rfl ?_
    refine V.iload dX3_smell_68 1 rfl ?_
    refine V.tiring (rest := [.int (s.1 1), .int 1, .ref ta]) (by assumption) 4 rfl w_553 rfl (Nat.le_of_ble_eq_true rfl) ⟨by decide, by decide⟩ ⟨by decide, by decide⟩ dX3_smell_70 ?_
    refine V.iadd dX3_smell_73 ?_
    refine V.callSNp (host := "RoseLane") (As := [.int ((s.1 1) + (tiringI κ (nI so) 1 (ti so)))]) (rest := [.int 1, .ref ta]) [] (c_held E l L _ (((s.1 1) + (tiringI κ (nI so) 1 (ti so))))) rfl (by decide) mi_X10_held (by decide) w_512 rfl rfl (Nat.le_of_ble_eq_true rfl) ⟨by decide, by decide⟩ ⟨by decide, by decide⟩ dX3_smell_74 (vw2 := fun _ => [(a, ob 3 [.ref ta, .int s.2.1, .int s.2.2.1, .int s.2.2.2.1, .int s.2.2.2.2.1, .int s.2.2.2.2.2.1, .int s.2.2.2.2.2.2.1, .int s.2.2.2.2.2.2.2]), (ta, aI E 4 (upd s.1 0 (heldI ((s.1 0) + (tiringI κ (nI so) 0 (ti so)))))), (lo, ob 1 [.ref lt, .ref lr, .ref lw, .int (nI m), .int wa, .int lp]), (lt, aI E 4 ti), (q, ob (kci κ) [.int (nI so), .int sg, .int pr])]) (st2 := fun _ => [.int (heldI ((s.1 1) + (tiringI κ (nI so) 1 (ti so)))), .int 1, .ref ta]) (fun _ => rfl) (fun _ => rfl) (fun _ => rfl) (fun _ _ => ?_)
    refine V.iast (vw2 := [(a, ob 3 [.ref ta, .int s.2.1, .int s.2.2.1, .int s.2.2.2.1, .int s.2.2.2.2.1, .int s.2.2.2.2.2.1, .int s.2.2.2.2.2.2.1, .int s.2.2.2.2.2.2.2]), (ta, aI E 4 (upd (upd s.1 0 (heldI ((s.1 0) + (tiringI κ (nI so) 0 (ti so))))) 1 (heldI ((s.1 1) + (tiringI κ (nI so) 1 (ti so)))))), (lo, ob 1 [.ref lt, .ref lr, .ref lw, .int (nI m), .int wa, .int lp]), (lt, aI E 4 ti), (q, ob (kci κ) [.int (nI so), .int sg, .int pr])]) 1 rfl (vin rfl) (rfl) dX3_smell_77 ?_
    refine V.iinc (v := 2) (lv2 := [(5, .int 2), (4, .int (ti so)), (3, .int (muchN κ so sg s)), (0, .ref a), (1, .ref lo), (2, .ref q)]) dX3_smell_78 0 rfl (by decide) (by decide) rfl ?_
    refine V.goto (tgt := 46) dX3_smell_81 (by decide) ?_
    refine V.iload dX3_smell_46 0 rfl ?_
    refine V.iconst (v := 4) dX3_smell_48 (by decide) ?_
    refine V.icmp_ge (tgt := 84) dX3_smell_49 (by decide) (fun hc => absurd hc (by decide)) (fun _ => ?_)
    refine V.aload_n dX3_smell_52 3 rfl ?_
    refine V.getf 0 0 rfl fa_X3_9_3 rfl dX3_smell_53 ?_
    refine V.iload dX3_smell_56 0 rfl ?_
    refine V.aload_n dX3_smell_58 3 rfl ?_
    refine V.getf 0 0 rfl fa_X3_9_3 rfl dX3_smell_59 ?_
    refine V.iload dX3_smell_62 0 rfl ?_
    refine V.iald 1 rfl (vin rfl) dX3_smell_64 ?_
    refine V.topc (v := (s.1 2)) (rfl) ?_
    refine V.aload_n dX3_smell_65 5 rfl ?_
    refine V.iload dX3_smell_66 0 rfl ?_
    refine V.iload dX3_smell_68 1 rfl ?_
    refine V.tiring (rest := [.int (s.1 2), .int 2, .ref ta]) (by assumption) 4 rfl w_553 rfl (Nat.le_of_ble_eq_true rfl) ⟨by decide, by decide⟩ ⟨by decide, by decide⟩ dX3_smell_70 ?_
    refine V.iadd dX3_smell_73 ?_
    refine V.callSNp (host := "RoseLane") (As := [.int ((s.1 2) + (tiringI κ (nI so) 2 (ti so)))]) (rest := [.int 2, .ref ta]) [] (c_held E l L _ (((s.1 2) + (tiringI κ (nI so) 2 (ti so))))) rfl (by decide) mi_X10_held (by decide) w_512 rfl rfl (Nat.le_of_ble_eq_true rfl) ⟨by decide, by decide⟩ ⟨by decide, by decide⟩ dX3_smell_74 (vw2 := fun _ => [(a, ob 3 [.ref ta, .int s.2.1, .int s.2.2.1, .int s.2.2.2.1, .int s.2.2.2.2.1, .int s.2.2.2.2.2.1, .int s.2.2.2.2.2.2.1, .int s.2.2.2.2.2.2.2]), (ta, aI E 4 (upd (upd s.1 0 (heldI ((s.1 0) + (tiringI κ (nI so) 0 (ti so))))) 1 (heldI ((s.1 1) + (tiringI κ (nI so) 1 (ti so)))))), (lo, ob 1 [.ref lt, .ref lr, .ref lw, .int (nI m), .int wa, .int lp]), (lt, aI E 4 ti), (q, ob (kci κ) [.int (nI so), .int sg, .int pr])]) (st2 := fun _ => [.int (heldI ((s.1 2) + (tiringI κ (nI so) 2 (ti so)))), .int 2, .ref ta]) (fun _ => rfl) (fun _ => rfl) (fun _ => rfl) (fun _ _ => ?_)
    refine V.iast (vw2 := [(a, ob 3 [.ref ta, .int s.2.1, .int s.2.2.1, .int s.2.2.2.1, .int s.2.2.2.2.1, .int s.2.2.2.2.2.1, .int s.2.2.2.2.2.2.1, .int s.2.2.2.2.2.2.2]), (ta, aI E 4 (upd (upd (upd s.1 0 (heldI ((s.1 0) + (tiringI κ (nI so) 0 (ti so))))) 1 (heldI ((s.1 1) + (tiringI κ (nI so) 1 (ti so))))) 2 (heldI ((s.1 2) + (tiringI κ (nI so) 2 (ti so)))))), (lo, ob 1 [.ref lt, .ref lr, .ref lw, .int (nI m), .int wa, .int lp]), (lt, aI E 4 ti), (q, ob (kci κ) [.int (nI so), .int sg, .int pr])]) 1 rfl (vin rfl) (rfl) dX3_smell_77 ?_
    refine V.iinc (v := 3) (lv2 := [(5, .int 3), (4, .int (ti so)), (3, .int (muchN κ so sg s)), (0, .ref a), (1, .ref lo), (2, .ref q)]) dX3_smell_78 0 rfl (by decide) (by decide) rfl ?_
    refine V.goto (tgt := 46) dX3_smell_81 (by decide) ?_
    refine V.iload dX3_smell_46 0 rfl ?_
    refine V.iconst (v := 4) dX3_smell_48 (by decide) ?_
    refine V.icmp_ge (tgt := 84) dX3_smell_49 (by decide) (fun hc => absurd hc (by decide)) (fun _ => ?_)
    refine V.aload_n dX3_smell_52 3 rfl ?_
    refine V.getf 0 0 rfl fa_X3_9_3 rfl dX3_smell_53 ?_
    refine V.iload dX3_smell_56 0 rfl ?_
    refine V.aload_n dX3_smell_58 3 rfl ?_
    refine V.getf 0 0 rfl fa_X3_9_3 rfl dX3_smell_59 ?_
    refine V.iload dX3_smell_62 0 rfl ?_
    refine V.iald 1 rfl (vin rfl) dX3_smell_64 ?_
    refine V.topc (v := (s.1 3)) (rfl) ?_
    refine V.aload_n dX3_smell_65 5 rfl ?_
    refine V.iload dX3_smell_66 0 rfl ?_
    refine V.iload dX3_smell_68 1 rfl ?_
    refine V.tiring (rest := [.int (s.1 3), .int 3, .ref ta]) (by assumption) 4 rfl w_553 rfl (Nat.le_of_ble_eq_true rfl) ⟨by decide, by decide⟩ ⟨by decide, by decide⟩ dX3_smell_70 ?_
    refine V.iadd dX3_smell_73 ?_
    refine V.callSNp (host := "RoseLane") (As := [.int ((s.1 3) + (tiringI κ (nI so) 3 (ti so)))]) (rest := [.int 3, .ref ta]) [] (c_held E l L _ (((s.1 3) + (tiringI κ (nI so) 3 (ti so))))) rfl (by decide) mi_X10_held (by decide) w_512 rfl rfl (Nat.le_of_ble_eq_true rfl) ⟨by decide, by decide⟩ ⟨by decide, by decide⟩ dX3_smell_74 (vw2 := fun _ => [(a, ob 3 [.ref ta, .int s.2.1, .int s.2.2.1, .int s.2.2.2.1, .int s.2.2.2.2.1, .int s.2.2.2.2.2.1, .int s.2.2.2.2.2.2.1, .int s.2.2.2.2.2.2.2]), (ta, aI E 4 (upd (upd (upd s.1 0 (heldI ((s.1 0) + (tiringI κ (nI so) 0 (ti so))))) 1 (heldI ((s.1 1) + (tiringI κ (nI so) 1 (ti so))))) 2 (heldI ((s.1 2) + (tiringI κ (nI so) 2 (ti so)))))), (lo, ob 1 [.ref lt, .ref lr, .ref lw, .int (nI m), .int wa, .int lp]), (lt, aI E 4 ti), (q, ob (kci κ) [.int (nI so), .int sg, .int pr])]) (st2 := fun _ => [.int (heldI ((s.1 3) + (tiringI κ (nI so) 3 (ti so)))), .int 3, .ref ta]) (fun _ => rfl) (fun _ => rfl) (fun _ => rfl) (fun _ _ => ?_)
    refine V.iast (vw2 := [(a, ob 3 [.ref ta, .int s.2.1, .int s.2.2.1, .int s.2.2.2.1, .int s.2.2.2.2.1, .int s.2.2.2.2.2.1, .int s.2.2.2.2.2.2.1, .int s.2.2.2.2.2.2.2]), (ta, aI E 4 (upd (upd (upd (upd s.1 0 (heldI ((s.1 0) + (tiringI κ (nI so) 0 (ti so))))) 1 (heldI ((s.1 1) + (tiringI κ (nI so) 1 (ti so))))) 2 (heldI ((s.1 2) + (tiringI κ (nI so) 2 (ti so))))) 3 (heldI ((s.1 3) + (tiringI κ (nI so) 3 (ti so)))))), (lo, ob 1 [.ref lt, .ref lr, .ref lw, .int (nI m), .int wa, .int lp]), (lt, aI E 4 ti), (q, ob (kci κ) [.int (nI so), .int sg, .int pr])]) 1 rfl (vin rfl) (rfl) dX3_smell_77 ?_
    refine V.iinc (v := 4) (lv2 := [(5, .int 4), (4, .int (ti so)), (3, .int (muchN κ so sg s)), (0, .ref a), (1, .ref lo), (2, .ref q)]) dX3_smell_78 0 rfl (by decide) (by decide) rfl ?_
    refine V.goto (tgt := 46) dX3_smell_81 (by decide) ?_
    refine V.iload dX3_smell_46 0 rfl ?_
    refine V.iconst (v := 4) dX3_smell_48 (by decide) ?_
    refine V.icmp_ge (tgt := 84) dX3_smell_49 (by decide) (fun _ => ?_) (fun hc => absurd (by decide) hc)
    refine V.arrEq (vw2 := [(a, ob 3 [.ref ta, .int s.2.1, .int s.2.2.1, .int s.2.2.2.1, .int s.2.2.2.2.1, .int s.2.2.2.2.2.1, .int s.2.2.2.2.2.2.1, .int s.2.2.2.2.2.2.2]), (ta, aI E 4 (smellN κ so sg ti s).1), (lo, ob 1 [.ref lt, .ref lr, .ref lw, .int (nI m), .int wa, .int lp]), (lt, aI E 4 ti), (q, ob (kci κ) [.int (nI so), .int sg, .int pr])]) 1 0 rfl (fun j hj => by rcases (show j = 0 ∨ j = 1 ∨ j = 2 ∨ j = 3 by omega) with rfl | rfl | rfl | rfl <;> rfl) rfl ?_
    refine V.aload_n dX3_smell_84 3 rfl ?_
    refine V.dup dX3_smell_85 rfl ?_
    refine V.getf 0 6 rfl fa_X3_37_3 rfl dX3_smell_86 ?_
    refine V.iload_n dX3_smell_89 2 rfl ?_
    refine V.iadd dX3_smell_90 ?_
    refine V.putf 0 6 (vw2 := [(a, ob 3 [.ref ta, .int s.2.1, .int s.2.2.1, .int s.2.2.2.1, .int s.2.2.2.2.1, .int s.2.2.2.2.2.1, .int (s.2.2.2.2.2.2.1 + (muchN κ so sg s)), .int s.2.2.2.2.2.2.2]), (ta, aI E 4 (smellN κ so sg ti s).1), (lo, ob 1 [.ref lt, .ref lr, .ref lw, .int (nI m), .int wa, .int lp]), (lt, aI E 4 ti), (q, ob (kci κ) [.int (nI so), .int sg, .int pr])]) rfl fp_X3_37_3 rfl rfl (Nat.le_of_ble_eq_true rfl) rfl dX3_smell_91 ?_
    refine V.iload_n dX3_smell_94 2 rfl ?_
    exact V.iret rfl dX3_smell_95 (⟨(), rfl, rfl, rfl, trivial⟩)
  · skip
    have hcold : coldB s.2.2.2.1 = 1 := if_pos (Int32.not_le.mp c1_20)
    refine V.iconst (v := 1) dX3_smell_23 (by decide) ?_
    refine V.goto (tgt := 28) dX3_smell_24 (by decide) ?_
    refine V.smeltBy (rest := []) (by assumption) 4 rfl w_552 rfl (Nat.le_of_ble_eq_true rfl) ⟨by decide, by decide⟩ ⟨by decide, by decide⟩ dX3_smell_28 ?_
    refine V.topc (v := (muchN κ so sg s)) (by unfold muchN; rw [hcold]) ?_
    refine V.istore_n (lv2 := [(3, .int (muchN κ so sg s)), (0, .ref a), (1, .ref lo), (2, .ref q)]) dX3_smell_31 rfl (by decide) rfl ?_
    refine V.aload_n dX3_smell_32 2 rfl ?_
    refine V.getf 2 0 rfl fa_X3_72_1 rfl dX3_smell_33 ?_
    refine V.aload_n dX3_smell_36 3 rfl ?_
    refine V.getf 4 0 rfl (fas_X3_63 (by assumption)) rfl dX3_smell_37 ?_
    refine V.iald 3 rfl (mod4_in hs) dX3_smell_40 ?_
    refine V.topc (v := (ti so)) (by rw [nI_clamp (by omega)] <;> rfl) ?_
    refine V.istore (lv2 := [(4, .int (ti so)), (3, .int (muchN κ so sg s)), (0, .ref a), (1, .ref lo), (2, .ref q)]) dX3_smell_41 (by decide) rfl ?_
    refine V.iconst (v := 0) dX3_smell_43 (by decide) ?_
    refine V.istore (lv2 := [(5, .int 0), (4, .int (ti so)), (3, .int (muchN κ so sg s)), (0, .ref a), (1, .ref lo), (2, .ref q)]) dX3_smell_44 (by decide) rfl ?_
    refine V.iload dX3_smell_46 0 rfl ?_
    refine V.iconst (v := 4) dX3_smell_48 (by decide) ?_
    refine V.icmp_ge (tgt := 84) dX3_smell_49 (by decide) (fun hc => absurd hc (by decide)) (fun _ => ?_)
    refine V.aload_n dX3_smell_52 3 rfl ?_
    refine V.getf 0 0 rfl fa_X3_9_3 rfl dX3_smell_53 ?_
    refine V.iload dX3_smell_56 0 rfl ?_
    refine V.aload_n dX3_smell_58 3 rfl ?_
    refine V.getf 0 0 rfl fa_X3_9_3 rfl dX3_smell_59 ?_
    refine V.iload dX3_smell_62 0 rfl ?_
    refine V.iald 1 rfl (vin rfl) dX3_smell_64 ?_
    refine V.topc (v := (s.1 0)) (rfl) ?_
    refine V.aload_n dX3_smell_65 5 rfl ?_
    refine V.iload dX3_smell_66 0 rfl ?_
    refine V.iload dX3_smell_68 1 rfl ?_
    refine V.tiring (rest := [.int (s.1 0), .int 0, .ref ta]) (by assumption) 4 rfl w_553 rfl (Nat.le_of_ble_eq_true rfl) ⟨by decide, by decide⟩ ⟨by decide, by decide⟩ dX3_smell_70 ?_
    refine V.iadd dX3_smell_73 ?_
    refine V.callSNp (host := "RoseLane") (As := [.int ((s.1 0) + (tiringI κ (nI so) 0 (ti so)))]) (rest := [.int 0, .ref ta]) [] (c_held E l L _ (((s.1 0) + (tiringI κ (nI so) 0 (ti so))))) rfl (by decide) mi_X10_held (by decide) w_512 rfl rfl (Nat.le_of_ble_eq_true rfl) ⟨by decide, by decide⟩ ⟨by decide, by decide⟩ dX3_smell_74 (vw2 := fun _ => [(a, ob 3 [.ref ta, .int s.2.1, .int s.2.2.1, .int s.2.2.2.1, .int s.2.2.2.2.1, .int s.2.2.2.2.2.1, .int s.2.2.2.2.2.2.1, .int s.2.2.2.2.2.2.2]), (ta, aI E 4 s.1), (lo, ob 1 [.ref lt, .ref lr, .ref lw, .int (nI m), .int wa, .int lp]), (lt, aI E 4 ti), (q, ob (kci κ) [.int (nI so), .int sg, .int pr])]) (st2 := fun _ => [.int (heldI ((s.1 0) + (tiringI κ (nI so) 0 (ti so)))), .int 0, .ref ta]) (fun _ => rfl) (fun _ => rfl) (fun _ => rfl) (fun _ _ => ?_)
    refine V.iast (vw2 := [(a, ob 3 [.ref ta, .int s.2.1, .int s.2.2.1, .int s.2.2.2.1, .int s.2.2.2.2.1, .int s.2.2.2.2.2.1, .int s.2.2.2.2.2.2.1, .int s.2.2.2.2.2.2.2]), (ta, aI E 4 (upd s.1 0 (heldI ((s.1 0) + (tiringI κ (nI so) 0 (ti so)))))), (lo, ob 1 [.ref lt, .ref lr, .ref lw, .int (nI m), .int wa, .int lp]), (lt, aI E 4 ti), (q, ob (kci κ) [.int (nI so), .int sg, .int pr])]) 1 rfl (vin rfl) (rfl) dX3_smell_77 ?_
    refine V.iinc (v := 1) (lv2 := [(5, .int 1), (4, .int (ti so)), (3, .int (muchN κ so sg s)), (0, .ref a), (1, .ref lo), (2, .ref q)]) dX3_smell_78 0 rfl (by decide) (by decide) rfl ?_
    refine V.goto (tgt := 46) dX3_smell_81 (by decide) ?_
    refine V.iload dX3_smell_46 0 rfl ?_
    refine V.iconst (v := 4) dX3_smell_48 (by decide) ?_
    refine V.icmp_ge (tgt := 84) dX3_smell_49 (by decide) (fun hc => absurd hc (by decide)) (fun _ => ?_)
    refine V.aload_n dX3_smell_52 3 rfl ?_
    refine V.getf 0 0 rfl fa_X3_9_3 rfl dX3_smell_53 ?_
    refine V.iload dX3_smell_56 0 rfl ?_
    refine V.aload_n dX3_smell_58 3 rfl ?_
    refine V.getf 0 0 rfl fa_X3_9_3 rfl dX3_smell_59 ?_
    refine V.iload dX3_smell_62 0 rfl ?_
    refine V.iald 1 rfl (vin rfl) dX3_smell_64 ?_
    refine V.topc (v := (s.1 1)) (rfl) ?_
    refine V.aload_n dX3_smell_65 5 rfl ?_
    refine V.iload dX3_smell_66 0 rfl ?_
    refine V.iload dX3_smell_68 1 rfl ?_
    refine V.tiring (rest := [.int (s.1 1), .int 1, .ref ta]) (by assumption) 4 rfl w_553 rfl (Nat.le_of_ble_eq_true rfl) ⟨by decide, by decide⟩ ⟨by decide, by decide⟩ dX3_smell_70 ?_
    refine V.iadd dX3_smell_73 ?_
    refine V.callSNp (host := "RoseLane") (As := [.int ((s.1 1) + (tiringI κ (nI so) 1 (ti so)))]) (rest := [.int 1, .ref ta]) [] (c_held E l L _ (((s.1 1) + (tiringI κ (nI so) 1 (ti so))))) rfl (by decide) mi_X10_held (by decide) w_512 rfl rfl (Nat.le_of_ble_eq_true rfl) ⟨by decide, by decide⟩ ⟨by decide, by decide⟩ dX3_smell_74 (vw2 := fun _ => [(a, ob 3 [.ref ta, .int s.2.1, .int s.2.2.1, .int s.2.2.2.1, .int s.2.2.2.2.1, .int s.2.2.2.2.2.1, .int s.2.2.2.2.2.2.1, .int s.2.2.2.2.2.2.2]), (ta, aI E 4 (upd s.1 0 (heldI ((s.1 0) + (tiringI κ (nI so) 0 (ti so)))))), (lo, ob 1 [.ref lt, .ref lr, .ref lw, .int (nI m), .int wa, .int lp]), (lt, aI E 4 ti), (q, ob (kci κ) [.int (nI so), .int sg, .int pr])]) (st2 := fun _ => [.int (heldI ((s.1 1) + (tiringI κ (nI so) 1 (ti so)))), .int 1, .ref ta]) (fun _ => rfl) (fun _ => rfl) (fun _ => rfl) (fun _ _ => ?_)
    refine V.iast (vw2 := [(a, ob 3 [.ref ta, .int s.2.1, .int s.2.2.1, .int s.2.2.2.1, .int s.2.2.2.2.1, .int s.2.2.2.2.2.1, .int s.2.2.2.2.2.2.1, .int s.2.2.2.2.2.2.2]), (ta, aI E 4 (upd (upd s.1 0 (heldI ((s.1 0) + (tiringI κ (nI so) 0 (ti so))))) 1 (heldI ((s.1 1) + (tiringI κ (nI so) 1 (ti so)))))), (lo, ob 1 [.ref lt, .ref lr, .ref lw, .int (nI m), .int wa, .int lp]), (lt, aI E 4 ti), (q, ob (kci κ) [.int (nI so), .int sg, .int pr])]) 1 rfl (vin rfl) (rfl) dX3_smell_77 ?_
    refine V.iinc (v := 2) (lv2 := [(5, .int 2), (4, .int (ti so)), (3, .int (muchN κ so sg s)), (0, .ref a), (1, .ref lo), (2, .ref q)]) dX3_smell_78 0 rfl (by decide) (by decide) rfl ?_
    refine V.goto (tgt := 46) dX3_smell_81 (by decide) ?_
    refine V.iload dX3_smell_46 0 rfl ?_
    refine V.iconst (v := 4) dX3_smell_48 (by decide) ?_
    refine V.icmp_ge (tgt := 84) dX3_smell_49 (by decide) (fun hc => absurd hc (by decide)) (fun _ => ?_)
    refine V.aload_n dX3_smell_52 3 rfl ?_
    refine V.getf 0 0 rfl fa_X3_9_3 rfl dX3_smell_53 ?_
    refine V.iload dX3_smell_56 0 rfl ?_
    refine V.aload_n dX3_smell_58 3 rfl ?_
    refine V.getf 0 0 rfl fa_X3_9_3 rfl dX3_smell_59 ?_
    refine V.iload dX3_smell_62 0 rfl ?_
    refine V.iald 1 rfl (vin rfl) dX3_smell_64 ?_
    refine V.topc (v := (s.1 2)) (rfl) ?_
    refine V.aload_n dX3_smell_65 5 rfl ?_
    refine V.iload dX3_smell_66 0 rfl ?_
    refine V.iload dX3_smell_68 1 rfl ?_
    refine V.tiring (rest := [.int (s.1 2), .int 2, .ref ta]) (by assumption) 4 rfl w_553 rfl (Nat.le_of_ble_eq_true rfl) ⟨by decide, by decide⟩ ⟨by decide, by decide⟩ dX3_smell_70 ?_
    refine V.iadd dX3_smell_73 ?_
    refine V.callSNp (host := "RoseLane") (As := [.int ((s.1 2) + (tiringI κ (nI so) 2 (ti so)))]) (rest := [.int 2, .ref ta]) [] (c_held E l L _ (((s.1 2) + (tiringI κ (nI so) 2 (ti so))))) rfl (by decide) mi_X10_held (by decide) w_512 rfl rfl (Nat.le_of_ble_eq_true rfl) ⟨by decide, by decide⟩ ⟨by decide, by decide⟩ dX3_smell_74 (vw2 := fun _ => [(a, ob 3 [.ref ta, .int s.2.1, .int s.2.2.1, .int s.2.2.2.1, .int s.2.2.2.2.1, .int s.2.2.2.2.2.1, .int s.2.2.2.2.2.2.1, .int s.2.2.2.2.2.2.2]), (ta, aI E 4 (upd (upd s.1 0 (heldI ((s.1 0) + (tiringI κ (nI so) 0 (ti so))))) 1 (heldI ((s.1 1) + (tiringI κ (nI so) 1 (ti so)))))), (lo, ob 1 [.ref lt, .ref lr, .ref lw, .int (nI m), .int wa, .int lp]), (lt, aI E 4 ti), (q, ob (kci κ) [.int (nI so), .int sg, .int pr])]) (st2 := fun _ => [.int (heldI ((s.1 2) + (tiringI κ (nI so) 2 (ti so)))), .int 2, .ref ta]) (fun _ => rfl) (fun _ => rfl) (fun _ => rfl) (fun _ _ => ?_)
    refine V.iast (vw2 := [(a, ob 3 [.ref ta, .int s.2.1, .int s.2.2.1, .int s.2.2.2.1, .int s.2.2.2.2.1, .int s.2.2.2.2.2.1, .int s.2.2.2.2.2.2.1, .int s.2.2.2.2.2.2.2]), (ta, aI E 4 (upd (upd (upd s.1 0 (heldI ((s.1 0) + (tiringI κ (nI so) 0 (ti so))))) 1 (heldI ((s.1 1) + (tiringI κ (nI so) 1 (ti so))))) 2 (heldI ((s.1 2) + (tiringI κ (nI so) 2 (ti so)))))), (lo, ob 1 [.ref lt, .ref lr, .ref lw, .int (nI m), .int wa, .int lp]), (lt, aI E 4 ti), (q, ob (kci κ) [.int (nI so), .int sg, .int pr])]) 1 rfl (vin rfl) (rfl) dX3_smell_77 ?_
    refine V.iinc (v := 3) (lv2 := [(5, .int 3), (4, .int (ti so)), (3, .int (muchN κ so sg s)), (0, .ref a), (1, .ref lo), (2, .ref q)]) dX3_smell_78 0 rfl (by decide) (by decide) rfl ?_
    refine V.goto (tgt := 46) dX3_smell_81 (by decide) ?_
    refine V.iload dX3_smell_46 0 rfl ?_
    refine V.iconst (v := 4) dX3_smell_48 (by decide) ?_
    refine V.icmp_ge (tgt := 84) dX3_smell_49 (by decide) (fun hc => absurd hc (by decide)) (fun _ => ?_)
    refine V.aload_n dX3_smell_52 3 rfl ?_
    refine V.getf 0 0 rfl fa_X3_9_3 rfl dX3_smell_53 ?_
    refine V.iload dX3_smell_56 0 rfl ?_
    refine V.aload_n dX3_smell_58 3 rfl ?_
    refine V.getf 0 0 rfl fa_X3_9_3 rfl dX3_smell_59 ?_
    refine V.iload dX3_smell_62 0 rfl ?_
    refine V.iald 1 rfl (vin rfl) dX3_smell_64 ?_
    refine V.topc (v := (s.1 3)) (rfl) ?_
    refine V.aload_n dX3_smell_65 5 rfl ?_
    refine V.iload dX3_smell_66 0 rfl ?_
    refine V.iload dX3_smell_68 1 rfl ?_
    refine V.tiring (rest := [.int (s.1 3), .int 3, .ref ta]) (by assumption) 4 rfl w_553 rfl (Nat.le_of_ble_eq_true rfl) ⟨by decide, by decide⟩ ⟨by decide, by decide⟩ dX3_smell_70 ?_
    refine V.iadd dX3_smell_73 ?_
    refine V.callSNp (host := "RoseLane") (As := [.int ((s.1 3) + (tiringI κ (nI so) 3 (ti so)))]) (rest := [.int 3, .ref ta]) [] (c_held E l L _ (((s.1 3) + (tiringI κ (nI so) 3 (ti so))))) rfl (by decide) mi_X10_held (by decide) w_512 rfl rfl (Nat.le_of_ble_eq_true rfl) ⟨by decide, by decide⟩ ⟨by decide, by decide⟩ dX3_smell_74 (vw2 := fun _ => [(a, ob 3 [.ref ta, .int s.2.1, .int s.2.2.1, .int s.2.2.2.1, .int s.2.2.2.2.1, .int s.2.2.2.2.2.1, .int s.2.2.2.2.2.2.1, .int s.2.2.2.2.2.2.2]), (ta, aI E 4 (upd (upd (upd s.1 0 (heldI ((s.1 0) + (tiringI κ (nI so) 0 (ti so))))) 1 (heldI ((s.1 1) + (tiringI κ (nI so) 1 (ti so))))) 2 (heldI ((s.1 2) + (tiringI κ (nI so) 2 (ti so)))))), (lo, ob 1 [.ref lt, .ref lr, .ref lw, .int (nI m), .int wa, .int lp]), (lt, aI E 4 ti), (q, ob (kci κ) [.int (nI so), .int sg, .int pr])]) (st2 := fun _ => [.int (heldI ((s.1 3) + (tiringI κ (nI so) 3 (ti so)))), .int 3, .ref ta]) (fun _ => rfl) (fun _ => rfl) (fun _ => rfl) (fun _ _ => ?_)
    refine V.iast (vw2 := [(a, ob 3 [.ref ta, .int s.2.1, .int s.2.2.1, .int s.2.2.2.1, .int s.2.2.2.2.1, .int s.2.2.2.2.2.1, .int s.2.2.2.2.2.2.1, .int s.2.2.2.2.2.2.2]), (ta, aI E 4 (upd (upd (upd (upd s.1 0 (heldI ((s.1 0) + (tiringI κ (nI so) 0 (ti so))))) 1 (heldI ((s.1 1) + (tiringI κ (nI so) 1 (ti so))))) 2 (heldI ((s.1 2) + (tiringI κ (nI so) 2 (ti so))))) 3 (heldI ((s.1 3) + (tiringI κ (nI so) 3 (ti so)))))), (lo, ob 1 [.ref lt, .ref lr, .ref lw, .int (nI m), .int wa, .int lp]), (lt, aI E 4 ti), (q, ob (kci κ) [.int (nI so), .int sg, .int pr])]) 1 rfl (vin rfl) (rfl) dX3_smell_77 ?_
    refine V.iinc (v := 4) (lv2 := [(5, .int 4), (4, .int (ti so)), (3, .int (muchN κ so sg s)), (0, .ref a), (1, .ref lo), (2, .ref q)]) dX3_smell_78 0 rfl (by decide) (by decide) rfl ?_
    refine V.goto (tgt := 46) dX3_smell_81 (by decide) ?_
    refine V.iload dX3_smell_46 0 rfl ?_
    refine V.iconst (v := 4) dX3_smell_48 (by decide) ?_
    refine V.icmp_ge (tgt := 84) dX3_smell_49 (by decide) (fun _ => ?_) (fun hc => absurd (by decide) hc)
    refine V.arrEq (vw2 := [(a, ob 3 [.ref ta, .int s.2.1, .int s.2.2.1, .int s.2.2.2.1, .int s.2.2.2.2.1, .int s.2.2.2.2.2.1, .int s.2.2.2.2.2.2.1, .int s.2.2.2.2.2.2.2]), (ta, aI E 4 (smellN κ so sg ti s).1), (lo, ob 1 [.ref lt, .ref lr, .ref lw, .int (nI m), .int wa, .int lp]), (lt, aI E 4 ti), (q, ob (kci κ) [.int (nI so), .int sg, .int pr])]) 1 0 rfl (fun j hj => by rcases (show j = 0 ∨ j = 1 ∨ j = 2 ∨ j = 3 by omega) with rfl | rfl | rfl | rfl <;> rfl) rfl ?_
    refine V.aload_n dX3_smell_84 3 rfl ?_
    refine V.dup dX3_smell_85 rfl ?_
    refine V.getf 0 6 rfl fa_X3_37_3 rfl dX3_smell_86 ?_
    refine V.iload_n dX3_smell_89 2 rfl ?_
    refine V.iadd dX3_smell_90 ?_
    refine V.putf 0 6 (vw2 := [(a, ob 3 [.ref ta, .int s.2.1, .int s.2.2.1, .int s.2.2.2.1, .int s.2.2.2.2.1, .int s.2.2.2.2.2.1, .int (s.2.2.2.2.2.2.1 + (muchN κ so sg s)), .int s.2.2.2.2.2.2.2]), (ta, aI E 4 (smellN κ so sg ti s).1), (lo, ob 1 [.ref lt, .ref lr, .ref lw, .int (nI m), .int wa, .int lp]), (lt, aI E 4 ti), (q, ob (kci κ) [.int (nI so), .int sg, .int pr])]) rfl fp_X3_37_3 rfl rfl (Nat.le_of_ble_eq_true rfl) rfl dX3_smell_91 ?_
    refine V.iload_n dX3_smell_94 2 rfl ?_
    exact V.iret rfl dX3_smell_95 (⟨(), rfl, rfl, rfl, trivial⟩)

set_option maxHeartbeats 4000000 in
set_option maxRecDepth 100000 in
theorem c_Lane_shopOf (E : vEnv) (l : Launch) (L : List Nat) (h : Nat → va_E) (lo : Nat) (lt : Nat) (lr : Nat) (lw : Nat) (m : Nat) (wa : Int32) (lp : Int32) (wf : Nat → Option Nat) (k : Nat) (q : Nat) (hk : k < m) (hm : m ≤ 6) (hq : wf k = some q) : CT E l yX1_shopOf cX1_shopOf 2 (some (.object "RoseLane$Shop")) 1 0 0 L h [(lo, ob 1 [.ref lt, .ref lr, .ref lw, .int (nI m), .int wa, .int lp]), (lw, aS E 6 wf)] [.ref lo, .int (nI k)] (qP L h (fun (_ : Unit) => [(lo, ob 1 [.ref lt, .ref lr, .ref lw, .int (nI m), .int wa, .int lp]), (lw, aS E 6 wf)]) (fun _ => some (.ref q)) (fun _ => True)) := by
  refine CT.ofV (by decide +kernel) (Nat.le_of_ble_eq_true rfl) ?_
  refine V.locals2 (lv2 := [(0, .ref lo), (1, .int (nI k))]) rfl ?_
  refine V.iload_n dX1_shopOf_0 1 rfl ?_
  refine V.iconst (v := 0) dX1_shopOf_1 (by decide) ?_
  refine V.aload_n dX1_shopOf_2 0 rfl ?_
  refine V.getf 0 3 rfl fa_X1_27_1 rfl dX1_shopOf_3 ?_
  refine V.iconst (v := 1) dX1_shopOf_6 (by decide) ?_
  refine V.isub dX1_shopOf_7 ?_
  refine V.callSNp (host := "RoseLane") (As := [.int (nI k), .int 0, .int ((nI m) - 1)]) (rest := []) [] (c_within E l L _ ((nI k)) 0 (((nI m) - 1))) rfl (by decide) mi_X10_isWithin (by decide) w_268 rfl rfl (Nat.le_of_ble_eq_true rfl) ⟨by decide, by decide⟩ ⟨by decide, by decide⟩ dX1_shopOf_8 (vw2 := fun _ => [(lo, ob 1 [.ref lt, .ref lr, .ref lw, .int (nI m), .int wa, .int lp]), (lw, aS E 6 wf)]) (st2 := fun _ => [.int (withinI (nI k) 0 ((nI m) - 1))]) (fun _ => rfl) (fun _ => rfl) (fun _ => rfl) (fun _ _ => ?_)
  refine V.topc (v := 1) (within_nI hk (by omega)) ?_
  refine V.if_eq (tgt := 23) dX1_shopOf_11 (by decide) (fun hc => absurd hc (by decide)) (fun _ => ?_)
  refine V.aload_n dX1_shopOf_14 0 rfl ?_
  refine V.getf 0 2 rfl fa_X1_20_1 rfl dX1_shopOf_15 ?_
  refine V.iload_n dX1_shopOf_18 1 rfl ?_
  refine V.aldS 1 rfl (vinI (by omega)) dX1_shopOf_19 ?_
  refine V.stack (st2 := [.ref q]) (by rw [nI_clamp (by omega), rf_some hq]) ?_
  refine V.goto (tgt := 24) dX1_shopOf_20 (by decide) ?_
  exact V.aret rfl (Or.inr ⟨_, rfl⟩) dX1_shopOf_24 (⟨(), rfl, rfl, rfl, trivial⟩)

set_option maxHeartbeats 4000000 in
set_option maxRecDepth 100000 in
theorem c_Lane_shopOfN (E : vEnv) (l : Launch) (L : List Nat) (h : Nat → va_E) (lo : Nat) (lt : Nat) (lr : Nat) (lw : Nat) (m : Nat) (wa : Int32) (lp : Int32) (x : Int32) (hx : withinI x 0 (nI m - 1) = 0) : CT E l yX1_shopOf cX1_shopOf 2 (some (.object "RoseLane$Shop")) 1 0 0 L h [(lo, ob 1 [.ref lt, .ref lr, .ref lw, .int (nI m), .int wa, .int lp])] [.ref lo, .int x] (qP L h (fun (_ : Unit) => [(lo, ob 1 [.ref lt, .ref lr, .ref lw, .int (nI m), .int wa, .int lp])]) (fun _ => some (.null)) (fun _ => True)) := by
  refine CT.ofV (by decide +kernel) (Nat.le_of_ble_eq_true rfl) ?_
  refine V.locals2 (lv2 := [(0, .ref lo), (1, .int x)]) rfl ?_
  refine V.iload_n dX1_shopOf_0 1 rfl ?_
  refine V.iconst (v := 0) dX1_shopOf_1 (by decide) ?_
  refine V.aload_n dX1_shopOf_2 0 rfl ?_
  refine V.getf 0 3 rfl fa_X1_27_1 rfl dX1_shopOf_3 ?_
  refine V.iconst (v := 1) dX1_shopOf_6 (by decide) ?_
  refine V.isub dX1_shopOf_7 ?_
  refine V.callSNp (host := "RoseLane") (As := [.int x, .int 0, .int ((nI m) - 1)]) (rest := []) [] (c_within E l L _ x 0 (((nI m) - 1))) rfl (by decide) mi_X10_isWithin (by decide) w_268 rfl rfl (Nat.le_of_ble_eq_true rfl) ⟨by decide, by decide⟩ ⟨by decide, by decide⟩ dX1_shopOf_8 (vw2 := fun _ => [(lo, ob 1 [.ref lt, .ref lr, .ref lw, .int (nI m), .int wa, .int lp])]) (st2 := fun _ => [.int (withinI x 0 ((nI m) - 1))]) (fun _ => rfl) (fun _ => rfl) (fun _ => rfl) (fun _ _ => ?_)
  refine V.topc (v := 0) (hx) ?_
  refine V.if_eq (tgt := 23) dX1_shopOf_11 (by decide) (fun _ => ?_) (fun hc => absurd (by decide) hc)
  refine V.null dX1_shopOf_23 ?_
  exact V.aret rfl (Or.inl rfl) dX1_shopOf_24 (⟨(), rfl, rfl, rfl, trivial⟩)

set_option maxHeartbeats 4000000 in
set_option maxRecDepth 100000 in
theorem c_Nose_call (E : vEnv) (l : Launch) (L : List Nat) (h : Nat → va_E) (a : Nat) (ta : Nat) (s : NS) (lo : Nat) (lt : Nat) (lr : Nat) (lw : Nat) (m : Nat) (wa : Int32) (lp : Int32) (ti : Nat → Int32) (r : Nat → Int32) (wf : Nat → Option Nat) (k : Nat) (q : Nat) (κ : Nat) (so : Nat) (sg : Int32) (pr : Int32) (hk : κ < 4) (hs : so < 4) (hkm : k < m) (hm : m ≤ 6) (hq : wf k = some q) : CT E l yX3_call cX3_call 7 (some (.int)) 4 0 0 L h [(a, ob 3 [.ref ta, .int s.2.1, .int s.2.2.1, .int s.2.2.2.1, .int s.2.2.2.2.1, .int s.2.2.2.2.2.1, .int s.2.2.2.2.2.2.1, .int s.2.2.2.2.2.2.2]), (ta, aI E 4 s.1), (lo, ob 1 [.ref lt, .ref lr, .ref lw, .int (nI m), .int wa, .int lp]), (lt, aI E 4 ti), (lr, aI E 4 r), (lw, aS E 6 wf), (q, ob (kci κ) [.int (nI so), .int sg, .int pr])] [.ref a, .ref lo, .int (nI k)] (qP L h (fun (_ : Unit) => [(a, ob 3 [.ref ta, .int (callN m k κ so sg pr wa ti r s).2.1, .int (callN m k κ so sg pr wa ti r s).2.2.1, .int (callN m k κ so sg pr wa ti r s).2.2.2.1, .int (callN m k κ so sg pr wa ti r s).2.2.2.2.1, .int (callN m k κ so sg pr wa ti r s).2.2.2.2.2.1, .int (callN m k κ so sg pr wa ti r s).2.2.2.2.2.2.1, .int (callN m k κ so sg pr wa ti r s).2.2.2.2.2.2.2]), (ta, aI E 4 (callN m k κ so sg pr wa ti r s).1), (lo, ob 1 [.ref lt, .ref lr, .ref lw, .int (nI m), .int wa, .int lp]), (lt, aI E 4 ti), (lr, aI E 4 r), (lw, aS E 6 wf), (q, ob (kci κ) [.int (nI so), .int sg, .int pr])]) (fun _ => some (.int (vsmN m k κ so sg r s))) (fun _ => True)) := by
  refine CT.ofV (by decide +kernel) (Nat.le_of_ble_eq_true rfl) ?_
  refine V.locals2 (lv2 := [(0, .ref a), (1, .ref lo), (2, .int (nI k))]) rfl ?_
  refine V.aload_n dX3_call_0 1 rfl ?_
  refine V.iload_n dX3_call_1 2 rfl ?_
  refine V.callVp (As := [.int (nI k)]) (rest := []) [2, 5] (c_Lane_shopOf E l L _ lo lt lr lw m wa lp wf k q (hkm) (hm) (hq)) rfl (by decide) mi_X1_shopOf 2 rfl rfl w_537 w_450 w_451 rfl rfl (Nat.le_of_ble_eq_true rfl) ⟨by decide, by decide⟩ ⟨by decide, by decide⟩ dX3_call_2 (vw2 := fun _ => [(a, ob 3 [.ref ta, .int s.2.1, .int s.2.2.1, .int s.2.2.2.1, .int s.2.2.2.2.1, .int s.2.2.2.2.2.1, .int s.2.2.2.2.2.2.1, .int s.2.2.2.2.2.2.2]), (ta, aI E 4 s.1), (lo, ob 1 [.ref lt, .ref lr, .ref lw, .int (nI m), .int wa, .int lp]), (lt, aI E 4 ti), (lr, aI E 4 r), (lw, aS E 6 wf), (q, ob (kci κ) [.int (nI so), .int sg, .int pr])]) (st2 := fun _ => [.ref q]) (fun _ => rfl) (fun _ => rfl) (fun _ => rfl) (fun _ _ => ?_)
  refine V.astore_n (lv2 := [(3, .ref q), (0, .ref a), (1, .ref lo), (2, .int (nI k))]) dX3_call_5 rfl (by decide) rfl ?_
  refine V.aload_n dX3_call_6 0 rfl ?_
  refine V.ifnonnull (tgt := 12) dX3_call_7 (by decide) ?_
  refine V.aload_n dX3_call_12 1 rfl ?_
  refine V.aload_n dX3_call_13 2 rfl ?_
  refine V.iload_n dX3_call_14 3 rfl ?_
  refine V.callVp (As := [.ref lo, .int (nI k)]) (rest := []) [0, 1, 2] (c_Nose_placeOf E l L _ a ta s lo lt lr lw m wa lp k) rfl (by decide) mi_X3_placeOf 0 rfl rfl w_538 w_469 w_470 rfl rfl (Nat.le_of_ble_eq_true rfl) ⟨by decide, by decide⟩ ⟨by decide, by decide⟩ dX3_call_15 (vw2 := fun _ => [(a, ob 3 [.ref ta, .int s.2.1, .int s.2.2.1, .int s.2.2.2.1, .int s.2.2.2.2.1, .int s.2.2.2.2.2.1, .int s.2.2.2.2.2.2.1, .int s.2.2.2.2.2.2.2]), (ta, aI E 4 s.1), (lo, ob 1 [.ref lt, .ref lr, .ref lw, .int (nI m), .int wa, .int lp]), (lt, aI E 4 ti), (lr, aI E 4 r), (lw, aS E 6 wf), (q, ob (kci κ) [.int (nI so), .int sg, .int pr])]) (st2 := fun _ => [.int (placeI m k s.2.2.2.2.2.2.2)]) (fun _ => rfl) (fun _ => rfl) (fun _ => rfl) (fun _ _ => ?_)
  refine V.istore (lv2 := [(4, .int (placeI m k s.2.2.2.2.2.2.2)), (3, .ref q), (0, .ref a), (1, .ref lo), (2, .int (nI k))]) dX3_call_18 (by decide) rfl ?_
  refine V.aload_n dX3_call_20 2 rfl ?_
  refine V.aload_n dX3_call_21 3 rfl ?_
  refine V.iload dX3_call_22 0 rfl ?_
  refine V.aload_n dX3_call_24 2 rfl ?_
  refine V.getf 0 1 rfl fa_X3_21_3 rfl dX3_call_25 ?_
  refine V.isub dX3_call_28 ?_
  refine V.mabs w_539 (Nat.le_of_ble_eq_true rfl) ⟨by decide, by decide⟩ ⟨by decide, by decide⟩ dX3_call_29 ?_
  refine V.topc (v := (absI (placeI m k s.2.2.2.2.2.2.2 - s.2.1))) (rfl) ?_
  refine V.callVp (As := [.ref lo, .int (absI (placeI m k s.2.2.2.2.2.2.2 - s.2.1))]) (rest := []) [0, 1, 2, 4] (c_Nose_step E l L _ a ta s lo lt lr lw m wa lp r ((absI (placeI m k s.2.2.2.2.2.2.2 - s.2.1)))) rfl (by decide) mi_X3_step 0 rfl rfl w_542 w_543 w_544 rfl rfl (Nat.le_of_ble_eq_true rfl) ⟨by decide, by decide⟩ ⟨by decide, by decide⟩ dX3_call_32 (vw2 := fun _ => [(a, ob 3 [.ref ta, .int (stepN r (absI (placeI m k s.2.2.2.2.2.2.2 - s.2.1)) s).2.1, .int (stepN r (absI (placeI m k s.2.2.2.2.2.2.2 - s.2.1)) s).2.2.1, .int (stepN r (absI (placeI m k s.2.2.2.2.2.2.2 - s.2.1)) s).2.2.2.1, .int (stepN r (absI (placeI m k s.2.2.2.2.2.2.2 - s.2.1)) s).2.2.2.2.1, .int (stepN r (absI (placeI m k s.2.2.2.2.2.2.2 - s.2.1)) s).2.2.2.2.2.1, .int (stepN r (absI (placeI m k s.2.2.2.2.2.2.2 - s.2.1)) s).2.2.2.2.2.2.1, .int (stepN r (absI (placeI m k s.2.2.2.2.2.2.2 - s.2.1)) s).2.2.2.2.2.2.2]), (ta, aI E 4 (stepN r (absI (placeI m k s.2.2.2.2.2.2.2 - s.2.1)) s).1), (lo, ob 1 [.ref lt, .ref lr, .ref lw, .int (nI m), .int wa, .int lp]), (lt, aI E 4 ti), (lr, aI E 4 r), (lw, aS E 6 wf), (q, ob (kci κ) [.int (nI so), .int sg, .int pr])]) (st2 := fun _ => []) (fun _ => rfl) (fun _ => rfl) (fun _ => rfl) (fun _ _ => ?_)
  refine V.aload_n dX3_call_35 2 rfl ?_
  refine V.iload dX3_call_36 0 rfl ?_
  refine V.putf 0 1 (vw2 := [(a, ob 3 [.ref ta, .int (placeI m k s.2.2.2.2.2.2.2), .int (stepN r (absI (placeI m k s.2.2.2.2.2.2.2 - s.2.1)) s).2.2.1, .int (stepN r (absI (placeI m k s.2.2.2.2.2.2.2 - s.2.1)) s).2.2.2.1, .int (stepN r (absI (placeI m k s.2.2.2.2.2.2.2 - s.2.1)) s).2.2.2.2.1, .int (stepN r (absI (placeI m k s.2.2.2.2.2.2.2 - s.2.1)) s).2.2.2.2.2.1, .int (stepN r (absI (placeI m k s.2.2.2.2.2.2.2 - s.2.1)) s).2.2.2.2.2.2.1, .int (stepN r (absI (placeI m k s.2.2.2.2.2.2.2 - s.2.1)) s).2.2.2.2.2.2.2]), (ta, aI E 4 (stepN r (absI (placeI m k s.2.2.2.2.2.2.2 - s.2.1)) s).1), (lo, ob 1 [.ref lt, .ref lr, .ref lw, .int (nI m), .int wa, .int lp]), (lt, aI E 4 ti), (lr, aI E 4 r), (lw, aS E 6 wf), (q, ob (kci κ) [.int (nI so), .int sg, .int pr])]) rfl fp_X3_21_3 rfl rfl (Nat.le_of_ble_eq_true rfl) rfl dX3_call_38 ?_
  refine V.aload_n dX3_call_41 2 rfl ?_
  refine V.aload_n dX3_call_42 3 rfl ?_
  refine V.aload_n dX3_call_43 1 rfl ?_
  refine V.callVp (As := [.ref lo, .ref q]) (rest := []) [0, 1, 2, 3, 6] (c_Nose_smell E l L _ a ta (((stepN r (absI (placeI m k s.2.2.2.2.2.2.2 - s.2.1)) s).1, (placeI m k s.2.2.2.2.2.2.2), (stepN r (absI (placeI m k s.2.2.2.2.2.2.2 - s.2.1)) s).2.2.1, (stepN r (absI (placeI m k s.2.2.2.2.2.2.2 - s.2.1)) s).2.2.2.1, (stepN r (absI (placeI m k s.2.2.2.2.2.2.2 - s.2.1)) s).2.2.2.2.1, (stepN r (absI (placeI m k s.2.2.2.2.2.2.2 - s.2.1)) s).2.2.2.2.2.1, (stepN r (absI (placeI m k s.2.2.2.2.2.2.2 - s.2.1)) s).2.2.2.2.2.2.1, (stepN r (absI (placeI m k s.2.2.2.2.2.2.2 - s.2.1)) s).2.2.2.2.2.2.2)) lo lt lr lw m wa lp ti q κ so sg pr (hk) (hs)) rfl (by decide) mi_X3_smell 0 rfl rfl w_548 w_549 w_550 rfl rfl (Nat.le_of_ble_eq_true rfl) ⟨by decide, by decide⟩ ⟨by decide, by decide⟩ dX3_call_44 (vw2 := fun _ => [(a, ob 3 [.ref ta, .int (smellN κ so sg ti ((stepN r (absI (placeI m k s.2.2.2.2.2.2.2 - s.2.1)) s).1, (placeI m k s.2.2.2.2.2.2.2), (stepN r (absI (placeI m k s.2.2.2.2.2.2.2 - s.2.1)) s).2.2.1, (stepN r (absI (placeI m k s.2.2.2.2.2.2.2 - s.2.1)) s).2.2.2.1, (stepN r (absI (placeI m k s.2.2.2.2.2.2.2 - s.2.1)) s).2.2.2.2.1, (stepN r (absI (placeI m k s.2.2.2.2.2.2.2 - s.2.1)) s).2.2.2.2.2.1, (stepN r (absI (placeI m k s.2.2.2.2.2.2.2 - s.2.1)) s).2.2.2.2.2.2.1, (stepN r (absI (placeI m k s.2.2.2.2.2.2.2 - s.2.1)) s).2.2.2.2.2.2.2)).2.1, .int (smellN κ so sg ti ((stepN r (absI (placeI m k s.2.2.2.2.2.2.2 - s.2.1)) s).1, (placeI m k s.2.2.2.2.2.2.2), (stepN r (absI (placeI m k s.2.2.2.2.2.2.2 - s.2.1)) s).2.2.1, (stepN r (absI (placeI m k s.2.2.2.2.2.2.2 - s.2.1)) s).2.2.2.1, (stepN r (absI (placeI m k s.2.2.2.2.2.2.2 - s.2.1)) s).2.2.2.2.1, (stepN r (absI (placeI m k s.2.2.2.2.2.2.2 - s.2.1)) s).2.2.2.2.2.1, (stepN r (absI (placeI m k s.2.2.2.2.2.2.2 - s.2.1)) s).2.2.2.2.2.2.1, (stepN r (absI (placeI m k s.2.2.2.2.2.2.2 - s.2.1)) s).2.2.2.2.2.2.2)).2.2.1, .int (smellN κ so sg ti ((stepN r (absI (placeI m k s.2.2.2.2.2.2.2 - s.2.1)) s).1, (placeI m k s.2.2.2.2.2.2.2), (stepN r (absI (placeI m k s.2.2.2.2.2.2.2 - s.2.1)) s).2.2.1, (stepN r (absI (placeI m k s.2.2.2.2.2.2.2 - s.2.1)) s).2.2.2.1, (stepN r (absI (placeI m k s.2.2.2.2.2.2.2 - s.2.1)) s).2.2.2.2.1, (stepN r (absI (placeI m k s.2.2.2.2.2.2.2 - s.2.1)) s).2.2.2.2.2.1, (stepN r (absI (placeI m k s.2.2.2.2.2.2.2 - s.2.1)) s).2.2.2.2.2.2.1, (stepN r (absI (placeI m k s.2.2.2.2.2.2.2 - s.2.1)) s).2.2.2.2.2.2.2)).2.2.2.1, .int (smellN κ so sg ti ((stepN r (absI (placeI m k s.2.2.2.2.2.2.2 - s.2.1)) s).1, (placeI m k s.2.2.2.2.2.2.2), (stepN r (absI (placeI m k s.2.2.2.2.2.2.2 - s.2.1)) s).2.2.1, (stepN r (absI (placeI m k s.2.2.2.2.2.2.2 - s.2.1)) s).2.2.2.1, (stepN r (absI (placeI m k s.2.2.2.2.2.2.2 - s.2.1)) s).2.2.2.2.1, (stepN r (absI (placeI m k s.2.2.2.2.2.2.2 - s.2.1)) s).2.2.2.2.2.1, (stepN r (absI (placeI m k s.2.2.2.2.2.2.2 - s.2.1)) s).2.2.2.2.2.2.1, (stepN r (absI (placeI m k s.2.2.2.2.2.2.2 - s.2.1)) s).2.2.2.2.2.2.2)).2.2.2.2.1, .int (smellN κ so sg ti ((stepN r (absI (placeI m k s.2.2.2.2.2.2.2 - s.2.1)) s).1, (placeI m k s.2.2.2.2.2.2.2), (stepN r (absI (placeI m k s.2.2.2.2.2.2.2 - s.2.1)) s).2.2.1, (stepN r (absI (placeI m k s.2.2.2.2.2.2.2 - s.2.1)) s).2.2.2.1, (stepN r (absI (placeI m k s.2.2.2.2.2.2.2 - s.2.1)) s).2.2.2.2.1, (stepN r (absI (placeI m k s.2.2.2.2.2.2.2 - s.2.1)) s).2.2.2.2.2.1, (stepN r (absI (placeI m k s.2.2.2.2.2.2.2 - s.2.1)) s).2.2.2.2.2.2.1, (stepN r (absI (placeI m k s.2.2.2.2.2.2.2 - s.2.1)) s).2.2.2.2.2.2.2)).2.2.2.2.2.1, .int (smellN κ so sg ti ((stepN r (absI (placeI m k s.2.2.2.2.2.2.2 - s.2.1)) s).1, (placeI m k s.2.2.2.2.2.2.2), (stepN r (absI (placeI m k s.2.2.2.2.2.2.2 - s.2.1)) s).2.2.1, (stepN r (absI (placeI m k s.2.2.2.2.2.2.2 - s.2.1)) s).2.2.2.1, (stepN r (absI (placeI m k s.2.2.2.2.2.2.2 - s.2.1)) s).2.2.2.2.1, (stepN r (absI (placeI m k s.2.2.2.2.2.2.2 - s.2.1)) s).2.2.2.2.2.1, (stepN r (absI (placeI m k s.2.2.2.2.2.2.2 - s.2.1)) s).2.2.2.2.2.2.1, (stepN r (absI (placeI m k s.2.2.2.2.2.2.2 - s.2.1)) s).2.2.2.2.2.2.2)).2.2.2.2.2.2.1, .int (smellN κ so sg ti ((stepN r (absI (placeI m k s.2.2.2.2.2.2.2 - s.2.1)) s).1, (placeI m k s.2.2.2.2.2.2.2), (stepN r (absI (placeI m k s.2.2.2.2.2.2.2 - s.2.1)) s).2.2.1, (stepN r (absI (placeI m k s.2.2.2.2.2.2.2 - s.2.1)) s).2.2.2.1, (stepN r (absI (placeI m k s.2.2.2.2.2.2.2 - s.2.1)) s).2.2.2.2.1, (stepN r (absI (placeI m k s.2.2.2.2.2.2.2 - s.2.1)) s).2.2.2.2.2.1, (stepN r (absI (placeI m k s.2.2.2.2.2.2.2 - s.2.1)) s).2.2.2.2.2.2.1, (stepN r (absI (placeI m k s.2.2.2.2.2.2.2 - s.2.1)) s).2.2.2.2.2.2.2)).2.2.2.2.2.2.2]), (ta, aI E 4 (smellN κ so sg ti ((stepN r (absI (placeI m k s.2.2.2.2.2.2.2 - s.2.1)) s).1, (placeI m k s.2.2.2.2.2.2.2), (stepN r (absI (placeI m k s.2.2.2.2.2.2.2 - s.2.1)) s).2.2.1, (stepN r (absI (placeI m k s.2.2.2.2.2.2.2 - s.2.1)) s).2.2.2.1, (stepN r (absI (placeI m k s.2.2.2.2.2.2.2 - s.2.1)) s).2.2.2.2.1, (stepN r (absI (placeI m k s.2.2.2.2.2.2.2 - s.2.1)) s).2.2.2.2.2.1, (stepN r (absI (placeI m k s.2.2.2.2.2.2.2 - s.2.1)) s).2.2.2.2.2.2.1, (stepN r (absI (placeI m k s.2.2.2.2.2.2.2 - s.2.1)) s).2.2.2.2.2.2.2)).1), (lo, ob 1 [.ref lt, .ref lr, .ref lw, .int (nI m), .int wa, .int lp]), (lt, aI E 4 ti), (lr, aI E 4 r), (lw, aS E 6 wf), (q, ob (kci κ) [.int (nI so), .int sg, .int pr])]) (st2 := fun _ => [.int (muchN κ so sg ((stepN r (absI (placeI m k s.2.2.2.2.2.2.2 - s.2.1)) s).1, (placeI m k s.2.2.2.2.2.2.2), (stepN r (absI (placeI m k s.2.2.2.2.2.2.2 - s.2.1)) s).2.2.1, (stepN r (absI (placeI m k s.2.2.2.2.2.2.2 - s.2.1)) s).2.2.2.1, (stepN r (absI (placeI m k s.2.2.2.2.2.2.2 - s.2.1)) s).2.2.2.2.1, (stepN r (absI (placeI m k s.2.2.2.2.2.2.2 - s.2.1)) s).2.2.2.2.2.1, (stepN r (absI (placeI m k s.2.2.2.2.2.2.2 - s.2.1)) s).2.2.2.2.2.2.1, (stepN r (absI (placeI m k s.2.2.2.2.2.2.2 - s.2.1)) s).2.2.2.2.2.2.2))]) (fun _ => rfl) (fun _ => rfl) (fun _ => rfl) (fun _ _ => ?_)
  refine V.istore (lv2 := [(5, .int (muchN κ so sg ((stepN r (absI (placeI m k s.2.2.2.2.2.2.2 - s.2.1)) s).1, (placeI m k s.2.2.2.2.2.2.2), (stepN r (absI (placeI m k s.2.2.2.2.2.2.2 - s.2.1)) s).2.2.1, (stepN r (absI (placeI m k s.2.2.2.2.2.2.2 - s.2.1)) s).2.2.2.1, (stepN r (absI (placeI m k s.2.2.2.2.2.2.2 - s.2.1)) s).2.2.2.2.1, (stepN r (absI (placeI m k s.2.2.2.2.2.2.2 - s.2.1)) s).2.2.2.2.2.1, (stepN r (absI (placeI m k s.2.2.2.2.2.2.2 - s.2.1)) s).2.2.2.2.2.2.1, (stepN r (absI (placeI m k s.2.2.2.2.2.2.2 - s.2.1)) s).2.2.2.2.2.2.2))), (4, .int (placeI m k s.2.2.2.2.2.2.2)), (3, .ref q), (0, .ref a), (1, .ref lo), (2, .int (nI k))]) dX3_call_47 (by decide) rfl ?_
  refine V.aload_n dX3_call_49 3 rfl ?_
  refine V.getf 0 5 rfl fa_X3_34_3 rfl dX3_call_50 ?_
  refine V.iload_n dX3_call_53 5 rfl ?_
  refine V.ishr dX3_call_54 ?_
  refine V.iconst (v := 1) dX3_call_55 (by decide) ?_
  refine V.iand dX3_call_56 ?_
  refine V.iconst (v := 1) dX3_call_57 (by decide) ?_
  refine V.icmp_ne (tgt := 65) dX3_call_58 (by decide) (fun c1_58 => ?_) (fun c1_58 => ?_)
  · skip
    have hc1_58 : ¬ ((s.2.2.2.2.2.1 >>> (nI k &&& 31)) &&& 1) = 1 := c1_58
    refine V.iconst (v := 0) dX3_call_65 (by decide) ?_
    refine V.istore (lv2 := [(6, .int 0), (5, .int (muchN κ so sg ((stepN r (absI (placeI m k s.2.2.2.2.2.2.2 - s.2.1)) s).1, (placeI m k s.2.2.2.2.2.2.2), (stepN r (absI (placeI m k s.2.2.2.2.2.2.2 - s.2.1)) s).2.2.1, (stepN r (absI (placeI m k s.2.2.2.2.2.2.2 - s.2.1)) s).2.2.2.1, (stepN r (absI (placeI m k s.2.2.2.2.2.2.2 - s.2.1)) s).2.2.2.2.1, (stepN r (absI (placeI m k s.2.2.2.2.2.2.2 - s.2.1)) s).2.2.2.2.2.1, (stepN r (absI (placeI m k s.2.2.2.2.2.2.2 - s.2.1)) s).2.2.2.2.2.2.1, (stepN r (absI (placeI m k s.2.2.2.2.2.2.2 - s.2.1)) s).2.2.2.2.2.2.2))), (4, .int (placeI m k s.2.2.2.2.2.2.2)), (3, .ref q), (0, .ref a), (1, .ref lo), (2, .int (nI k))]) dX3_call_66 (by decide) rfl ?_
    refine V.iload dX3_call_68 1 rfl ?_
    refine V.aload_n dX3_call_70 5 rfl ?_
    refine V.getf 2 4 rfl fa_X3_97_1 rfl dX3_call_71 ?_
    refine V.icmp_lt (tgt := 118) dX3_call_74 (by decide) (fun c2_74 => ?_) (fun c2_74 => ?_)
    · skip
      have hc2_74 : ¬ wa ≤ vsmN m k κ so sg r s := Int32.not_le.mpr c2_74
      refine V.iload dX3_call_118 1 rfl ?_
      exact V.iret rfl dX3_call_120 (⟨(), rfl, rfl, (by unfold callN; simp only [if_neg hc1_58, if_neg hc2_74]; try rfl), trivial⟩)
    · skip
      have hc2_74 : wa ≤ vsmN m k κ so sg r s := Int32.not_lt.mp c2_74
      refine V.iload dX3_call_77 0 rfl ?_
      refine V.if_ne (tgt := 118) dX3_call_79 (by decide) (fun hc => absurd (by decide) hc) (fun _ => ?_)
      refine V.aload_n dX3_call_82 3 rfl ?_
      refine V.getf 6 2 rfl (fas_X3_100 (by assumption)) rfl dX3_call_83 ?_
      refine V.aload_n dX3_call_86 4 rfl ?_
      refine V.getf 0 4 rfl fa_X3_31_3 rfl dX3_call_87 ?_
      refine V.icmp_gt (tgt := 118) dX3_call_90 (by decide) (fun c3_90 => ?_) (fun c3_90 => ?_)
      · skip
        have hc3_90 : ¬ pr ≤ s.2.2.2.2.1 := Int32.not_le.mpr c3_90
        refine V.iload dX3_call_118 1 rfl ?_
        exact V.iret rfl dX3_call_120 (⟨(), rfl, rfl, (by unfold callN; simp only [if_neg hc1_58, if_pos hc2_74, if_neg hc3_90]; try rfl), trivial⟩)
      · skip
        have hc3_90 : pr ≤ s.2.2.2.2.1 := Int32.not_lt.mp c3_90
        refine V.aload_n dX3_call_93 4 rfl ?_
        refine V.dup dX3_call_94 rfl ?_
        refine V.getf 0 5 rfl fa_X3_34_3 rfl dX3_call_95 ?_
        refine V.iconst (v := 1) dX3_call_98 (by decide) ?_
        refine V.iload_n dX3_call_99 6 rfl ?_
        refine V.ishl dX3_call_100 ?_
        refine V.ior dX3_call_101 ?_
        refine V.putf 0 5 (vw2 := [(a, ob 3 [.ref ta, .int (smellN κ so sg ti ((stepN r (absI (placeI m k s.2.2.2.2.2.2.2 - s.2.1)) s).1, (placeI m k s.2.2.2.2.2.2.2), (stepN r (absI (placeI m k s.2.2.2.2.2.2.2 - s.2.1)) s).2.2.1, (stepN r (absI (placeI m k s.2.2.2.2.2.2.2 - s.2.1)) s).2.2.2.1, (stepN r (absI (placeI m k s.2.2.2.2.2.2.2 - s.2.1)) s).2.2.2.2.1, (stepN r (absI (placeI m k s.2.2.2.2.2.2.2 - s.2.1)) s).2.2.2.2.2.1, (stepN r (absI (placeI m k s.2.2.2.2.2.2.2 - s.2.1)) s).2.2.2.2.2.2.1, (stepN r (absI (placeI m k s.2.2.2.2.2.2.2 - s.2.1)) s).2.2.2.2.2.2.2)).2.1, .int (smellN κ so sg ti ((stepN r (absI (placeI m k s.2.2.2.2.2.2.2 - s.2.1)) s).1, (placeI m k s.2.2.2.2.2.2.2), (stepN r (absI (placeI m k s.2.2.2.2.2.2.2 - s.2.1)) s).2.2.1, (stepN r (absI (placeI m k s.2.2.2.2.2.2.2 - s.2.1)) s).2.2.2.1, (stepN r (absI (placeI m k s.2.2.2.2.2.2.2 - s.2.1)) s).2.2.2.2.1, (stepN r (absI (placeI m k s.2.2.2.2.2.2.2 - s.2.1)) s).2.2.2.2.2.1, (stepN r (absI (placeI m k s.2.2.2.2.2.2.2 - s.2.1)) s).2.2.2.2.2.2.1, (stepN r (absI (placeI m k s.2.2.2.2.2.2.2 - s.2.1)) s).2.2.2.2.2.2.2)).2.2.1, .int (smellN κ so sg ti ((stepN r (absI (placeI m k s.2.2.2.2.2.2.2 - s.2.1)) s).1, (placeI m k s.2.2.2.2.2.2.2), (stepN r (absI (placeI m k s.2.2.2.2.2.2.2 - s.2.1)) s).2.2.1, (stepN r (absI (placeI m k s.2.2.2.2.2.2.2 - s.2.1)) s).2.2.2.1, (stepN r (absI (placeI m k s.2.2.2.2.2.2.2 - s.2.1)) s).2.2.2.2.1, (stepN r (absI (placeI m k s.2.2.2.2.2.2.2 - s.2.1)) s).2.2.2.2.2.1, (stepN r (absI (placeI m k s.2.2.2.2.2.2.2 - s.2.1)) s).2.2.2.2.2.2.1, (stepN r (absI (placeI m k s.2.2.2.2.2.2.2 - s.2.1)) s).2.2.2.2.2.2.2)).2.2.2.1, .int (smellN κ so sg ti ((stepN r (absI (placeI m k s.2.2.2.2.2.2.2 - s.2.1)) s).1, (placeI m k s.2.2.2.2.2.2.2), (stepN r (absI (placeI m k s.2.2.2.2.2.2.2 - s.2.1)) s).2.2.1, (stepN r (absI (placeI m k s.2.2.2.2.2.2.2 - s.2.1)) s).2.2.2.1, (stepN r (absI (placeI m k s.2.2.2.2.2.2.2 - s.2.1)) s).2.2.2.2.1, (stepN r (absI (placeI m k s.2.2.2.2.2.2.2 - s.2.1)) s).2.2.2.2.2.1, (stepN r (absI (placeI m k s.2.2.2.2.2.2.2 - s.2.1)) s).2.2.2.2.2.2.1, (stepN r (absI (placeI m k s.2.2.2.2.2.2.2 - s.2.1)) s).2.2.2.2.2.2.2)).2.2.2.2.1, .int ((smellN κ so sg ti ((stepN r (absI (placeI m k s.2.2.2.2.2.2.2 - s.2.1)) s).1, (placeI m k s.2.2.2.2.2.2.2), (stepN r (absI (placeI m k s.2.2.2.2.2.2.2 - s.2.1)) s).2.2.1, (stepN r (absI (placeI m k s.2.2.2.2.2.2.2 - s.2.1)) s).2.2.2.1, (stepN r (absI (placeI m k s.2.2.2.2.2.2.2 - s.2.1)) s).2.2.2.2.1, (stepN r (absI (placeI m k s.2.2.2.2.2.2.2 - s.2.1)) s).2.2.2.2.2.1, (stepN r (absI (placeI m k s.2.2.2.2.2.2.2 - s.2.1)) s).2.2.2.2.2.2.1, (stepN r (absI (placeI m k s.2.2.2.2.2.2.2 - s.2.1)) s).2.2.2.2.2.2.2)).2.2.2.2.2.1 ||| (1 <<< ((nI k) &&& 31))), .int (smellN κ so sg ti ((stepN r (absI (placeI m k s.2.2.2.2.2.2.2 - s.2.1)) s).1, (placeI m k s.2.2.2.2.2.2.2), (stepN r (absI (placeI m k s.2.2.2.2.2.2.2 - s.2.1)) s).2.2.1, (stepN r (absI (placeI m k s.2.2.2.2.2.2.2 - s.2.1)) s).2.2.2.1, (stepN r (absI (placeI m k s.2.2.2.2.2.2.2 - s.2.1)) s).2.2.2.2.1, (stepN r (absI (placeI m k s.2.2.2.2.2.2.2 - s.2.1)) s).2.2.2.2.2.1, (stepN r (absI (placeI m k s.2.2.2.2.2.2.2 - s.2.1)) s).2.2.2.2.2.2.1, (stepN r (absI (placeI m k s.2.2.2.2.2.2.2 - s.2.1)) s).2.2.2.2.2.2.2)).2.2.2.2.2.2.1, .int (smellN κ so sg ti ((stepN r (absI (placeI m k s.2.2.2.2.2.2.2 - s.2.1)) s).1, (placeI m k s.2.2.2.2.2.2.2), (stepN r (absI (placeI m k s.2.2.2.2.2.2.2 - s.2.1)) s).2.2.1, (stepN r (absI (placeI m k s.2.2.2.2.2.2.2 - s.2.1)) s).2.2.2.1, (stepN r (absI (placeI m k s.2.2.2.2.2.2.2 - s.2.1)) s).2.2.2.2.1, (stepN r (absI (placeI m k s.2.2.2.2.2.2.2 - s.2.1)) s).2.2.2.2.2.1, (stepN r (absI (placeI m k s.2.2.2.2.2.2.2 - s.2.1)) s).2.2.2.2.2.2.1, (stepN r (absI (placeI m k s.2.2.2.2.2.2.2 - s.2.1)) s).2.2.2.2.2.2.2)).2.2.2.2.2.2.2]), (ta, aI E 4 (smellN κ so sg ti ((stepN r (absI (placeI m k s.2.2.2.2.2.2.2 - s.2.1)) s).1, (placeI m k s.2.2.2.2.2.2.2), (stepN r (absI (placeI m k s.2.2.2.2.2.2.2 - s.2.1)) s).2.2.1, (stepN r (absI (placeI m k s.2.2.2.2.2.2.2 - s.2.1)) s).2.2.2.1, (stepN r (absI (placeI m k s.2.2.2.2.2.2.2 - s.2.1)) s).2.2.2.2.1, (stepN r (absI (placeI m k s.2.2.2.2.2.2.2 - s.2.1)) s).2.2.2.2.2.1, (stepN r (absI (placeI m k s.2.2.2.2.2.2.2 - s.2.1)) s).2.2.2.2.2.2.1, (stepN r (absI (placeI m k s.2.2.2.2.2.2.2 - s.2.1)) s).2.2.2.2.2.2.2)).1), (lo, ob 1 [.ref lt, .ref lr, .ref lw, .int (nI m), .int wa, .int lp]), (lt, aI E 4 ti), (lr, aI E 4 r), (lw, aS E 6 wf), (q, ob (kci κ) [.int (nI so), .int sg, .int pr])]) rfl fp_X3_34_3 rfl rfl (Nat.le_of_ble_eq_true rfl) rfl dX3_call_102 ?_
        refine V.aload_n dX3_call_105 4 rfl ?_
        refine V.dup dX3_call_106 rfl ?_
        refine V.getf 0 4 rfl fa_X3_31_3 rfl dX3_call_107 ?_
        refine V.aload_n dX3_call_110 3 rfl ?_
        refine V.getf 6 2 rfl (fas_X3_100 (by assumption)) rfl dX3_call_111 ?_
        refine V.isub dX3_call_114 ?_
        refine V.putf 0 4 (vw2 := [(a, ob 3 [.ref ta, .int (smellN κ so sg ti ((stepN r (absI (placeI m k s.2.2.2.2.2.2.2 - s.2.1)) s).1, (placeI m k s.2.2.2.2.2.2.2), (stepN r (absI (placeI m k s.2.2.2.2.2.2.2 - s.2.1)) s).2.2.1, (stepN r (absI (placeI m k s.2.2.2.2.2.2.2 - s.2.1)) s).2.2.2.1, (stepN r (absI (placeI m k s.2.2.2.2.2.2.2 - s.2.1)) s).2.2.2.2.1, (stepN r (absI (placeI m k s.2.2.2.2.2.2.2 - s.2.1)) s).2.2.2.2.2.1, (stepN r (absI (placeI m k s.2.2.2.2.2.2.2 - s.2.1)) s).2.2.2.2.2.2.1, (stepN r (absI (placeI m k s.2.2.2.2.2.2.2 - s.2.1)) s).2.2.2.2.2.2.2)).2.1, .int (smellN κ so sg ti ((stepN r (absI (placeI m k s.2.2.2.2.2.2.2 - s.2.1)) s).1, (placeI m k s.2.2.2.2.2.2.2), (stepN r (absI (placeI m k s.2.2.2.2.2.2.2 - s.2.1)) s).2.2.1, (stepN r (absI (placeI m k s.2.2.2.2.2.2.2 - s.2.1)) s).2.2.2.1, (stepN r (absI (placeI m k s.2.2.2.2.2.2.2 - s.2.1)) s).2.2.2.2.1, (stepN r (absI (placeI m k s.2.2.2.2.2.2.2 - s.2.1)) s).2.2.2.2.2.1, (stepN r (absI (placeI m k s.2.2.2.2.2.2.2 - s.2.1)) s).2.2.2.2.2.2.1, (stepN r (absI (placeI m k s.2.2.2.2.2.2.2 - s.2.1)) s).2.2.2.2.2.2.2)).2.2.1, .int (smellN κ so sg ti ((stepN r (absI (placeI m k s.2.2.2.2.2.2.2 - s.2.1)) s).1, (placeI m k s.2.2.2.2.2.2.2), (stepN r (absI (placeI m k s.2.2.2.2.2.2.2 - s.2.1)) s).2.2.1, (stepN r (absI (placeI m k s.2.2.2.2.2.2.2 - s.2.1)) s).2.2.2.1, (stepN r (absI (placeI m k s.2.2.2.2.2.2.2 - s.2.1)) s).2.2.2.2.1, (stepN r (absI (placeI m k s.2.2.2.2.2.2.2 - s.2.1)) s).2.2.2.2.2.1, (stepN r (absI (placeI m k s.2.2.2.2.2.2.2 - s.2.1)) s).2.2.2.2.2.2.1, (stepN r (absI (placeI m k s.2.2.2.2.2.2.2 - s.2.1)) s).2.2.2.2.2.2.2)).2.2.2.1, .int ((smellN κ so sg ti ((stepN r (absI (placeI m k s.2.2.2.2.2.2.2 - s.2.1)) s).1, (placeI m k s.2.2.2.2.2.2.2), (stepN r (absI (placeI m k s.2.2.2.2.2.2.2 - s.2.1)) s).2.2.1, (stepN r (absI (placeI m k s.2.2.2.2.2.2.2 - s.2.1)) s).2.2.2.1, (stepN r (absI (placeI m k s.2.2.2.2.2.2.2 - s.2.1)) s).2.2.2.2.1, (stepN r (absI (placeI m k s.2.2.2.2.2.2.2 - s.2.1)) s).2.2.2.2.2.1, (stepN r (absI (placeI m k s.2.2.2.2.2.2.2 - s.2.1)) s).2.2.2.2.2.2.1, (stepN r (absI (placeI m k s.2.2.2.2.2.2.2 - s.2.1)) s).2.2.2.2.2.2.2)).2.2.2.2.1 - pr), .int ((smellN κ so sg ti ((stepN r (absI (placeI m k s.2.2.2.2.2.2.2 - s.2.1)) s).1, (placeI m k s.2.2.2.2.2.2.2), (stepN r (absI (placeI m k s.2.2.2.2.2.2.2 - s.2.1)) s).2.2.1, (stepN r (absI (placeI m k s.2.2.2.2.2.2.2 - s.2.1)) s).2.2.2.1, (stepN r (absI (placeI m k s.2.2.2.2.2.2.2 - s.2.1)) s).2.2.2.2.1, (stepN r (absI (placeI m k s.2.2.2.2.2.2.2 - s.2.1)) s).2.2.2.2.2.1, (stepN r (absI (placeI m k s.2.2.2.2.2.2.2 - s.2.1)) s).2.2.2.2.2.2.1, (stepN r (absI (placeI m k s.2.2.2.2.2.2.2 - s.2.1)) s).2.2.2.2.2.2.2)).2.2.2.2.2.1 ||| (1 <<< ((nI k) &&& 31))), .int (smellN κ so sg ti ((stepN r (absI (placeI m k s.2.2.2.2.2.2.2 - s.2.1)) s).1, (placeI m k s.2.2.2.2.2.2.2), (stepN r (absI (placeI m k s.2.2.2.2.2.2.2 - s.2.1)) s).2.2.1, (stepN r (absI (placeI m k s.2.2.2.2.2.2.2 - s.2.1)) s).2.2.2.1, (stepN r (absI (placeI m k s.2.2.2.2.2.2.2 - s.2.1)) s).2.2.2.2.1, (stepN r (absI (placeI m k s.2.2.2.2.2.2.2 - s.2.1)) s).2.2.2.2.2.1, (stepN r (absI (placeI m k s.2.2.2.2.2.2.2 - s.2.1)) s).2.2.2.2.2.2.1, (stepN r (absI (placeI m k s.2.2.2.2.2.2.2 - s.2.1)) s).2.2.2.2.2.2.2)).2.2.2.2.2.2.1, .int (smellN κ so sg ti ((stepN r (absI (placeI m k s.2.2.2.2.2.2.2 - s.2.1)) s).1, (placeI m k s.2.2.2.2.2.2.2), (stepN r (absI (placeI m k s.2.2.2.2.2.2.2 - s.2.1)) s).2.2.1, (stepN r (absI (placeI m k s.2.2.2.2.2.2.2 - s.2.1)) s).2.2.2.1, (stepN r (absI (placeI m k s.2.2.2.2.2.2.2 - s.2.1)) s).2.2.2.2.1, (stepN r (absI (placeI m k s.2.2.2.2.2.2.2 - s.2.1)) s).2.2.2.2.2.1, (stepN r (absI (placeI m k s.2.2.2.2.2.2.2 - s.2.1)) s).2.2.2.2.2.2.1, (stepN r (absI (placeI m k s.2.2.2.2.2.2.2 - s.2.1)) s).2.2.2.2.2.2.2)).2.2.2.2.2.2.2]), (ta, aI E 4 (smellN κ so sg ti ((stepN r (absI (placeI m k s.2.2.2.2.2.2.2 - s.2.1)) s).1, (placeI m k s.2.2.2.2.2.2.2), (stepN r (absI (placeI m k s.2.2.2.2.2.2.2 - s.2.1)) s).2.2.1, (stepN r (absI (placeI m k s.2.2.2.2.2.2.2 - s.2.1)) s).2.2.2.1, (stepN r (absI (placeI m k s.2.2.2.2.2.2.2 - s.2.1)) s).2.2.2.2.1, (stepN r (absI (placeI m k s.2.2.2.2.2.2.2 - s.2.1)) s).2.2.2.2.2.1, (stepN r (absI (placeI m k s.2.2.2.2.2.2.2 - s.2.1)) s).2.2.2.2.2.2.1, (stepN r (absI (placeI m k s.2.2.2.2.2.2.2 - s.2.1)) s).2.2.2.2.2.2.2)).1), (lo, ob 1 [.ref lt, .ref lr, .ref lw, .int (nI m), .int wa, .int lp]), (lt, aI E 4 ti), (lr, aI E 4 r), (lw, aS E 6 wf), (q, ob (kci κ) [.int (nI so), .int sg, .int pr])]) rfl fp_X3_31_3 rfl rfl (Nat.le_of_ble_eq_true rfl) rfl dX3_call_115 ?_
        refine V.iload dX3_call_118 1 rfl ?_
        exact V.iret rfl dX3_call_120 (⟨(), rfl, rfl, (by unfold callN; simp only [if_neg hc1_58, if_pos hc2_74, if_pos hc3_90]; try rfl), trivial⟩)
  · skip
    have hc1_58 : ((s.2.2.2.2.2.1 >>> (nI k &&& 31)) &&& 1) = 1 := c1_58
    refine V.iconst (v := 1) dX3_call_61 (by decide) ?_
    refine V.goto (tgt := 66) dX3_call_62 (by decide) ?_
    refine V.istore (lv2 := [(6, .int 1), (5, .int (muchN κ so sg ((stepN r (absI (placeI m k s.2.2.2.2.2.2.2 - s.2.1)) s).1, (placeI m k s.2.2.2.2.2.2.2), (stepN r (absI (placeI m k s.2.2.2.2.2.2.2 - s.2.1)) s).2.2.1, (stepN r (absI (placeI m k s.2.2.2.2.2.2.2 - s.2.1)) s).2.2.2.1, (stepN r (absI (placeI m k s.2.2.2.2.2.2.2 - s.2.1)) s).2.2.2.2.1, (stepN r (absI (placeI m k s.2.2.2.2.2.2.2 - s.2.1)) s).2.2.2.2.2.1, (stepN r (absI (placeI m k s.2.2.2.2.2.2.2 - s.2.1)) s).2.2.2.2.2.2.1, (stepN r (absI (placeI m k s.2.2.2.2.2.2.2 - s.2.1)) s).2.2.2.2.2.2.2))), (4, .int (placeI m k s.2.2.2.2.2.2.2)), (3, .ref q), (0, .ref a), (1, .ref lo), (2, .int (nI k))]) dX3_call_66 (by decide) rfl ?_
    refine V.iload dX3_call_68 1 rfl ?_
    refine V.aload_n dX3_call_70 5 rfl ?_
    refine V.getf 2 4 rfl fa_X3_97_1 rfl dX3_call_71 ?_
    refine V.icmp_lt (tgt := 118) dX3_call_74 (by decide) (fun c4_74 => ?_) (fun c4_74 => ?_)
    · skip
      have hc4_74 : ¬ wa ≤ vsmN m k κ so sg r s := Int32.not_le.mpr c4_74
      refine V.iload dX3_call_118 1 rfl ?_
      exact V.iret rfl dX3_call_120 (⟨(), rfl, rfl, (by unfold callN; simp only [if_pos hc1_58, if_neg hc4_74]; try rfl), trivial⟩)
    · skip
      have hc4_74 : wa ≤ vsmN m k κ so sg r s := Int32.not_lt.mp c4_74
      refine V.iload dX3_call_77 0 rfl ?_
      refine V.if_ne (tgt := 118) dX3_call_79 (by decide) (fun _ => ?_) (fun hc => absurd hc (by decide))
      refine V.iload dX3_call_118 1 rfl ?_
      exact V.iret rfl dX3_call_120 (⟨(), rfl, rfl, (by unfold callN; simp only [if_pos hc1_58, if_pos hc4_74]; try rfl), trivial⟩)
