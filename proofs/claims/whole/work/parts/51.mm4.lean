set_option maxHeartbeats 4000000 in
set_option maxRecDepth 100000 in
theorem c_M_isShop (E : vEnv) (l : Launch) (L : List Nat) (h : Nat → va_E) (o : Nat) (mw : Nat) (mk : Nat) (mt : Nat) (mr : Nat) (mki : Nat) (mso : Nat) (mst : Nat) (mpr : Nat) (msh : Nat) (mwa : Nat) (mpu : Nat) (mtx : Nat) (mor : Nat) (mbo : Nat) (tO : Nat) (tVi : Nat) (tSm : Nat) (ts : Int32) (ma : Int32) (bg : Int32) (wr : Int32) (cl : Int32) (um : Int32) (mn : Int32) (tm : Int32) (Sh : Nat → Int32) (m : Nat) (x : Int32) (eM : Sh 0 = nI m) (hm : m ≤ 6) : CT E l yX11_isShop cX11_isShop 2 (some (.boolean)) 1 0 0 L h [(o, ob 10 [.ref mw, .ref mk, .ref mt, .ref mr, .ref mki, .ref mso, .ref mst, .ref mpr, .ref msh, .ref mwa, .ref mpu, .ref mtx, .int ts, .int ma, .int bg, .int wr, .int cl, .int um, .ref mor, .ref mbo, .int mn, .ref tO, .ref tVi, .ref tSm, .int tm]), (msh, aI E 2 Sh)] [.ref o, .int x] (qP L h (fun (_ : Unit) => [(o, ob 10 [.ref mw, .ref mk, .ref mt, .ref mr, .ref mki, .ref mso, .ref mst, .ref mpr, .ref msh, .ref mwa, .ref mpu, .ref mtx, .int ts, .int ma, .int bg, .int wr, .int cl, .int um, .ref mor, .ref mbo, .int mn, .ref tO, .ref tVi, .ref tSm, .int tm]), (msh, aI E 2 Sh)]) (fun _ => some (.int (withinI x 0 (nI m - 1)))) (fun _ => True)) := by
  refine CT.ofV (by decide +kernel) (Nat.le_of_ble_eq_true rfl) ?_
  refine V.locals2 (lv2 := [(0, .ref o), (1, .int x)]) rfl ?_
  refine V.iload_n dX11_isShop_0 1 rfl ?_
  refine V.i2l dX11_isShop_1 ?_
  refine V.lconst (v := 0) dX11_isShop_2 (by decide) ?_
  refine V.stack (st2 := [.long (Int32.toInt64 0), .long (Int32.toInt64 x)]) (congrArg (fun z64 => Value.long z64 :: [.long (Int32.toInt64 x)]) (show (0 : Int64) = Int32.toInt64 0 by decide)) ?_
  refine V.aload_n dX11_isShop_3 0 rfl ?_
  refine V.getf 0 8 rfl fa_X11_35_10 rfl dX11_isShop_4 ?_
  refine V.iconst (v := 0) dX11_isShop_7 (by decide) ?_
  refine V.iald 1 rfl (vin rfl) dX11_isShop_8 ?_
  refine V.topc (v := (Sh 0)) (rfl) ?_
  refine V.topc (v := (nI m)) (eM) ?_
  refine V.iconst (v := 1) dX11_isShop_9 (by decide) ?_
  refine V.isub dX11_isShop_10 ?_
  refine V.i2l dX11_isShop_11 ?_
  refine V.callSp (As := [.long (Int32.toInt64 x), .long (Int32.toInt64 0), .long (Int32.toInt64 ((nI m) - 1))]) (rest := []) [] (c_M_in E l L _ x 0 (((nI m) - 1))) rfl (by decide) mi_X11_in w_789 w_790 rfl rfl (Nat.le_of_ble_eq_true rfl) ⟨by decide, by decide⟩ ⟨by decide, by decide⟩ dX11_isShop_12 (vw2 := fun _ => [(o, ob 10 [.ref mw, .ref mk, .ref mt, .ref mr, .ref mki, .ref mso, .ref mst, .ref mpr, .ref msh, .ref mwa, .ref mpu, .ref mtx, .int ts, .int ma, .int bg, .int wr, .int cl, .int um, .ref mor, .ref mbo, .int mn, .ref tO, .ref tVi, .ref tSm, .int tm]), (msh, aI E 2 Sh)]) (st2 := fun _ => [.int (withinI x 0 ((nI m) - 1))]) (fun _ => rfl) (fun _ => rfl) (fun _ => rfl) (fun _ _ => ?_)
  exact V.zret rfl (by rcases withinI_01 x 0 (nI m - 1) with e | e <;> rw [e] <;> rfl) dX11_isShop_15 (⟨(), rfl, rfl, rfl, trivial⟩)

set_option maxHeartbeats 4000000 in
set_option maxRecDepth 100000 in
theorem c_M_isSet (E : vEnv) (l : Launch) (L : List Nat) (h : Nat → va_E) (o : Nat) (mw : Nat) (mk : Nat) (mt : Nat) (mr : Nat) (mki : Nat) (mso : Nat) (mst : Nat) (mpr : Nat) (msh : Nat) (mwa : Nat) (mpu : Nat) (mtx : Nat) (mor : Nat) (mbo : Nat) (tO : Nat) (tVi : Nat) (tSm : Nat) (ts : Int32) (ma : Int32) (bg : Int32) (wr : Int32) (cl : Int32) (um : Int32) (mn : Int32) (tm : Int32) (Sh : Nat → Int32) (m : Nat) (x : Int32) (eM : Sh 0 = nI m) (hm : m ≤ 6) : CT E l yX11_isSet cX11_isSet 2 (some (.boolean)) 1 0 0 L h [(o, ob 10 [.ref mw, .ref mk, .ref mt, .ref mr, .ref mki, .ref mso, .ref mst, .ref mpr, .ref msh, .ref mwa, .ref mpu, .ref mtx, .int ts, .int ma, .int bg, .int wr, .int cl, .int um, .ref mor, .ref mbo, .int mn, .ref tO, .ref tVi, .ref tSm, .int tm]), (msh, aI E 2 Sh)] [.ref o, .int x] (qP L h (fun (_ : Unit) => [(o, ob 10 [.ref mw, .ref mk, .ref mt, .ref mr, .ref mki, .ref mso, .ref mst, .ref mpr, .ref msh, .ref mwa, .ref mpu, .ref mtx, .int ts, .int ma, .int bg, .int wr, .int cl, .int um, .ref mor, .ref mbo, .int mn, .ref tO, .ref tVi, .ref tSm, .int tm]), (msh, aI E 2 Sh)]) (fun _ => some (.int (withinI x 0 (nI (2 ^ m - 1))))) (fun _ => True)) := by
  refine CT.ofV (by decide +kernel) (Nat.le_of_ble_eq_true rfl) ?_
  refine V.locals2 (lv2 := [(0, .ref o), (1, .int x)]) rfl ?_
  refine V.iload_n dX11_isSet_0 1 rfl ?_
  refine V.i2l dX11_isSet_1 ?_
  refine V.lconst (v := 0) dX11_isSet_2 (by decide) ?_
  refine V.stack (st2 := [.long (Int32.toInt64 0), .long (Int32.toInt64 x)]) (congrArg (fun z64 => Value.long z64 :: [.long (Int32.toInt64 x)]) (show (0 : Int64) = Int32.toInt64 0 by decide)) ?_
  refine V.iconst (v := 1) dX11_isSet_3 (by decide) ?_
  refine V.aload_n dX11_isSet_4 0 rfl ?_
  refine V.getf 0 8 rfl fa_X11_35_10 rfl dX11_isSet_5 ?_
  refine V.iconst (v := 0) dX11_isSet_8 (by decide) ?_
  refine V.iald 1 rfl (vin rfl) dX11_isSet_9 ?_
  refine V.topc (v := (Sh 0)) (rfl) ?_
  refine V.topc (v := (nI m)) (eM) ?_
  refine V.ishl dX11_isSet_10 ?_
  refine V.iconst (v := 1) dX11_isSet_11 (by decide) ?_
  refine V.isub dX11_isSet_12 ?_
  refine V.topc (v := (nI (2 ^ m - 1))) (allI m (by omega)) ?_
  refine V.i2l dX11_isSet_13 ?_
  refine V.callSp (As := [.long (Int32.toInt64 x), .long (Int32.toInt64 0), .long (Int32.toInt64 (nI (2 ^ m - 1)))]) (rest := []) [] (c_M_in E l L _ x 0 ((nI (2 ^ m - 1)))) rfl (by decide) mi_X11_in w_789 w_790 rfl rfl (Nat.le_of_ble_eq_true rfl) ⟨by decide, by decide⟩ ⟨by decide, by decide⟩ dX11_isSet_14 (vw2 := fun _ => [(o, ob 10 [.ref mw, .ref mk, .ref mt, .ref mr, .ref mki, .ref mso, .ref mst, .ref mpr, .ref msh, .ref mwa, .ref mpu, .ref mtx, .int ts, .int ma, .int bg, .int wr, .int cl, .int um, .ref mor, .ref mbo, .int mn, .ref tO, .ref tVi, .ref tSm, .int tm]), (msh, aI E 2 Sh)]) (st2 := fun _ => [.int (withinI x 0 (nI (2 ^ m - 1)))]) (fun _ => rfl) (fun _ => rfl) (fun _ => rfl) (fun _ _ => ?_)
  exact V.zret rfl (by rcases withinI_01 x 0 (nI (2 ^ m - 1)) with e | e <;> rw [e] <;> rfl) dX11_isSet_17 (⟨(), rfl, rfl, rfl, trivial⟩)

set_option maxHeartbeats 4000000 in
set_option maxRecDepth 100000 in
theorem c_M_sortU (E : vEnv) (l : Launch) (L : List Nat) (h : Nat → va_E) (o : Nat) (mw : Nat) (mk : Nat) (mt : Nat) (mr : Nat) (mki : Nat) (mso : Nat) (mst : Nat) (mpr : Nat) (msh : Nat) (mwa : Nat) (mpu : Nat) (mtx : Nat) (mor : Nat) (mbo : Nat) (tO : Nat) (tVi : Nat) (tSm : Nat) (ts : Int32) (ma : Int32) (bg : Int32) (wr : Int32) (cl : Int32) (um : Int32) (mn : Int32) (tm : Int32) (x : Int32) (y : Int32) (hx : withinI x 0 3 = 0) : CT E l yX11_sort cX11_sort 3 (some (.int)) 1 0 0 L h [(o, ob 10 [.ref mw, .ref mk, .ref mt, .ref mr, .ref mki, .ref mso, .ref mst, .ref mpr, .ref msh, .ref mwa, .ref mpu, .ref mtx, .int ts, .int ma, .int bg, .int wr, .int cl, .int um, .ref mor, .ref mbo, .int mn, .ref tO, .ref tVi, .ref tSm, .int tm])] [.ref o, .int x, .int y] (qP L h (fun (_ : Unit) => [(o, ob 10 [.ref mw, .ref mk, .ref mt, .ref mr, .ref mki, .ref mso, .ref mst, .ref mpr, .ref msh, .ref mwa, .ref mpu, .ref mtx, .int ts, .int ma, .int bg, .int wr, .int cl, .int um, .ref mor, .ref mbo, .int mn, .ref tO, .ref tVi, .ref tSm, .int tm])]) (fun _ => some (.int (-2))) (fun _ => True)) := by
  refine CT.ofV (by decide +kernel) (Nat.le_of_ble_eq_true rfl) ?_
  refine V.locals2 (lv2 := [(0, .ref o), (1, .int x), (2, .int y)]) rfl ?_
  refine V.iload_n dX11_sort_0 1 rfl ?_
  refine V.i2l dX11_sort_1 ?_
  refine V.lconst (v := 0) dX11_sort_2 (by decide) ?_
  refine V.stack (st2 := [.long (Int32.toInt64 0), .long (Int32.toInt64 x)]) (congrArg (fun z64 => Value.long z64 :: [.long (Int32.toInt64 x)]) (show (0 : Int64) = Int32.toInt64 0 by decide)) ?_
  refine V.ldc2 dX11_sort_3 w_855 ?_
  refine V.stack (st2 := [.long (Int32.toInt64 3), .long (Int32.toInt64 0), .long (Int32.toInt64 x)]) (congrArg (fun z64 => Value.long z64 :: [.long (Int32.toInt64 0), .long (Int32.toInt64 x)]) (show (3 : Int64) = Int32.toInt64 3 by decide)) ?_
  refine V.callSp (As := [.long (Int32.toInt64 x), .long (Int32.toInt64 0), .long (Int32.toInt64 3)]) (rest := []) [] (c_M_in E l L _ x 0 3) rfl (by decide) mi_X11_in w_789 w_790 rfl rfl (Nat.le_of_ble_eq_true rfl) ⟨by decide, by decide⟩ ⟨by decide, by decide⟩ dX11_sort_6 (vw2 := fun _ => [(o, ob 10 [.ref mw, .ref mk, .ref mt, .ref mr, .ref mki, .ref mso, .ref mst, .ref mpr, .ref msh, .ref mwa, .ref mpu, .ref mtx, .int ts, .int ma, .int bg, .int wr, .int cl, .int um, .ref mor, .ref mbo, .int mn, .ref tO, .ref tVi, .ref tSm, .int tm])]) (st2 := fun _ => [.int (withinI x 0 3)]) (fun _ => rfl) (fun _ => rfl) (fun _ => rfl) (fun _ _ => ?_)
  refine V.topc (v := 0) (hx) ?_
  refine V.if_ne (tgt := 15) dX11_sort_9 (by decide) (fun hc => absurd (by decide) hc) (fun _ => ?_)
  refine V.bipush (v := (-2)) dX11_sort_12 (by decide) ?_
  exact V.iret rfl dX11_sort_14 (⟨(), rfl, rfl, rfl, trivial⟩)

set_option maxHeartbeats 4000000 in
set_option maxRecDepth 100000 in
theorem c_M_sort (E : vEnv) (l : Launch) (L : List Nat) (h : Nat → va_E) (o : Nat) (mw : Nat) (mk : Nat) (mt : Nat) (mr : Nat) (mki : Nat) (mso : Nat) (mst : Nat) (mpr : Nat) (msh : Nat) (mwa : Nat) (mpu : Nat) (mtx : Nat) (mor : Nat) (mbo : Nat) (tO : Nat) (tVi : Nat) (tSm : Nat) (ts : Int32) (ma : Int32) (bg : Int32) (wr : Int32) (cl : Int32) (um : Int32) (mn : Int32) (tm : Int32) (ρ : Nat → MR) (pw : Nat → Int32) (s : NS) (Ti : Nat → Int32) (Re : Nat → Int32) (k : Nat) (y : Int32) (hR : ρ 0 = (pw, s)) (hk : k < 4) : CT E l yX11_sort cX11_sort 3 (some (.int)) 1 0 0 L h [(o, ob 10 [.ref mw, .ref mk, .ref mt, .ref mr, .ref mki, .ref mso, .ref mst, .ref mpr, .ref msh, .ref mwa, .ref mpu, .ref mtx, .int ts, .int ma, .int bg, .int wr, .int cl, .int um, .ref mor, .ref mbo, .int mn, .ref tO, .ref tVi, .ref tSm, .int tm]), (mw, aI E 192 (mW ρ)), (mt, aI E 8 Ti), (mr, aI E 8 Re)] [.ref o, .int (nI k), .int y] (qP L h (fun (_ : Unit) => [(o, ob 10 [.ref mw, .ref mk, .ref mt, .ref mr, .ref mki, .ref mso, .ref mst, .ref mpr, .ref msh, .ref mwa, .ref mpu, .ref mtx, .int ts, .int ma, .int bg, .int wr, .int cl, .int um, .ref mor, .ref mbo, .int mn, .ref tO, .ref tVi, .ref tSm, .int tm]), (mw, aI E 192 (mW ρ)), (mt, aI E 8 Ti), (mr, aI E 8 Re)]) (fun _ => some (.int (sel3 y (Ti k) (Re k) (s.1 k)))) (fun _ => True)) := by
  refine CT.ofV (by decide +kernel) (Nat.le_of_ble_eq_true rfl) ?_
  refine V.locals2 (lv2 := [(0, .ref o), (1, .int (nI k)), (2, .int y)]) rfl ?_
  refine V.iload_n dX11_sort_0 1 rfl ?_
  refine V.i2l dX11_sort_1 ?_
  refine V.lconst (v := 0) dX11_sort_2 (by decide) ?_
  refine V.stack (st2 := [.long (Int32.toInt64 0), .long (Int32.toInt64 (nI k))]) (congrArg (fun z64 => Value.long z64 :: [.long (Int32.toInt64 (nI k))]) (show (0 : Int64) = Int32.toInt64 0 by decide)) ?_
  refine V.ldc2 dX11_sort_3 w_855 ?_
  refine V.stack (st2 := [.long (Int32.toInt64 3), .long (Int32.toInt64 0), .long (Int32.toInt64 (nI k))]) (congrArg (fun z64 => Value.long z64 :: [.long (Int32.toInt64 0), .long (Int32.toInt64 (nI k))]) (show (3 : Int64) = Int32.toInt64 3 by decide)) ?_
  refine V.callSp (As := [.long (Int32.toInt64 (nI k)), .long (Int32.toInt64 0), .long (Int32.toInt64 3)]) (rest := []) [] (c_M_in E l L _ ((nI k)) 0 3) rfl (by decide) mi_X11_in w_789 w_790 rfl rfl (Nat.le_of_ble_eq_true rfl) ⟨by decide, by decide⟩ ⟨by decide, by decide⟩ dX11_sort_6 (vw2 := fun _ => [(o, ob 10 [.ref mw, .ref mk, .ref mt, .ref mr, .ref mki, .ref mso, .ref mst, .ref mpr, .ref msh, .ref mwa, .ref mpu, .ref mtx, .int ts, .int ma, .int bg, .int wr, .int cl, .int um, .ref mor, .ref mbo, .int mn, .ref tO, .ref tVi, .ref tSm, .int tm]), (mw, aI E 192 (mW ρ)), (mt, aI E 8 Ti), (mr, aI E 8 Re)]) (st2 := fun _ => [.int (withinI (nI k) 0 3)]) (fun _ => rfl) (fun _ => rfl) (fun _ => rfl) (fun _ _ => ?_)
  refine V.topc (v := 1) (within_nI (m := 4) hk (by omega)) ?_
  refine V.if_ne (tgt := 15) dX11_sort_9 (by decide) (fun _ => ?_) (fun hc => absurd hc (by decide))
  refine V.iload_n dX11_sort_15 2 rfl ?_
  refine V.if_ne (tgt := 28) dX11_sort_16 (by decide) (fun c1_16 => ?_) (fun c1_16 => ?_)
  · skip
    refine V.iload_n dX11_sort_28 2 rfl ?_
    refine V.iconst (v := 1) dX11_sort_29 (by decide) ?_
    refine V.icmp_ne (tgt := 42) dX11_sort_30 (by decide) (fun c2_30 => ?_) (fun c2_30 => ?_)
    · skip
      refine V.iload_n dX11_sort_42 2 rfl ?_
      refine V.iconst (v := 2) dX11_sort_43 (by decide) ?_
      refine V.icmp_ne (tgt := 59) dX11_sort_44 (by decide) (fun c3_44 => ?_) (fun c3_44 => ?_)
      · skip
        refine V.bipush (v := (-3)) dX11_sort_59 (by decide) ?_
        exact V.iret rfl dX11_sort_61 (⟨(), by unfold sel3; rw [if_neg c1_16, if_neg c2_30, if_neg c3_44] <;> rfl, rfl, rfl, trivial⟩)
      · skip
        refine V.aload_n dX11_sort_47 0 rfl ?_
        refine V.getf 0 0 rfl fa_X11_7_10 rfl dX11_sort_48 ?_
        refine V.bipush (v := 6) dX11_sort_51 (by decide) ?_
        refine V.iload_n dX11_sort_53 1 rfl ?_
        refine V.iadd dX11_sort_54 ?_
        refine V.topc (v := (nI (6 + k))) (nI_add 6 k) ?_
        refine V.iald 1 rfl (vinI (by omega)) dX11_sort_55 ?_
        refine V.topc (v := ((mW ρ) ((6 + k)))) (by rw [nI_clamp (by omega)] <;> rfl) ?_
        refine V.topc (v := (s.1 k)) (mW_ti (i := 0) hR hk) ?_
        refine V.goto (tgt := 61) dX11_sort_56 (by decide) ?_
        exact V.iret rfl dX11_sort_61 (⟨(), by unfold sel3; rw [if_neg c1_16, if_neg c2_30, if_pos c3_44] <;> rfl, rfl, rfl, trivial⟩)
    · skip
      refine V.aload_n dX11_sort_33 0 rfl ?_
      refine V.getf 0 3 rfl fa_X11_20_10 rfl dX11_sort_34 ?_
      refine V.iload_n dX11_sort_37 1 rfl ?_
      refine V.iald 3 rfl (vinI (by omega)) dX11_sort_38 ?_
      refine V.topc (v := (Re k)) (by rw [nI_clamp (by omega)] <;> rfl) ?_
      refine V.goto (tgt := 61) dX11_sort_39 (by decide) ?_
      exact V.iret rfl dX11_sort_61 (⟨(), by unfold sel3; rw [if_neg c1_16, if_pos c2_30] <;> rfl, rfl, rfl, trivial⟩)
  · skip
    refine V.aload_n dX11_sort_19 0 rfl ?_
    refine V.getf 0 2 rfl fa_X11_17_10 rfl dX11_sort_20 ?_
    refine V.iload_n dX11_sort_23 1 rfl ?_
    refine V.iald 2 rfl (vinI (by omega)) dX11_sort_24 ?_
    refine V.topc (v := (Ti k)) (by rw [nI_clamp (by omega)] <;> rfl) ?_
    refine V.goto (tgt := 61) dX11_sort_25 (by decide) ?_
    exact V.iret rfl dX11_sort_61 (⟨(), by unfold sel3; rw [if_pos c1_16] <;> rfl, rfl, rfl, trivial⟩)

set_option maxHeartbeats 4000000 in
set_option maxRecDepth 100000 in
theorem c_M_shopU (E : vEnv) (l : Launch) (L : List Nat) (h : Nat → va_E) (o : Nat) (mw : Nat) (mk : Nat) (mt : Nat) (mr : Nat) (mki : Nat) (mso : Nat) (mst : Nat) (mpr : Nat) (msh : Nat) (mwa : Nat) (mpu : Nat) (mtx : Nat) (mor : Nat) (mbo : Nat) (tO : Nat) (tVi : Nat) (tSm : Nat) (ts : Int32) (ma : Int32) (bg : Int32) (wr : Int32) (cl : Int32) (um : Int32) (mn : Int32) (tm : Int32) (Sh : Nat → Int32) (m : Nat) (x : Int32) (y : Int32) (eM : Sh 0 = nI m) (hm : m ≤ 6) (hx : withinI x 0 (nI m - 1) = 0) : CT E l yX11_shop cX11_shop 3 (some (.int)) 2 0 0 L h [(o, ob 10 [.ref mw, .ref mk, .ref mt, .ref mr, .ref mki, .ref mso, .ref mst, .ref mpr, .ref msh, .ref mwa, .ref mpu, .ref mtx, .int ts, .int ma, .int bg, .int wr, .int cl, .int um, .ref mor, .ref mbo, .int mn, .ref tO, .ref tVi, .ref tSm, .int tm]), (msh, aI E 2 Sh)] [.ref o, .int x, .int y] (qP L h (fun (_ : Unit) => [(o, ob 10 [.ref mw, .ref mk, .ref mt, .ref mr, .ref mki, .ref mso, .ref mst, .ref mpr, .ref msh, .ref mwa, .ref mpu, .ref mtx, .int ts, .int ma, .int bg, .int wr, .int cl, .int um, .ref mor, .ref mbo, .int mn, .ref tO, .ref tVi, .ref tSm, .int tm]), (msh, aI E 2 Sh)]) (fun _ => some (.int (-2))) (fun _ => True)) := by
  refine CT.ofV (by decide +kernel) (Nat.le_of_ble_eq_true rfl) ?_
  refine V.locals2 (lv2 := [(0, .ref o), (1, .int x), (2, .int y)]) rfl ?_
  refine V.aload_n dX11_shop_0 0 rfl ?_
  refine V.iload_n dX11_shop_1 1 rfl ?_
  refine V.callVp (As := [.int x]) (rest := []) [0, 1] (c_M_isShop E l L _ o mw mk mt mr mki mso mst mpr msh mwa mpu mtx mor mbo tO tVi tSm ts ma bg wr cl um mn tm Sh m x (eM) (hm)) rfl (by decide) mi_X11_isShop 0 rfl rfl w_860 w_862 wp_17 rfl rfl (Nat.le_of_ble_eq_true rfl) ⟨by decide, by decide⟩ ⟨by decide, by decide⟩ dX11_shop_2 (vw2 := fun _ => [(o, ob 10 [.ref mw, .ref mk, .ref mt, .ref mr, .ref mki, .ref mso, .ref mst, .ref mpr, .ref msh, .ref mwa, .ref mpu, .ref mtx, .int ts, .int ma, .int bg, .int wr, .int cl, .int um, .ref mor, .ref mbo, .int mn, .ref tO, .ref tVi, .ref tSm, .int tm]), (msh, aI E 2 Sh)]) (st2 := fun _ => [.int (withinI x 0 (nI m - 1))]) (fun _ => rfl) (fun _ => rfl) (fun _ => rfl) (fun _ _ => ?_)
  refine V.topc (v := 0) (hx) ?_
  refine V.if_ne (tgt := 11) dX11_shop_5 (by decide) (fun hc => absurd (by decide) hc) (fun _ => ?_)
  refine V.bipush (v := (-2)) dX11_shop_8 (by decide) ?_
  exact V.iret rfl dX11_shop_10 (⟨(), rfl, rfl, rfl, trivial⟩)

set_option maxHeartbeats 4000000 in
set_option maxRecDepth 100000 in
theorem c_M_shop (E : vEnv) (l : Launch) (L : List Nat) (h : Nat → va_E) (o : Nat) (mw : Nat) (mk : Nat) (mt : Nat) (mr : Nat) (mki : Nat) (mso : Nat) (mst : Nat) (mpr : Nat) (msh : Nat) (mwa : Nat) (mpu : Nat) (mtx : Nat) (mor : Nat) (mbo : Nat) (tO : Nat) (tVi : Nat) (tSm : Nat) (ts : Int32) (ma : Int32) (bg : Int32) (wr : Int32) (cl : Int32) (um : Int32) (mn : Int32) (tm : Int32) (Sh : Nat → Int32) (m : Nat) (ρ : Nat → MR) (pw : Nat → Int32) (s : NS) (Ki : Nat → Int32) (So : Nat → Int32) (St : Nat → Int32) (Pr : Nat → Int32) (k : Nat) (κ : Nat) (so : Nat) (sg : Int32) (pr : Int32) (y : Int32) (hR : ρ 0 = (pw, s)) (eM : Sh 0 = nI m) (hm : m ≤ 6) (hkm : k < m) (hk : k < 6) (hκ : κ < 4) (hso : so < 4) (eK : Ki k = kindI κ) (eS : So k = nI so) (eT : St k = sg) (eP : Pr k = pr) : CT E l yX11_shop cX11_shop 3 (some (.int)) 2 0 0 L h [(o, ob 10 [.ref mw, .ref mk, .ref mt, .ref mr, .ref mki, .ref mso, .ref mst, .ref mpr, .ref msh, .ref mwa, .ref mpu, .ref mtx, .int ts, .int ma, .int bg, .int wr, .int cl, .int um, .ref mor, .ref mbo, .int mn, .ref tO, .ref tVi, .ref tSm, .int tm]), (msh, aI E 2 Sh), (mw, aI E 192 (mW ρ)), (mki, aI E 12 Ki), (mso, aI E 12 So), (mst, aI E 12 St), (mpr, aI E 12 Pr)] [.ref o, .int (nI k), .int y] (qP L h (fun (_ : Unit) => [(o, ob 10 [.ref mw, .ref mk, .ref mt, .ref mr, .ref mki, .ref mso, .ref mst, .ref mpr, .ref msh, .ref mwa, .ref mpu, .ref mtx, .int ts, .int ma, .int bg, .int wr, .int cl, .int um, .ref mor, .ref mbo, .int mn, .ref tO, .ref tVi, .ref tSm, .int tm]), (msh, aI E 2 Sh), (mw, aI E 192 (mW ρ)), (mki, aI E 12 Ki), (mso, aI E 12 So), (mst, aI E 12 St), (mpr, aI E 12 Pr)]) (fun _ => some (.int (sel7 y (kindI κ) (nI so) sg pr (pw k) ((s.2.2.2.2.2.1 >>> (nI k &&& 31)) &&& 1) (muchN κ so sg s)))) (fun _ => True)) := by
  refine CT.ofV (by decide +kernel) (Nat.le_of_ble_eq_true rfl) ?_
  refine V.locals2 (lv2 := [(0, .ref o), (1, .int (nI k)), (2, .int y)]) rfl ?_
  refine V.aload_n dX11_shop_0 0 rfl ?_
  refine V.iload_n dX11_shop_1 1 rfl ?_
  refine V.callVp (As := [.int (nI k)]) (rest := []) [0, 1] (c_M_isShop E l L _ o mw mk mt mr mki mso mst mpr msh mwa mpu mtx mor mbo tO tVi tSm ts ma bg wr cl um mn tm Sh m ((nI k)) (eM) (hm)) rfl (by decide) mi_X11_isShop 0 rfl rfl w_860 w_862 wp_17 rfl rfl (Nat.le_of_ble_eq_true rfl) ⟨by decide, by decide⟩ ⟨by decide, by decide⟩ dX11_shop_2 (vw2 := fun _ => [(o, ob 10 [.ref mw, .ref mk, .ref mt, .ref mr, .ref mki, .ref mso, .ref mst, .ref mpr, .ref msh, .ref mwa, .ref mpu, .ref mtx, .int ts, .int ma, .int bg, .int wr, .int cl, .int um, .ref mor, .ref mbo, .int mn, .ref tO, .ref tVi, .ref tSm, .int tm]), (msh, aI E 2 Sh), (mw, aI E 192 (mW ρ)), (mki, aI E 12 Ki), (mso, aI E 12 So), (mst, aI E 12 St), (mpr, aI E 12 Pr)]) (st2 := fun _ => [.int (withinI (nI k) 0 (nI m - 1))]) (fun _ => rfl) (fun _ => rfl) (fun _ => rfl) (fun _ _ => ?_)
  refine V.topc (v := 1) (within_nI hkm (by omega)) ?_
  refine V.if_ne (tgt := 11) dX11_shop_5 (by decide) (fun _ => ?_) (fun hc => absurd hc (by decide))
  refine V.iload_n dX11_shop_11 2 rfl ?_
  by_cases e12_0 : y = 0
  · refine V.topc e12_0 ?_
    refine V.tableIn (tgt := 56) (off := 44) dX11_shop_12 (by decide) (by decide) (by decide) (by decide) ?_
    refine V.aload_n dX11_shop_56 0 rfl ?_
    refine V.getf 0 4 rfl fa_X11_23_10 rfl dX11_shop_57 ?_
    refine V.iload_n dX11_shop_60 1 rfl ?_
    refine V.iald 3 rfl (vinI (by omega)) dX11_shop_61 ?_
    refine V.topc (v := (Ki k)) (by rw [nI_clamp (by omega)] <;> rfl) ?_
    refine V.topc (v := (kindI κ)) (eK) ?_
    exact V.iret rfl dX11_shop_62 (⟨(), by unfold sel7; rw [if_pos e12_0] <;> rfl, rfl, rfl, trivial⟩)
  by_cases e12_1 : y = 1
  · refine V.topc e12_1 ?_
    refine V.tableIn (tgt := 63) (off := 51) dX11_shop_12 (by decide) (by decide) (by decide) (by decide) ?_
    refine V.aload_n dX11_shop_63 0 rfl ?_
    refine V.getf 0 5 rfl fa_X11_26_10 rfl dX11_shop_64 ?_
    refine V.iload_n dX11_shop_67 1 rfl ?_
    refine V.iald 4 rfl (vinI (by omega)) dX11_shop_68 ?_
    refine V.topc (v := (So k)) (by rw [nI_clamp (by omega)] <;> rfl) ?_
    refine V.topc (v := (nI so)) (eS) ?_
    exact V.iret rfl dX11_shop_69 (⟨(), by unfold sel7; rw [if_neg e12_0, if_pos e12_1] <;> rfl, rfl, rfl, trivial⟩)
  by_cases e12_2 : y = 2
  · refine V.topc e12_2 ?_
    refine V.tableIn (tgt := 70) (off := 58) dX11_shop_12 (by decide) (by decide) (by decide) (by decide) ?_
    refine V.aload_n dX11_shop_70 0 rfl ?_
    refine V.getf 0 6 rfl fa_X11_29_10 rfl dX11_shop_71 ?_
    refine V.iload_n dX11_shop_74 1 rfl ?_
    refine V.iald 5 rfl (vinI (by omega)) dX11_shop_75 ?_
    refine V.topc (v := (St k)) (by rw [nI_clamp (by omega)] <;> rfl) ?_
    refine V.topc (v := sg) (eT) ?_
    exact V.iret rfl dX11_shop_76 (⟨(), by unfold sel7; rw [if_neg e12_0, if_neg e12_1, if_pos e12_2] <;> rfl, rfl, rfl, trivial⟩)
  by_cases e12_3 : y = 3
  · refine V.topc e12_3 ?_
    refine V.tableIn (tgt := 77) (off := 65) dX11_shop_12 (by decide) (by decide) (by decide) (by decide) ?_
    refine V.aload_n dX11_shop_77 0 rfl ?_
    refine V.getf 0 7 rfl fa_X11_32_10 rfl dX11_shop_78 ?_
    refine V.iload_n dX11_shop_81 1 rfl ?_
    refine V.iald 6 rfl (vinI (by omega)) dX11_shop_82 ?_
    refine V.topc (v := (Pr k)) (by rw [nI_clamp (by omega)] <;> rfl) ?_
    refine V.topc (v := pr) (eP) ?_
    exact V.iret rfl dX11_shop_83 (⟨(), by unfold sel7; rw [if_neg e12_0, if_neg e12_1, if_neg e12_2, if_pos e12_3] <;> rfl, rfl, rfl, trivial⟩)
  by_cases e12_4 : y = 4
  · refine V.topc e12_4 ?_
    refine V.tableIn (tgt := 84) (off := 72) dX11_shop_12 (by decide) (by decide) (by decide) (by decide) ?_
    refine V.aload_n dX11_shop_84 0 rfl ?_
    refine V.getf 0 0 rfl fa_X11_7_10 rfl dX11_shop_85 ?_
    refine V.iload_n dX11_shop_88 1 rfl ?_
    refine V.iald 2 rfl (vinI (by omega)) dX11_shop_89 ?_
    refine V.topc (v := ((mW ρ) k)) (by rw [nI_clamp (by omega)] <;> rfl) ?_
    refine V.topc (v := (pw k)) (mW_pl0 hR hk) ?_
    exact V.iret rfl dX11_shop_90 (⟨(), by unfold sel7; rw [if_neg e12_0, if_neg e12_1, if_neg e12_2, if_neg e12_3, if_pos e12_4] <;> rfl, rfl, rfl, trivial⟩)
  by_cases e12_5 : y = 5
  · refine V.topc e12_5 ?_
    refine V.tableIn (tgt := 91) (off := 79) dX11_shop_12 (by decide) (by decide) (by decide) (by decide) ?_
    refine V.aload_n dX11_shop_91 0 rfl ?_
    refine V.getf 0 0 rfl fa_X11_7_10 rfl dX11_shop_92 ?_
    refine V.bipush (v := 13) dX11_shop_95 (by decide) ?_
    refine V.iald 2 rfl (vin rfl) dX11_shop_97 ?_
    refine V.topc (v := ((mW ρ) 13)) (rfl) ?_
    refine V.topc (v := s.2.2.2.2.2.1) (mW_bo (i := 0) hR) ?_
    refine V.iload_n dX11_shop_98 1 rfl ?_
    refine V.callSp (As := [.int s.2.2.2.2.2.1, .int (nI k)]) (rest := []) [] (c_M_has E l L _ s.2.2.2.2.2.1 k) rfl (by decide) mi_X11_has w_864 w_865 rfl rfl (Nat.le_of_ble_eq_true rfl) ⟨by decide, by decide⟩ ⟨by decide, by decide⟩ dX11_shop_99 (vw2 := fun _ => [(o, ob 10 [.ref mw, .ref mk, .ref mt, .ref mr, .ref mki, .ref mso, .ref mst, .ref mpr, .ref msh, .ref mwa, .ref mpu, .ref mtx, .int ts, .int ma, .int bg, .int wr, .int cl, .int um, .ref mor, .ref mbo, .int mn, .ref tO, .ref tVi, .ref tSm, .int tm]), (msh, aI E 2 Sh), (mw, aI E 192 (mW ρ)), (mki, aI E 12 Ki), (mso, aI E 12 So), (mst, aI E 12 St), (mpr, aI E 12 Pr)]) (st2 := fun _ => [.int (boolI (hasI s.2.2.2.2.2.1 k))]) (fun _ => rfl) (fun _ => rfl) (fun _ => rfl) (fun _ _ => ?_)
    refine V.callSp (As := [.int (boolI (hasI s.2.2.2.2.2.1 k))]) (rest := []) [] (c_M_one E l L _ ((boolI (hasI s.2.2.2.2.2.1 k)))) rfl (by decide) mi_X11_one w_867 w_868 rfl rfl (Nat.le_of_ble_eq_true rfl) ⟨by decide, by decide⟩ ⟨by decide, by decide⟩ dX11_shop_102 (vw2 := fun _ => [(o, ob 10 [.ref mw, .ref mk, .ref mt, .ref mr, .ref mki, .ref mso, .ref mst, .ref mpr, .ref msh, .ref mwa, .ref mpu, .ref mtx, .int ts, .int ma, .int bg, .int wr, .int cl, .int um, .ref mor, .ref mbo, .int mn, .ref tO, .ref tVi, .ref tSm, .int tm]), (msh, aI E 2 Sh), (mw, aI E 192 (mW ρ)), (mki, aI E 12 Ki), (mso, aI E 12 So), (mst, aI E 12 St), (mpr, aI E 12 Pr)]) (st2 := fun _ => [.int (if (boolI (hasI s.2.2.2.2.2.1 k)) = 0 then 0 else 1)]) (fun _ => rfl) (fun _ => rfl) (fun _ => rfl) (fun _ _ => ?_)
    refine V.topc (v := ((s.2.2.2.2.2.1 >>> (nI k &&& 31)) &&& 1)) (one_bit _ _) ?_
    exact V.iret rfl dX11_shop_105 (⟨(), by unfold sel7; rw [if_neg e12_0, if_neg e12_1, if_neg e12_2, if_neg e12_3, if_neg e12_4, if_pos e12_5] <;> rfl, rfl, rfl, trivial⟩)
  by_cases e12_6 : y = 6
  · refine V.topc e12_6 ?_
    refine V.tableIn (tgt := 106) (off := 94) dX11_shop_12 (by decide) (by decide) (by decide) (by decide) ?_
    refine V.aload_n dX11_shop_106 0 rfl ?_
    refine V.iconst (v := 0) dX11_shop_107 (by decide) ?_
    refine V.iload_n dX11_shop_108 1 rfl ?_
    refine V.callVp (As := [.int 0, .int (nI k)]) (rest := []) [0, 2, 3, 4, 5] (c_M_smells E l L _ o mw mk mt mr mki mso mst mpr msh mwa mpu mtx mor mbo tO tVi tSm ts ma bg wr cl um mn tm ρ 0 pw s Ki So St k κ so sg (by omega) (hR) (hk) (hκ) (hso) (eK) (eS) (eT)) rfl (by decide) mi_X11_smells 0 rfl rfl w_870 w_872 wp_18 rfl rfl (Nat.le_of_ble_eq_true rfl) ⟨by decide, by decide⟩ ⟨by decide, by decide⟩ dX11_shop_109 (vw2 := fun _ => [(o, ob 10 [.ref mw, .ref mk, .ref mt, .ref mr, .ref mki, .ref mso, .ref mst, .ref mpr, .ref msh, .ref mwa, .ref mpu, .ref mtx, .int ts, .int ma, .int bg, .int wr, .int cl, .int um, .ref mor, .ref mbo, .int mn, .ref tO, .ref tVi, .ref tSm, .int tm]), (msh, aI E 2 Sh), (mw, aI E 192 (mW ρ)), (mki, aI E 12 Ki), (mso, aI E 12 So), (mst, aI E 12 St), (mpr, aI E 12 Pr)]) (st2 := fun _ => [.int (muchN κ so sg s)]) (fun _ => rfl) (fun _ => rfl) (fun _ => rfl) (fun _ _ => ?_)
    exact V.iret rfl dX11_shop_112 (⟨(), by unfold sel7; rw [if_neg e12_0, if_neg e12_1, if_neg e12_2, if_neg e12_3, if_neg e12_4, if_neg e12_5, if_pos e12_6] <;> rfl, rfl, rfl, trivial⟩)
  refine V.tableOut (tgt := 113) dX11_shop_12 (sw_out 6 (by omega) (fun j hj => by rcases (show j = 0 ∨ j = 1 ∨ j = 2 ∨ j = 3 ∨ j = 4 ∨ j = 5 ∨ j = 6 by omega) with rfl | rfl | rfl | rfl | rfl | rfl | rfl <;> assumption)) (by decide) ?_
  refine V.bipush (v := (-3)) dX11_shop_113 (by decide) ?_
  exact V.iret rfl dX11_shop_115 (⟨(), by unfold sel7; rw [if_neg e12_0, if_neg e12_1, if_neg e12_2, if_neg e12_3, if_neg e12_4, if_neg e12_5, if_neg e12_6] <;> rfl, rfl, rfl, trivial⟩)

set_option maxHeartbeats 4000000 in
set_option maxRecDepth 100000 in
theorem c_M_count (E : vEnv) (l : Launch) (L : List Nat) (h : Nat → va_E) (o : Nat) (mw : Nat) (mk : Nat) (mt : Nat) (mr : Nat) (mki : Nat) (mso : Nat) (mst : Nat) (mpr : Nat) (msh : Nat) (mwa : Nat) (mpu : Nat) (mtx : Nat) (mor : Nat) (mbo : Nat) (tO : Nat) (tVi : Nat) (tSm : Nat) (ma : Int32) (bg : Int32) (wr : Int32) (cl : Int32) (um : Int32) (mn : Int32) (ρ : Nat → MR) (pw : Nat → Int32) (s : NS) (Sh : Nat → Int32) (m : Nat) (Wa : Nat → Int32) (wa : Int32) (n : Nat) (nt : Nat) (y : Int32) (hR : ρ 0 = (pw, s)) (eM : Sh 0 = nI m) (eW : Wa 0 = wa) : CT E l yX11_count cX11_count 2 (some (.int)) 0 0 0 L h [(o, ob 10 [.ref mw, .ref mk, .ref mt, .ref mr, .ref mki, .ref mso, .ref mst, .ref mpr, .ref msh, .ref mwa, .ref mpu, .ref mtx, .int (nI n), .int ma, .int bg, .int wr, .int cl, .int um, .ref mor, .ref mbo, .int mn, .ref tO, .ref tVi, .ref tSm, .int (nI nt)]), (mw, aI E 192 (mW ρ)), (msh, aI E 2 Sh), (mwa, aI E 2 Wa)] [.ref o, .int y] (qP L h (fun (_ : Unit) => [(o, ob 10 [.ref mw, .ref mk, .ref mt, .ref mr, .ref mki, .ref mso, .ref mst, .ref mpr, .ref msh, .ref mwa, .ref mpu, .ref mtx, .int (nI n), .int ma, .int bg, .int wr, .int cl, .int um, .ref mor, .ref mbo, .int mn, .ref tO, .ref tVi, .ref tSm, .int (nI nt)]), (mw, aI E 192 (mW ρ)), (msh, aI E 2 Sh), (mwa, aI E 2 Wa)]) (fun _ => some (.int (sel11 y (nI m) wa s.2.2.2.2.1 s.2.1 s.2.2.1 s.2.2.2.2.2.1 s.2.2.2.1 s.2.2.2.2.2.2.1 (nI nt) um (nI n)))) (fun _ => True)) := by
  refine CT.ofV (by decide +kernel) (Nat.le_of_ble_eq_true rfl) ?_
  refine V.locals2 (lv2 := [(0, .ref o), (1, .int y)]) rfl ?_
  refine V.iload_n dX11_count_0 1 rfl ?_
  by_cases e1_0 : y = 0
  · refine V.topc e1_0 ?_
    refine V.tableIn (tgt := 60) (off := 59) dX11_count_1 (by decide) (by decide) (by decide) (by decide) ?_
    refine V.aload_n dX11_count_60 0 rfl ?_
    refine V.getf 0 8 rfl fa_X11_35_10 rfl dX11_count_61 ?_
    refine V.iconst (v := 0) dX11_count_64 (by decide) ?_
    refine V.iald 2 rfl (vin rfl) dX11_count_65 ?_
    refine V.topc (v := (Sh 0)) (rfl) ?_
    refine V.topc (v := (nI m)) (eM) ?_
    exact V.iret rfl dX11_count_66 (⟨(), by unfold sel11; rw [if_pos e1_0] <;> rfl, rfl, rfl, trivial⟩)
  by_cases e1_1 : y = 1
  · refine V.topc e1_1 ?_
    refine V.tableIn (tgt := 67) (off := 66) dX11_count_1 (by decide) (by decide) (by decide) (by decide) ?_
    refine V.aload_n dX11_count_67 0 rfl ?_
    refine V.getf 0 9 rfl fa_X11_38_10 rfl dX11_count_68 ?_
    refine V.iconst (v := 0) dX11_count_71 (by decide) ?_
    refine V.iald 3 rfl (vin rfl) dX11_count_72 ?_
    refine V.topc (v := (Wa 0)) (rfl) ?_
    refine V.topc (v := wa) (eW) ?_
    exact V.iret rfl dX11_count_73 (⟨(), by unfold sel11; rw [if_neg e1_0, if_pos e1_1] <;> rfl, rfl, rfl, trivial⟩)
  by_cases e1_2 : y = 2
  · refine V.topc e1_2 ?_
    refine V.tableIn (tgt := 74) (off := 73) dX11_count_1 (by decide) (by decide) (by decide) (by decide) ?_
    refine V.aload_n dX11_count_74 0 rfl ?_
    refine V.getf 0 0 rfl fa_X11_7_10 rfl dX11_count_75 ?_
    refine V.bipush (v := 12) dX11_count_78 (by decide) ?_
    refine V.iald 1 rfl (vin rfl) dX11_count_80 ?_
    refine V.topc (v := ((mW ρ) 12)) (rfl) ?_
    refine V.topc (v := s.2.2.2.2.1) (mW_pu (i := 0) hR) ?_
    exact V.iret rfl dX11_count_81 (⟨(), by unfold sel11; rw [if_neg e1_0, if_neg e1_1, if_pos e1_2] <;> rfl, rfl, rfl, trivial⟩)
  by_cases e1_3 : y = 3
  · refine V.topc e1_3 ?_
    refine V.tableIn (tgt := 82) (off := 81) dX11_count_1 (by decide) (by decide) (by decide) (by decide) ?_
    refine V.aload_n dX11_count_82 0 rfl ?_
    refine V.getf 0 0 rfl fa_X11_7_10 rfl dX11_count_83 ?_
    refine V.bipush (v := 10) dX11_count_86 (by decide) ?_
    refine V.iald 1 rfl (vin rfl) dX11_count_88 ?_
    refine V.topc (v := ((mW ρ) 10)) (rfl) ?_
    refine V.topc (v := s.2.1) (mW_no (i := 0) hR) ?_
    exact V.iret rfl dX11_count_89 (⟨(), by unfold sel11; rw [if_neg e1_0, if_neg e1_1, if_neg e1_2, if_pos e1_3] <;> rfl, rfl, rfl, trivial⟩)
  by_cases e1_4 : y = 4
  · refine V.topc e1_4 ?_
    refine V.tableIn (tgt := 90) (off := 89) dX11_count_1 (by decide) (by decide) (by decide) (by decide) ?_
    refine V.aload_n dX11_count_90 0 rfl ?_
    refine V.getf 0 0 rfl fa_X11_7_10 rfl dX11_count_91 ?_
    refine V.bipush (v := 11) dX11_count_94 (by decide) ?_
    refine V.iald 1 rfl (vin rfl) dX11_count_96 ?_
    refine V.topc (v := ((mW ρ) 11)) (rfl) ?_
    refine V.topc (v := s.2.2.1) (mW_st (i := 0) hR) ?_
    exact V.iret rfl dX11_count_97 (⟨(), by unfold sel11; rw [if_neg e1_0, if_neg e1_1, if_neg e1_2, if_neg e1_3, if_pos e1_4] <;> rfl, rfl, rfl, trivial⟩)
  by_cases e1_5 : y = 5
  · refine V.topc e1_5 ?_
    refine V.tableIn (tgt := 98) (off := 97) dX11_count_1 (by decide) (by decide) (by decide) (by decide) ?_
    refine V.aload_n dX11_count_98 0 rfl ?_
    refine V.getf 0 0 rfl fa_X11_7_10 rfl dX11_count_99 ?_
    refine V.bipush (v := 13) dX11_count_102 (by decide) ?_
    refine V.iald 1 rfl (vin rfl) dX11_count_104 ?_
    refine V.topc (v := ((mW ρ) 13)) (rfl) ?_
    refine V.topc (v := s.2.2.2.2.2.1) (mW_bo (i := 0) hR) ?_
    exact V.iret rfl dX11_count_105 (⟨(), by unfold sel11; rw [if_neg e1_0, if_neg e1_1, if_neg e1_2, if_neg e1_3, if_neg e1_4, if_pos e1_5] <;> rfl, rfl, rfl, trivial⟩)
  by_cases e1_6 : y = 6
  · refine V.topc e1_6 ?_
    refine V.tableIn (tgt := 106) (off := 105) dX11_count_1 (by decide) (by decide) (by decide) (by decide) ?_
    refine V.aload_n dX11_count_106 0 rfl ?_
    refine V.getf 0 0 rfl fa_X11_7_10 rfl dX11_count_107 ?_
    refine V.bipush (v := 14) dX11_count_110 (by decide) ?_
    refine V.iald 1 rfl (vin rfl) dX11_count_112 ?_
    refine V.topc (v := ((mW ρ) 14)) (rfl) ?_
    refine V.topc (v := s.2.2.2.1) (mW_co (i := 0) hR) ?_
    exact V.iret rfl dX11_count_113 (⟨(), by unfold sel11; rw [if_neg e1_0, if_neg e1_1, if_neg e1_2, if_neg e1_3, if_neg e1_4, if_neg e1_5, if_pos e1_6] <;> rfl, rfl, rfl, trivial⟩)
  by_cases e1_7 : y = 7
  · refine V.topc e1_7 ?_
    refine V.tableIn (tgt := 114) (off := 113) dX11_count_1 (by decide) (by decide) (by decide) (by decide) ?_
    refine V.aload_n dX11_count_114 0 rfl ?_
    refine V.getf 0 0 rfl fa_X11_7_10 rfl dX11_count_115 ?_
    refine V.bipush (v := 15) dX11_count_118 (by decide) ?_
    refine V.iald 1 rfl (vin rfl) dX11_count_120 ?_
    refine V.topc (v := ((mW ρ) 15)) (rfl) ?_
    refine V.topc (v := s.2.2.2.2.2.2.1) (mW_sm (i := 0) hR) ?_
    exact V.iret rfl dX11_count_121 (⟨(), by unfold sel11; rw [if_neg e1_0, if_neg e1_1, if_neg e1_2, if_neg e1_3, if_neg e1_4, if_neg e1_5, if_neg e1_6, if_pos e1_7] <;> rfl, rfl, rfl, trivial⟩)
  by_cases e1_8 : y = 8
  · refine V.topc e1_8 ?_
    refine V.tableIn (tgt := 122) (off := 121) dX11_count_1 (by decide) (by decide) (by decide) (by decide) ?_
    refine V.aload_n dX11_count_122 0 rfl ?_
    refine V.getf 0 24 rfl fa_X11_136_10 rfl dX11_count_123 ?_
    exact V.iret rfl dX11_count_126 (⟨(), by unfold sel11; rw [if_neg e1_0, if_neg e1_1, if_neg e1_2, if_neg e1_3, if_neg e1_4, if_neg e1_5, if_neg e1_6, if_neg e1_7, if_pos e1_8] <;> rfl, rfl, rfl, trivial⟩)
  by_cases e1_9 : y = 9
  · refine V.topc e1_9 ?_
    refine V.tableIn (tgt := 127) (off := 126) dX11_count_1 (by decide) (by decide) (by decide) (by decide) ?_
    refine V.aload_n dX11_count_127 0 rfl ?_
    refine V.getf 0 17 rfl fa_X11_139_10 rfl dX11_count_128 ?_
    exact V.iret rfl dX11_count_131 (⟨(), by unfold sel11; rw [if_neg e1_0, if_neg e1_1, if_neg e1_2, if_neg e1_3, if_neg e1_4, if_neg e1_5, if_neg e1_6, if_neg e1_7, if_neg e1_8, if_pos e1_9] <;> rfl, rfl, rfl, trivial⟩)
  by_cases e1_10 : y = 10
  · refine V.topc e1_10 ?_
    refine V.tableIn (tgt := 132) (off := 131) dX11_count_1 (by decide) (by decide) (by decide) (by decide) ?_
    refine V.aload_n dX11_count_132 0 rfl ?_
    refine V.getf 0 12 rfl fa_X11_72_10 rfl dX11_count_133 ?_
    exact V.iret rfl dX11_count_136 (⟨(), by unfold sel11; rw [if_neg e1_0, if_neg e1_1, if_neg e1_2, if_neg e1_3, if_neg e1_4, if_neg e1_5, if_neg e1_6, if_neg e1_7, if_neg e1_8, if_neg e1_9, if_pos e1_10] <;> rfl, rfl, rfl, trivial⟩)
  refine V.tableOut (tgt := 137) dX11_count_1 (sw_out 10 (by omega) (fun j hj => by rcases (show j = 0 ∨ j = 1 ∨ j = 2 ∨ j = 3 ∨ j = 4 ∨ j = 5 ∨ j = 6 ∨ j = 7 ∨ j = 8 ∨ j = 9 ∨ j = 10 by omega) with rfl | rfl | rfl | rfl | rfl | rfl | rfl | rfl | rfl | rfl | rfl <;> assumption)) (by decide) ?_
  refine V.bipush (v := (-3)) dX11_count_137 (by decide) ?_
  exact V.iret rfl dX11_count_139 (⟨(), by unfold sel11; rw [if_neg e1_0, if_neg e1_1, if_neg e1_2, if_neg e1_3, if_neg e1_4, if_neg e1_5, if_neg e1_6, if_neg e1_7, if_neg e1_8, if_neg e1_9, if_neg e1_10] <;> rfl, rfl, rfl, trivial⟩)

set_option maxHeartbeats 4000000 in
set_option maxRecDepth 100000 in
theorem c_M_forget (E : vEnv) (l : Launch) (L : List Nat) (h : Nat → va_E) (o : Nat) (mw : Nat) (mk : Nat) (mt : Nat) (mr : Nat) (mki : Nat) (mso : Nat) (mst : Nat) (mpr : Nat) (msh : Nat) (mwa : Nat) (mpu : Nat) (mtx : Nat) (mor : Nat) (mbo : Nat) (tO : Nat) (tVi : Nat) (tSm : Nat) (ts : Int32) (ma : Int32) (bg : Int32) (wr : Int32) (cl : Int32) (um : Int32) (mn : Int32) (tm : Int32) : CT E l yX11_forget cX11_forget 2 (some (.int)) 0 0 0 L h [(o, ob 10 [.ref mw, .ref mk, .ref mt, .ref mr, .ref mki, .ref mso, .ref mst, .ref mpr, .ref msh, .ref mwa, .ref mpu, .ref mtx, .int ts, .int ma, .int bg, .int wr, .int cl, .int um, .ref mor, .ref mbo, .int mn, .ref tO, .ref tVi, .ref tSm, .int tm])] [.ref o] (qP L h (fun (_ : Unit) => [(o, ob 10 [.ref mw, .ref mk, .ref mt, .ref mr, .ref mki, .ref mso, .ref mst, .ref mpr, .ref msh, .ref mwa, .ref mpu, .ref mtx, .int ts, .int ma, .int bg, .int wr, .int cl, .int um, .ref mor, .ref mbo, .int mn, .ref tO, .ref tVi, .ref tSm, .int 0])]) (fun _ => some (.int tm)) (fun _ => True)) := by
  refine CT.ofV (by decide +kernel) (Nat.le_of_ble_eq_true rfl) ?_
  refine V.locals2 (lv2 := [(0, .ref o)]) rfl ?_
  refine V.aload_n dX11_forget_0 0 rfl ?_
  refine V.getf 0 24 rfl fa_X11_136_10 rfl dX11_forget_1 ?_
  refine V.istore_n (lv2 := [(1, .int tm), (0, .ref o)]) dX11_forget_4 rfl (by decide) rfl ?_
  refine V.aload_n dX11_forget_5 1 rfl ?_
  refine V.iconst (v := 0) dX11_forget_6 (by decide) ?_
  refine V.putf 0 24 (vw2 := [(o, ob 10 [.ref mw, .ref mk, .ref mt, .ref mr, .ref mki, .ref mso, .ref mst, .ref mpr, .ref msh, .ref mwa, .ref mpu, .ref mtx, .int ts, .int ma, .int bg, .int wr, .int cl, .int um, .ref mor, .ref mbo, .int mn, .ref tO, .ref tVi, .ref tSm, .int 0])]) rfl fp_X11_136_10 rfl rfl (Nat.le_of_ble_eq_true rfl) rfl dX11_forget_7 ?_
  refine V.iload_n dX11_forget_10 0 rfl ?_
  exact V.iret rfl dX11_forget_11 (⟨(), rfl, rfl, rfl, trivial⟩)

set_option maxHeartbeats 4000000 in
set_option maxRecDepth 100000 in
theorem c_M_tellsU (E : vEnv) (l : Launch) (L : List Nat) (h : Nat → va_E) (o : Nat) (mw : Nat) (mk : Nat) (mt : Nat) (mr : Nat) (mki : Nat) (mso : Nat) (mst : Nat) (mpr : Nat) (msh : Nat) (mwa : Nat) (mpu : Nat) (mtx : Nat) (mor : Nat) (mbo : Nat) (tO : Nat) (tVi : Nat) (tSm : Nat) (ts : Int32) (ma : Int32) (bg : Int32) (wr : Int32) (cl : Int32) (um : Int32) (mn : Int32) (tm : Int32) (Sh : Nat → Int32) (m : Nat) (x : Int32) (y : Int32) (z : Int32) (eM : Sh 0 = nI m) (hm : m ≤ 6) (hx : withinI x 0 (nI m - 1) = 0) : CT E l yX11_tells cX11_tells 4 (some (.int)) 2 0 0 L h [(o, ob 10 [.ref mw, .ref mk, .ref mt, .ref mr, .ref mki, .ref mso, .ref mst, .ref mpr, .ref msh, .ref mwa, .ref mpu, .ref mtx, .int ts, .int ma, .int bg, .int wr, .int cl, .int um, .ref mor, .ref mbo, .int mn, .ref tO, .ref tVi, .ref tSm, .int tm]), (msh, aI E 2 Sh)] [.ref o, .int x, .int y, .int z] (qP L h (fun (_ : Unit) => [(o, ob 10 [.ref mw, .ref mk, .ref mt, .ref mr, .ref mki, .ref mso, .ref mst, .ref mpr, .ref msh, .ref mwa, .ref mpu, .ref mtx, .int ts, .int ma, .int bg, .int wr, .int cl, .int um, .ref mor, .ref mbo, .int mn, .ref tO, .ref tVi, .ref tSm, .int tm]), (msh, aI E 2 Sh)]) (fun _ => some (.int (-2))) (fun _ => True)) := by
  refine CT.ofV (by decide +kernel) (Nat.le_of_ble_eq_true rfl) ?_
  refine V.locals2 (lv2 := [(0, .ref o), (1, .int x), (2, .int y), (3, .int z)]) rfl ?_
  refine V.aload_n dX11_tells_0 0 rfl ?_
  refine V.iload_n dX11_tells_1 1 rfl ?_
  refine V.callVp (As := [.int x]) (rest := []) [0, 1] (c_M_isShop E l L _ o mw mk mt mr mki mso mst mpr msh mwa mpu mtx mor mbo tO tVi tSm ts ma bg wr cl um mn tm Sh m x (eM) (hm)) rfl (by decide) mi_X11_isShop 0 rfl rfl w_860 w_862 wp_17 rfl rfl (Nat.le_of_ble_eq_true rfl) ⟨by decide, by decide⟩ ⟨by decide, by decide⟩ dX11_tells_2 (vw2 := fun _ => [(o, ob 10 [.ref mw, .ref mk, .ref mt, .ref mr, .ref mki, .ref mso, .ref mst, .ref mpr, .ref msh, .ref mwa, .ref mpu, .ref mtx, .int ts, .int ma, .int bg, .int wr, .int cl, .int um, .ref mor, .ref mbo, .int mn, .ref tO, .ref tVi, .ref tSm, .int tm]), (msh, aI E 2 Sh)]) (st2 := fun _ => [.int (withinI x 0 (nI m - 1))]) (fun _ => rfl) (fun _ => rfl) (fun _ => rfl) (fun _ _ => ?_)
  refine V.topc (v := 0) (hx) ?_
  refine V.if_ne (tgt := 11) dX11_tells_5 (by decide) (fun hc => absurd (by decide) hc) (fun _ => ?_)
  refine V.bipush (v := (-2)) dX11_tells_8 (by decide) ?_
  exact V.iret rfl dX11_tells_10 (⟨(), rfl, rfl, rfl, trivial⟩)

set_option maxHeartbeats 4000000 in
set_option maxRecDepth 100000 in
theorem c_M_tellsO1 (E : vEnv) (l : Launch) (L : List Nat) (h : Nat → va_E) (o : Nat) (mw : Nat) (mk : Nat) (mt : Nat) (mr : Nat) (mki : Nat) (mso : Nat) (mst : Nat) (mpr : Nat) (msh : Nat) (mwa : Nat) (mpu : Nat) (mtx : Nat) (mor : Nat) (mbo : Nat) (tO : Nat) (tVi : Nat) (tSm : Nat) (ts : Int32) (ma : Int32) (bg : Int32) (wr : Int32) (cl : Int32) (um : Int32) (mn : Int32) (tm : Int32) (Sh : Nat → Int32) (m : Nat) (k : Nat) (y : Int32) (z : Int32) (eM : Sh 0 = nI m) (hm : m ≤ 6) (hkm : k < m) (hy : withinI y 0 9 = 0) : CT E l yX11_tells cX11_tells 4 (some (.int)) 2 0 0 L h [(o, ob 10 [.ref mw, .ref mk, .ref mt, .ref mr, .ref mki, .ref mso, .ref mst, .ref mpr, .ref msh, .ref mwa, .ref mpu, .ref mtx, .int ts, .int ma, .int bg, .int wr, .int cl, .int um, .ref mor, .ref mbo, .int mn, .ref tO, .ref tVi, .ref tSm, .int tm]), (msh, aI E 2 Sh)] [.ref o, .int (nI k), .int y, .int z] (qP L h (fun (_ : Unit) => [(o, ob 10 [.ref mw, .ref mk, .ref mt, .ref mr, .ref mki, .ref mso, .ref mst, .ref mpr, .ref msh, .ref mwa, .ref mpu, .ref mtx, .int ts, .int ma, .int bg, .int wr, .int cl, .int um, .ref mor, .ref mbo, .int mn, .ref tO, .ref tVi, .ref tSm, .int tm]), (msh, aI E 2 Sh)]) (fun _ => some (.int (-3))) (fun _ => True)) := by
  refine CT.ofV (by decide +kernel) (Nat.le_of_ble_eq_true rfl) ?_
  refine V.locals2 (lv2 := [(0, .ref o), (1, .int (nI k)), (2, .int y), (3, .int z)]) rfl ?_
  refine V.aload_n dX11_tells_0 0 rfl ?_
  refine V.iload_n dX11_tells_1 1 rfl ?_
  refine V.callVp (As := [.int (nI k)]) (rest := []) [0, 1] (c_M_isShop E l L _ o mw mk mt mr mki mso mst mpr msh mwa mpu mtx mor mbo tO tVi tSm ts ma bg wr cl um mn tm Sh m ((nI k)) (eM) (hm)) rfl (by decide) mi_X11_isShop 0 rfl rfl w_860 w_862 wp_17 rfl rfl (Nat.le_of_ble_eq_true rfl) ⟨by decide, by decide⟩ ⟨by decide, by decide⟩ dX11_tells_2 (vw2 := fun _ => [(o, ob 10 [.ref mw, .ref mk, .ref mt, .ref mr, .ref mki, .ref mso, .ref mst, .ref mpr, .ref msh, .ref mwa, .ref mpu, .ref mtx, .int ts, .int ma, .int bg, .int wr, .int cl, .int um, .ref mor, .ref mbo, .int mn, .ref tO, .ref tVi, .ref tSm, .int tm]), (msh, aI E 2 Sh)]) (st2 := fun _ => [.int (withinI (nI k) 0 (nI m - 1))]) (fun _ => rfl) (fun _ => rfl) (fun _ => rfl) (fun _ _ => ?_)
  refine V.topc (v := 1) (within_nI hkm (by omega)) ?_
  refine V.if_ne (tgt := 11) dX11_tells_5 (by decide) (fun _ => ?_) (fun hc => absurd hc (by decide))
  refine V.iload_n dX11_tells_11 2 rfl ?_
  refine V.i2l dX11_tells_12 ?_
  refine V.lconst (v := 0) dX11_tells_13 (by decide) ?_
  refine V.stack (st2 := [.long (Int32.toInt64 0), .long (Int32.toInt64 y)]) (congrArg (fun z64 => Value.long z64 :: [.long (Int32.toInt64 y)]) (show (0 : Int64) = Int32.toInt64 0 by decide)) ?_
  refine V.ldc2 dX11_tells_14 w_1005 ?_
  refine V.stack (st2 := [.long (Int32.toInt64 9), .long (Int32.toInt64 0), .long (Int32.toInt64 y)]) (congrArg (fun z64 => Value.long z64 :: [.long (Int32.toInt64 0), .long (Int32.toInt64 y)]) (show (9 : Int64) = Int32.toInt64 9 by decide)) ?_
  refine V.callSp (As := [.long (Int32.toInt64 y), .long (Int32.toInt64 0), .long (Int32.toInt64 9)]) (rest := []) [] (c_M_in E l L _ y 0 9) rfl (by decide) mi_X11_in w_789 w_790 rfl rfl (Nat.le_of_ble_eq_true rfl) ⟨by decide, by decide⟩ ⟨by decide, by decide⟩ dX11_tells_17 (vw2 := fun _ => [(o, ob 10 [.ref mw, .ref mk, .ref mt, .ref mr, .ref mki, .ref mso, .ref mst, .ref mpr, .ref msh, .ref mwa, .ref mpu, .ref mtx, .int ts, .int ma, .int bg, .int wr, .int cl, .int um, .ref mor, .ref mbo, .int mn, .ref tO, .ref tVi, .ref tSm, .int tm]), (msh, aI E 2 Sh)]) (st2 := fun _ => [.int (withinI y 0 9)]) (fun _ => rfl) (fun _ => rfl) (fun _ => rfl) (fun _ _ => ?_)
  refine V.topc (v := 0) (hy) ?_
  refine V.if_eq (tgt := 35) dX11_tells_20 (by decide) (fun _ => ?_) (fun hc => absurd (by decide) hc)
  refine V.bipush (v := (-3)) dX11_tells_35 (by decide) ?_
  exact V.iret rfl dX11_tells_37 (⟨(), rfl, rfl, rfl, trivial⟩)

set_option maxHeartbeats 4000000 in
set_option maxRecDepth 100000 in
theorem c_M_tellsO2 (E : vEnv) (l : Launch) (L : List Nat) (h : Nat → va_E) (o : Nat) (mw : Nat) (mk : Nat) (mt : Nat) (mr : Nat) (mki : Nat) (mso : Nat) (mst : Nat) (mpr : Nat) (msh : Nat) (mwa : Nat) (mpu : Nat) (mtx : Nat) (mor : Nat) (mbo : Nat) (tO : Nat) (tVi : Nat) (tSm : Nat) (ts : Int32) (ma : Int32) (bg : Int32) (wr : Int32) (cl : Int32) (um : Int32) (mn : Int32) (tm : Int32) (Sh : Nat → Int32) (m : Nat) (k : Nat) (y : Int32) (z : Int32) (eM : Sh 0 = nI m) (hm : m ≤ 6) (hkm : k < m) (hy : withinI y 0 9 = 1) (hz : withinI z 0 30 = 0) : CT E l yX11_tells cX11_tells 4 (some (.int)) 2 0 0 L h [(o, ob 10 [.ref mw, .ref mk, .ref mt, .ref mr, .ref mki, .ref mso, .ref mst, .ref mpr, .ref msh, .ref mwa, .ref mpu, .ref mtx, .int ts, .int ma, .int bg, .int wr, .int cl, .int um, .ref mor, .ref mbo, .int mn, .ref tO, .ref tVi, .ref tSm, .int tm]), (msh, aI E 2 Sh)] [.ref o, .int (nI k), .int y, .int z] (qP L h (fun (_ : Unit) => [(o, ob 10 [.ref mw, .ref mk, .ref mt, .ref mr, .ref mki, .ref mso, .ref mst, .ref mpr, .ref msh, .ref mwa, .ref mpu, .ref mtx, .int ts, .int ma, .int bg, .int wr, .int cl, .int um, .ref mor, .ref mbo, .int mn, .ref tO, .ref tVi, .ref tSm, .int tm]), (msh, aI E 2 Sh)]) (fun _ => some (.int (-3))) (fun _ => True)) := by
  refine CT.ofV (by decide +kernel) (Nat.le_of_ble_eq_true rfl) ?_
  refine V.locals2 (lv2 := [(0, .ref o), (1, .int (nI k)), (2, .int y), (3, .int z)]) rfl ?_
  refine V.aload_n dX11_tells_0 0 rfl ?_
  refine V.iload_n dX11_tells_1 1 rfl ?_
  refine V.callVp (As := [.int (nI k)]) (rest := []) [0, 1] (c_M_isShop E l L _ o mw mk mt mr mki mso mst mpr msh mwa mpu mtx mor mbo tO tVi tSm ts ma bg wr cl um mn tm Sh m ((nI k)) (eM) (hm)) rfl (by decide) mi_X11_isShop 0 rfl rfl w_860 w_862 wp_17 rfl rfl (Nat.le_of_ble_eq_true rfl) ⟨by decide, by decide⟩ ⟨by decide, by decide⟩ dX11_tells_2 (vw2 := fun _ => [(o, ob 10 [.ref mw, .ref mk, .ref mt, .ref mr, .ref mki, .ref mso, .ref mst, .ref mpr, .ref msh, .ref mwa, .ref mpu, .ref mtx, .int ts, .int ma, .int bg, .int wr, .int cl, .int um, .ref mor, .ref mbo, .int mn, .ref tO, .ref tVi, .ref tSm, .int tm]), (msh, aI E 2 Sh)]) (st2 := fun _ => [.int (withinI (nI k) 0 (nI m - 1))]) (fun _ => rfl) (fun _ => rfl) (fun _ => rfl) (fun _ _ => ?_)
  refine V.topc (v := 1) (within_nI hkm (by omega)) ?_
  refine V.if_ne (tgt := 11) dX11_tells_5 (by decide) (fun _ => ?_) (fun hc => absurd hc (by decide))
  refine V.iload_n dX11_tells_11 2 rfl ?_
  refine V.i2l dX11_tells_12 ?_
  refine V.lconst (v := 0) dX11_tells_13 (by decide) ?_
  refine V.stack (st2 := [.long (Int32.toInt64 0), .long (Int32.toInt64 y)]) (congrArg (fun z64 => Value.long z64 :: [.long (Int32.toInt64 y)]) (show (0 : Int64) = Int32.toInt64 0 by decide)) ?_
  refine V.ldc2 dX11_tells_14 w_1005 ?_
  refine V.stack (st2 := [.long (Int32.toInt64 9), .long (Int32.toInt64 0), .long (Int32.toInt64 y)]) (congrArg (fun z64 => Value.long z64 :: [.long (Int32.toInt64 0), .long (Int32.toInt64 y)]) (show (9 : Int64) = Int32.toInt64 9 by decide)) ?_
  refine V.callSp (As := [.long (Int32.toInt64 y), .long (Int32.toInt64 0), .long (Int32.toInt64 9)]) (rest := []) [] (c_M_in E l L _ y 0 9) rfl (by decide) mi_X11_in w_789 w_790 rfl rfl (Nat.le_of_ble_eq_true rfl) ⟨by decide, by decide⟩ ⟨by decide, by decide⟩ dX11_tells_17 (vw2 := fun _ => [(o, ob 10 [.ref mw, .ref mk, .ref mt, .ref mr, .ref mki, .ref mso, .ref mst, .ref mpr, .ref msh, .ref mwa, .ref mpu, .ref mtx, .int ts, .int ma, .int bg, .int wr, .int cl, .int um, .ref mor, .ref mbo, .int mn, .ref tO, .ref tVi, .ref tSm, .int tm]), (msh, aI E 2 Sh)]) (st2 := fun _ => [.int (withinI y 0 9)]) (fun _ => rfl) (fun _ => rfl) (fun _ => rfl) (fun _ _ => ?_)
  refine V.topc (v := 1) (hy) ?_
  refine V.if_eq (tgt := 35) dX11_tells_20 (by decide) (fun hc => absurd hc (by decide)) (fun _ => ?_)
  refine V.iload_n dX11_tells_23 3 rfl ?_
  refine V.i2l dX11_tells_24 ?_
  refine V.lconst (v := 0) dX11_tells_25 (by decide) ?_
  refine V.stack (st2 := [.long (Int32.toInt64 0), .long (Int32.toInt64 z)]) (congrArg (fun z64 => Value.long z64 :: [.long (Int32.toInt64 z)]) (show (0 : Int64) = Int32.toInt64 0 by decide)) ?_
  refine V.ldc2 dX11_tells_26 w_945 ?_
  refine V.stack (st2 := [.long (Int32.toInt64 30), .long (Int32.toInt64 0), .long (Int32.toInt64 z)]) (congrArg (fun z64 => Value.long z64 :: [.long (Int32.toInt64 0), .long (Int32.toInt64 z)]) (show (30 : Int64) = Int32.toInt64 30 by decide)) ?_
  refine V.callSp (As := [.long (Int32.toInt64 z), .long (Int32.toInt64 0), .long (Int32.toInt64 30)]) (rest := []) [] (c_M_in E l L _ z 0 30) rfl (by decide) mi_X11_in w_789 w_790 rfl rfl (Nat.le_of_ble_eq_true rfl) ⟨by decide, by decide⟩ ⟨by decide, by decide⟩ dX11_tells_29 (vw2 := fun _ => [(o, ob 10 [.ref mw, .ref mk, .ref mt, .ref mr, .ref mki, .ref mso, .ref mst, .ref mpr, .ref msh, .ref mwa, .ref mpu, .ref mtx, .int ts, .int ma, .int bg, .int wr, .int cl, .int um, .ref mor, .ref mbo, .int mn, .ref tO, .ref tVi, .ref tSm, .int tm]), (msh, aI E 2 Sh)]) (st2 := fun _ => [.int (withinI z 0 30)]) (fun _ => rfl) (fun _ => rfl) (fun _ => rfl) (fun _ _ => ?_)
  refine V.topc (v := 0) (hz) ?_
  refine V.if_ne (tgt := 38) dX11_tells_32 (by decide) (fun hc => absurd (by decide) hc) (fun _ => ?_)
  refine V.bipush (v := (-3)) dX11_tells_35 (by decide) ?_
  exact V.iret rfl dX11_tells_37 (⟨(), rfl, rfl, rfl, trivial⟩)

set_option maxHeartbeats 4000000 in
set_option maxRecDepth 100000 in
theorem c_M_tellsF (E : vEnv) (l : Launch) (L : List Nat) (h : Nat → va_E) (o : Nat) (mw : Nat) (mk : Nat) (mt : Nat) (mr : Nat) (mki : Nat) (mso : Nat) (mst : Nat) (mpr : Nat) (msh : Nat) (mwa : Nat) (mpu : Nat) (mtx : Nat) (mor : Nat) (mbo : Nat) (tO : Nat) (tVi : Nat) (tSm : Nat) (ts : Int32) (ma : Int32) (bg : Int32) (wr : Int32) (cl : Int32) (um : Int32) (mn : Int32) (Sh : Nat → Int32) (m : Nat) (k : Nat) (y : Int32) (z : Int32) (eM : Sh 0 = nI m) (hm : m ≤ 6) (hkm : k < m) (hy : withinI y 0 9 = 1) (hz : withinI z 0 30 = 1) : CT E l yX11_tells cX11_tells 4 (some (.int)) 2 0 0 L h [(o, ob 10 [.ref mw, .ref mk, .ref mt, .ref mr, .ref mki, .ref mso, .ref mst, .ref mpr, .ref msh, .ref mwa, .ref mpu, .ref mtx, .int ts, .int ma, .int bg, .int wr, .int cl, .int um, .ref mor, .ref mbo, .int mn, .ref tO, .ref tVi, .ref tSm, .int 6]), (msh, aI E 2 Sh)] [.ref o, .int (nI k), .int y, .int z] (qP L h (fun (_ : Unit) => [(o, ob 10 [.ref mw, .ref mk, .ref mt, .ref mr, .ref mki, .ref mso, .ref mst, .ref mpr, .ref msh, .ref mwa, .ref mpu, .ref mtx, .int ts, .int ma, .int bg, .int wr, .int cl, .int um, .ref mor, .ref mbo, .int mn, .ref tO, .ref tVi, .ref tSm, .int 6]), (msh, aI E 2 Sh)]) (fun _ => some (.int (-5))) (fun _ => True)) := by
  refine CT.ofV (by decide +kernel) (Nat.le_of_ble_eq_true rfl) ?_
  refine V.locals2 (lv2 := [(0, .ref o), (1, .int (nI k)), (2, .int y), (3, .int z)]) rfl ?_
  refine V.aload_n dX11_tells_0 0 rfl ?_
  refine V.iload_n dX11_tells_1 1 rfl ?_
  refine V.callVp (As := [.int (nI k)]) (rest := []) [0, 1] (c_M_isShop E l L _ o mw mk mt mr mki mso mst mpr msh mwa mpu mtx mor mbo tO tVi tSm ts ma bg wr cl um mn 6 Sh m ((nI k)) (eM) (hm)) rfl (by decide) mi_X11_isShop 0 rfl rfl w_860 w_862 wp_17 rfl rfl (Nat.le_of_ble_eq_true rfl) ⟨by decide, by decide⟩ ⟨by decide, by decide⟩ dX11_tells_2 (vw2 := fun _ => [(o, ob 10 [.ref mw, .ref mk, .ref mt, .ref mr, .ref mki, .ref mso, .ref mst, .ref mpr, .ref msh, .ref mwa, .ref mpu, .ref mtx, .int ts, .int ma, .int bg, .int wr, .int cl, .int um, .ref mor, .ref mbo, .int mn, .ref tO, .ref tVi, .ref tSm, .int 6]), (msh, aI E 2 Sh)]) (st2 := fun _ => [.int (withinI (nI k) 0 (nI m - 1))]) (fun _ => rfl) (fun _ => rfl) (fun _ => rfl) (fun _ _ => ?_)
  refine V.topc (v := 1) (within_nI hkm (by omega)) ?_
  refine V.if_ne (tgt := 11) dX11_tells_5 (by decide) (fun _ => ?_) (fun hc => absurd hc (by decide))
  refine V.iload_n dX11_tells_11 2 rfl ?_
  refine V.i2l dX11_tells_12 ?_
  refine V.lconst (v := 0) dX11_tells_13 (by decide) ?_
  refine V.stack (st2 := [.long (Int32.toInt64 0), .long (Int32.toInt64 y)]) (congrArg (fun z64 => Value.long z64 :: [.long (Int32.toInt64 y)]) (show (0 : Int64) = Int32.toInt64 0 by decide)) ?_
  refine V.ldc2 dX11_tells_14 w_1005 ?_
  refine V.stack (st2 := [.long (Int32.toInt64 9), .long (Int32.toInt64 0), .long (Int32.toInt64 y)]) (congrArg (fun z64 => Value.long z64 :: [.long (Int32.toInt64 0), .long (Int32.toInt64 y)]) (show (9 : Int64) = Int32.toInt64 9 by decide)) ?_
  refine V.callSp (As := [.long (Int32.toInt64 y), .long (Int32.toInt64 0), .long (Int32.toInt64 9)]) (rest := []) [] (c_M_in E l L _ y 0 9) rfl (by decide) mi_X11_in w_789 w_790 rfl rfl (Nat.le_of_ble_eq_true rfl) ⟨by decide, by decide⟩ ⟨by decide, by decide⟩ dX11_tells_17 (vw2 := fun _ => [(o, ob 10 [.ref mw, .ref mk, .ref mt, .ref mr, .ref mki, .ref mso, .ref mst, .ref mpr, .ref msh, .ref mwa, .ref mpu, .ref mtx, .int ts, .int ma, .int bg, .int wr, .int cl, .int um, .ref mor, .ref mbo, .int mn, .ref tO, .ref tVi, .ref tSm, .int 6]), (msh, aI E 2 Sh)]) (st2 := fun _ => [.int (withinI y 0 9)]) (fun _ => rfl) (fun _ => rfl) (fun _ => rfl) (fun _ _ => ?_)
  refine V.topc (v := 1) (hy) ?_
  refine V.if_eq (tgt := 35) dX11_tells_20 (by decide) (fun hc => absurd hc (by decide)) (fun _ => ?_)
  refine V.iload_n dX11_tells_23 3 rfl ?_
  refine V.i2l dX11_tells_24 ?_
  refine V.lconst (v := 0) dX11_tells_25 (by decide) ?_
  refine V.stack (st2 := [.long (Int32.toInt64 0), .long (Int32.toInt64 z)]) (congrArg (fun z64 => Value.long z64 :: [.long (Int32.toInt64 z)]) (show (0 : Int64) = Int32.toInt64 0 by decide)) ?_
  refine V.ldc2 dX11_tells_26 w_945 ?_
  refine V.stack (st2 := [.long (Int32.toInt64 30), .long (Int32.toInt64 0), .long (Int32.toInt64 z)]) (congrArg (fun z64 => Value.long z64 :: [.long (Int32.toInt64 0), .long (Int32.toInt64 z)]) (show (30 : Int64) = Int32.toInt64 30 by decide)) ?_
  refine V.callSp (As := [.long (Int32.toInt64 z), .long (Int32.toInt64 0), .long (Int32.toInt64 30)]) (rest := []) [] (c_M_in E l L _ z 0 30) rfl (by decide) mi_X11_in w_789 w_790 rfl rfl (Nat.le_of_ble_eq_true rfl) ⟨by decide, by decide⟩ ⟨by decide, by decide⟩ dX11_tells_29 (vw2 := fun _ => [(o, ob 10 [.ref mw, .ref mk, .ref mt, .ref mr, .ref mki, .ref mso, .ref mst, .ref mpr, .ref msh, .ref mwa, .ref mpu, .ref mtx, .int ts, .int ma, .int bg, .int wr, .int cl, .int um, .ref mor, .ref mbo, .int mn, .ref tO, .ref tVi, .ref tSm, .int 6]), (msh, aI E 2 Sh)]) (st2 := fun _ => [.int (withinI z 0 30)]) (fun _ => rfl) (fun _ => rfl) (fun _ => rfl) (fun _ _ => ?_)
  refine V.topc (v := 1) (hz) ?_
  refine V.if_ne (tgt := 38) dX11_tells_32 (by decide) (fun _ => ?_) (fun hc => absurd hc (by decide))
  refine V.aload_n dX11_tells_38 0 rfl ?_
  refine V.getf 0 24 rfl fa_X11_136_10 rfl dX11_tells_39 ?_
  refine V.bipush (v := 6) dX11_tells_42 (by decide) ?_
  refine V.icmp_ne (tgt := 50) dX11_tells_44 (by decide) (fun hc => absurd (by decide) hc) (fun _ => ?_)
  refine V.bipush (v := (-5)) dX11_tells_47 (by decide) ?_
  exact V.iret rfl dX11_tells_49 (⟨(), rfl, rfl, rfl, trivial⟩)

set_option maxHeartbeats 4000000 in
set_option maxRecDepth 100000 in
theorem c_M_tells (E : vEnv) (l : Launch) (L : List Nat) (h : Nat → va_E) (o : Nat) (mw : Nat) (mk : Nat) (mt : Nat) (mr : Nat) (mki : Nat) (mso : Nat) (mst : Nat) (mpr : Nat) (msh : Nat) (mwa : Nat) (mpu : Nat) (mtx : Nat) (mor : Nat) (mbo : Nat) (tO : Nat) (tVi : Nat) (tSm : Nat) (ts : Int32) (ma : Int32) (bg : Int32) (wr : Int32) (cl : Int32) (um : Int32) (mn : Int32) (Sh : Nat → Int32) (m : Nat) (k : Nat) (n : Nat) (fS : Nat → Int32) (fV : Nat → Int32) (fM : Nat → Int32) (y : Int32) (z : Int32) (eM : Sh 0 = nI m) (hm : m ≤ 6) (hkm : k < m) (hy : withinI y 0 9 = 1) (hz : withinI z 0 30 = 1) (hn : n < 6) : CT E l yX11_tells cX11_tells 4 (some (.int)) 2 0 0 L h [(o, ob 10 [.ref mw, .ref mk, .ref mt, .ref mr, .ref mki, .ref mso, .ref mst, .ref mpr, .ref msh, .ref mwa, .ref mpu, .ref mtx, .int ts, .int ma, .int bg, .int wr, .int cl, .int um, .ref mor, .ref mbo, .int mn, .ref tO, .ref tVi, .ref tSm, .int (nI n)]), (msh, aI E 2 Sh), (tO, aI E 6 fS), (tVi, aI E 6 fV), (tSm, aI E 6 fM)] [.ref o, .int (nI k), .int y, .int z] (qP L h (fun (_ : Unit) => [(o, ob 10 [.ref mw, .ref mk, .ref mt, .ref mr, .ref mki, .ref mso, .ref mst, .ref mpr, .ref msh, .ref mwa, .ref mpu, .ref mtx, .int ts, .int ma, .int bg, .int wr, .int cl, .int um, .ref mor, .ref mbo, .int mn, .ref tO, .ref tVi, .ref tSm, .int (nI (n + 1))]), (msh, aI E 2 Sh), (tO, aI E 6 (upd fS n (nI k))), (tVi, aI E 6 (upd fV n y)), (tSm, aI E 6 (upd fM n z))]) (fun _ => some (.int (nI (n + 1)))) (fun _ => True)) := by
  refine CT.ofV (by decide +kernel) (Nat.le_of_ble_eq_true rfl) ?_
  refine V.locals2 (lv2 := [(0, .ref o), (1, .int (nI k)), (2, .int y), (3, .int z)]) rfl ?_
  refine V.aload_n dX11_tells_0 0 rfl ?_
  refine V.iload_n dX11_tells_1 1 rfl ?_
  refine V.callVp (As := [.int (nI k)]) (rest := []) [0, 1] (c_M_isShop E l L _ o mw mk mt mr mki mso mst mpr msh mwa mpu mtx mor mbo tO tVi tSm ts ma bg wr cl um mn ((nI n)) Sh m ((nI k)) (eM) (hm)) rfl (by decide) mi_X11_isShop 0 rfl rfl w_860 w_862 wp_17 rfl rfl (Nat.le_of_ble_eq_true rfl) ⟨by decide, by decide⟩ ⟨by decide, by decide⟩ dX11_tells_2 (vw2 := fun _ => [(o, ob 10 [.ref mw, .ref mk, .ref mt, .ref mr, .ref mki, .ref mso, .ref mst, .ref mpr, .ref msh, .ref mwa, .ref mpu, .ref mtx, .int ts, .int ma, .int bg, .int wr, .int cl, .int um, .ref mor, .ref mbo, .int mn, .ref tO, .ref tVi, .ref tSm, .int (nI n)]), (msh, aI E 2 Sh), (tO, aI E 6 fS), (tVi, aI E 6 fV), (tSm, aI E 6 fM)]) (st2 := fun _ => [.int (withinI (nI k) 0 (nI m - 1))]) (fun _ => rfl) (fun _ => rfl) (fun _ => rfl) (fun _ _ => ?_)
  refine V.topc (v := 1) (within_nI hkm (by omega)) ?_
  refine V.if_ne (tgt := 11) dX11_tells_5 (by decide) (fun _ => ?_) (fun hc => absurd hc (by decide))
  refine V.iload_n dX11_tells_11 2 rfl ?_
  refine V.i2l dX11_tells_12 ?_
  refine V.lconst (v := 0) dX11_tells_13 (by decide) ?_
  refine V.stack (st2 := [.long (Int32.toInt64 0), .long (Int32.toInt64 y)]) (congrArg (fun z64 => Value.long z64 :: [.long (Int32.toInt64 y)]) (show (0 : Int64) = Int32.toInt64 0 by decide)) ?_
  refine V.ldc2 dX11_tells_14 w_1005 ?_
  refine V.stack (st2 := [.long (Int32.toInt64 9), .long (Int32.toInt64 0), .long (Int32.toInt64 y)]) (congrArg (fun z64 => Value.long z64 :: [.long (Int32.toInt64 0), .long (Int32.toInt64 y)]) (show (9 : Int64) = Int32.toInt64 9 by decide)) ?_
  refine V.callSp (As := [.long (Int32.toInt64 y), .long (Int32.toInt64 0), .long (Int32.toInt64 9)]) (rest := []) [] (c_M_in E l L _ y 0 9) rfl (by decide) mi_X11_in w_789 w_790 rfl rfl (Nat.le_of_ble_eq_true rfl) ⟨by decide, by decide⟩ ⟨by decide, by decide⟩ dX11_tells_17 (vw2 := fun _ => [(o, ob 10 [.ref mw, .ref mk, .ref mt, .ref mr, .ref mki, .ref mso, .ref mst, .ref mpr, .ref msh, .ref mwa, .ref mpu, .ref mtx, .int ts, .int ma, .int bg, .int wr, .int cl, .int um, .ref mor, .ref mbo, .int mn, .ref tO, .ref tVi, .ref tSm, .int (nI n)]), (msh, aI E 2 Sh), (tO, aI E 6 fS), (tVi, aI E 6 fV), (tSm, aI E 6 fM)]) (st2 := fun _ => [.int (withinI y 0 9)]) (fun _ => rfl) (fun _ => rfl) (fun _ => rfl) (fun _ _ => ?_)
  refine V.topc (v := 1) (hy) ?_
  refine V.if_eq (tgt := 35) dX11_tells_20 (by decide) (fun hc => absurd hc (by decide)) (fun _ => ?_)
  refine V.iload_n dX11_tells_23 3 rfl ?_
  refine V.i2l dX11_tells_24 ?_
  refine V.lconst (v := 0) dX11_tells_25 (by decide) ?_
  refine V.stack (st2 := [.long (Int32.toInt64 0), .long (Int32.toInt64 z)]) (congrArg (fun z64 => Value.long z64 :: [.long (Int32.toInt64 z)]) (show (0 : Int64) = Int32.toInt64 0 by decide)) ?_
  refine V.ldc2 dX11_tells_26 w_945 ?_
  refine V.stack (st2 := [.long (Int32.toInt64 30), .long (Int32.toInt64 0), .long (Int32.toInt64 z)]) (congrArg (fun z64 => Value.long z64 :: [.long (Int32.toInt64 0), .long (Int32.toInt64 z)]) (show (30 : Int64) = Int32.toInt64 30 by decide)) ?_
  refine V.callSp (As := [.long (Int32.toInt64 z), .long (Int32.toInt64 0), .long (Int32.toInt64 30)]) (rest := []) [] (c_M_in E l L _ z 0 30) rfl (by decide) mi_X11_in w_789 w_790 rfl rfl (Nat.le_of_ble_eq_true rfl) ⟨by decide, by decide⟩ ⟨by decide, by decide⟩ dX11_tells_29 (vw2 := fun _ => [(o, ob 10 [.ref mw, .ref mk, .ref mt, .ref mr, .ref mki, .ref mso, .ref mst, .ref mpr, .ref msh, .ref mwa, .ref mpu, .ref mtx, .int ts, .int ma, .int bg, .int wr, .int cl, .int um, .ref mor, .ref mbo, .int mn, .ref tO, .ref tVi, .ref tSm, .int (nI n)]), (msh, aI E 2 Sh), (tO, aI E 6 fS), (tVi, aI E 6 fV), (tSm, aI E 6 fM)]) (st2 := fun _ => [.int (withinI z 0 30)]) (fun _ => rfl) (fun _ => rfl) (fun _ => rfl) (fun _ _ => ?_)
  refine V.topc (v := 1) (hz) ?_
  refine V.if_ne (tgt := 38) dX11_tells_32 (by decide) (fun _ => ?_) (fun hc => absurd hc (by decide))
  refine V.aload_n dX11_tells_38 0 rfl ?_
  refine V.getf 0 24 rfl fa_X11_136_10 rfl dX11_tells_39 ?_
  refine V.bipush (v := 6) dX11_tells_42 (by decide) ?_
  refine V.icmp_ne (tgt := 50) dX11_tells_44 (by decide) (fun _ => ?_) (fun hc => absurd hc (fun hh => absurd ((nI_eq (b := 6) (by omega) (by omega)).mp hh) (by omega)))
  refine V.aload_n dX11_tells_50 0 rfl ?_
  refine V.getf 0 21 rfl fa_X11_53_10 rfl dX11_tells_51 ?_
  refine V.aload_n dX11_tells_54 0 rfl ?_
  refine V.getf 0 24 rfl fa_X11_136_10 rfl dX11_tells_55 ?_
  refine V.iload_n dX11_tells_58 1 rfl ?_
  refine V.iast (vw2 := [(o, ob 10 [.ref mw, .ref mk, .ref mt, .ref mr, .ref mki, .ref mso, .ref mst, .ref mpr, .ref msh, .ref mwa, .ref mpu, .ref mtx, .int ts, .int ma, .int bg, .int wr, .int cl, .int um, .ref mor, .ref mbo, .int mn, .ref tO, .ref tVi, .ref tSm, .int (nI n)]), (msh, aI E 2 Sh), (tO, aI E 6 (upd fS n (nI k))), (tVi, aI E 6 fV), (tSm, aI E 6 fM)]) 2 rfl (vinI (by omega)) (by rw [nI_clamp (by omega)] <;> rfl) dX11_tells_59 ?_
  refine V.aload_n dX11_tells_60 0 rfl ?_
  refine V.getf 0 22 rfl fa_X11_56_10 rfl dX11_tells_61 ?_
  refine V.aload_n dX11_tells_64 0 rfl ?_
  refine V.getf 0 24 rfl fa_X11_136_10 rfl dX11_tells_65 ?_
  refine V.iload_n dX11_tells_68 2 rfl ?_
  refine V.iast (vw2 := [(o, ob 10 [.ref mw, .ref mk, .ref mt, .ref mr, .ref mki, .ref mso, .ref mst, .ref mpr, .ref msh, .ref mwa, .ref mpu, .ref mtx, .int ts, .int ma, .int bg, .int wr, .int cl, .int um, .ref mor, .ref mbo, .int mn, .ref tO, .ref tVi, .ref tSm, .int (nI n)]), (msh, aI E 2 Sh), (tO, aI E 6 (upd fS n (nI k))), (tVi, aI E 6 (upd fV n y)), (tSm, aI E 6 fM)]) 3 rfl (vinI (by omega)) (by rw [nI_clamp (by omega)] <;> rfl) dX11_tells_69 ?_
  refine V.aload_n dX11_tells_70 0 rfl ?_
  refine V.getf 0 23 rfl fa_X11_59_10 rfl dX11_tells_71 ?_
  refine V.aload_n dX11_tells_74 0 rfl ?_
  refine V.getf 0 24 rfl fa_X11_136_10 rfl dX11_tells_75 ?_
  refine V.iload_n dX11_tells_78 3 rfl ?_
  refine V.iast (vw2 := [(o, ob 10 [.ref mw, .ref mk, .ref mt, .ref mr, .ref mki, .ref mso, .ref mst, .ref mpr, .ref msh, .ref mwa, .ref mpu, .ref mtx, .int ts, .int ma, .int bg, .int wr, .int cl, .int um, .ref mor, .ref mbo, .int mn, .ref tO, .ref tVi, .ref tSm, .int (nI n)]), (msh, aI E 2 Sh), (tO, aI E 6 (upd fS n (nI k))), (tVi, aI E 6 (upd fV n y)), (tSm, aI E 6 (upd fM n z))]) 4 rfl (vinI (by omega)) (by rw [nI_clamp (by omega)] <;> rfl) dX11_tells_79 ?_
  refine V.aload_n dX11_tells_80 0 rfl ?_
  refine V.dup dX11_tells_81 rfl ?_
  refine V.getf 0 24 rfl fa_X11_136_10 rfl dX11_tells_82 ?_
  refine V.iconst (v := 1) dX11_tells_85 (by decide) ?_
  refine V.iadd dX11_tells_86 ?_
  refine V.topc (v := (nI (n + 1))) (nI_1 n) ?_
  refine V.putf 0 24 (vw2 := [(o, ob 10 [.ref mw, .ref mk, .ref mt, .ref mr, .ref mki, .ref mso, .ref mst, .ref mpr, .ref msh, .ref mwa, .ref mpu, .ref mtx, .int ts, .int ma, .int bg, .int wr, .int cl, .int um, .ref mor, .ref mbo, .int mn, .ref tO, .ref tVi, .ref tSm, .int (nI (n + 1))]), (msh, aI E 2 Sh), (tO, aI E 6 (upd fS n (nI k))), (tVi, aI E 6 (upd fV n y)), (tSm, aI E 6 (upd fM n z))]) rfl fp_X11_136_10 rfl rfl (Nat.le_of_ble_eq_true rfl) rfl dX11_tells_87 ?_
  refine V.aload_n dX11_tells_90 0 rfl ?_
  refine V.getf 0 24 rfl fa_X11_136_10 rfl dX11_tells_91 ?_
  exact V.iret rfl dX11_tells_94 (⟨(), rfl, rfl, rfl, trivial⟩)

set_option maxHeartbeats 4000000 in
set_option maxRecDepth 100000 in
theorem c_M_remember (E : vEnv) (l : Launch) (L : List Nat) (h : Nat → va_E) (o : Nat) (mw : Nat) (mk : Nat) (mt : Nat) (mr : Nat) (mki : Nat) (mso : Nat) (mst : Nat) (mpr : Nat) (msh : Nat) (mwa : Nat) (mpu : Nat) (mtx : Nat) (mor : Nat) (mbo : Nat) (tO : Nat) (tVi : Nat) (tSm : Nat) (ts : Int32) (ma : Int32) (bg : Int32) (wr : Int32) (cl : Int32) (mn : Int32) (tm : Int32) (ρ : Nat → MR) (u : Nat) (hu : u ≤ 8) : CT E l yX11_remember cX11_remember 2 none 1 0 0 L h [(o, ob 10 [.ref mw, .ref mk, .ref mt, .ref mr, .ref mki, .ref mso, .ref mst, .ref mpr, .ref msh, .ref mwa, .ref mpu, .ref mtx, .int ts, .int ma, .int bg, .int wr, .int cl, .int (nI u), .ref mor, .ref mbo, .int mn, .ref tO, .ref tVi, .ref tSm, .int tm]), (mw, aI E 192 (mW ρ))] [.ref o] (qP L h (fun (_ : Unit) => [(o, ob 10 [.ref mw, .ref mk, .ref mt, .ref mr, .ref mki, .ref mso, .ref mst, .ref mpr, .ref msh, .ref mwa, .ref mpu, .ref mtx, .int ts, .int ma, .int bg, .int wr, .int cl, .int (nI (min 8 (u + 1))), .ref mor, .ref mbo, .int mn, .ref tO, .ref tVi, .ref tSm, .int tm]), (mw, aI E 192 (mW (remR ρ u)))]) (fun _ => none) (fun _ => True)) := by
  refine CT.ofV (by decide +kernel) (Nat.le_of_ble_eq_true rfl) ?_
  refine V.locals2 (lv2 := [(0, .ref o)]) rfl ?_
  refine V.aload_n dX11_remember_0 0 rfl ?_
  refine V.getf 0 17 rfl fa_X11_139_10 rfl dX11_remember_1 ?_
  refine V.bipush (v := 8) dX11_remember_4 (by decide) ?_
  refine V.icmp_ne (tgt := 53) dX11_remember_6 (by decide) (fun c1_6 => ?_) (fun c1_6 => ?_)
  · skip
    have h8 : ¬ u = 8 := fun hh => c1_6 (by rw [hh]; rfl)
    refine V.aload_n dX11_remember_53 0 rfl ?_
    refine V.iconst (v := 0) dX11_remember_54 (by decide) ?_
    refine V.bipush (v := 64) dX11_remember_55 (by decide) ?_
    refine V.bipush (v := 16) dX11_remember_57 (by decide) ?_
    refine V.aload_n dX11_remember_59 0 rfl ?_
    refine V.getf 0 17 rfl fa_X11_139_10 rfl dX11_remember_60 ?_
    refine V.imul dX11_remember_63 ?_
    refine V.topc (v := (nI (16 * u))) (pk_mul 16 u) ?_
    refine V.iadd dX11_remember_64 ?_
    refine V.topc (v := (nI (16 * (4 + u)))) ((nI_add 64 (16 * u)).trans (by rw [show 64 + 16 * u = 16 * (4 + u) by omega])) ?_
    refine V.callVp (As := [.int 0, .int (nI (16 * (4 + u)))]) (rest := []) [0, 1] (c_M_copy E l L _ o mw mk mt mr mki mso mst mpr msh mwa mpu mtx mor mbo tO tVi tSm ts ma bg wr cl ((nI u)) mn tm ρ 0 ((4 + u)) (by omega) (by omega) (by omega)) rfl (by decide) mi_X11_copy 0 rfl rfl w_879 w_881 wp_19 rfl rfl (Nat.le_of_ble_eq_true rfl) ⟨by decide, by decide⟩ ⟨by decide, by decide⟩ dX11_remember_65 (vw2 := fun _ => [(o, ob 10 [.ref mw, .ref mk, .ref mt, .ref mr, .ref mki, .ref mso, .ref mst, .ref mpr, .ref msh, .ref mwa, .ref mpu, .ref mtx, .int ts, .int ma, .int bg, .int wr, .int cl, .int (nI u), .ref mor, .ref mbo, .int mn, .ref tO, .ref tVi, .ref tSm, .int tm]), (mw, aI E 192 (mW (va_up ρ (4 + u) (ρ 0))))]) (st2 := fun _ => []) (fun _ => rfl) (fun _ => rfl) (fun _ => rfl) (fun _ _ => ?_)
    refine V.arrEq (vw2 := [(o, ob 10 [.ref mw, .ref mk, .ref mt, .ref mr, .ref mki, .ref mso, .ref mst, .ref mpr, .ref msh, .ref mwa, .ref mpu, .ref mtx, .int ts, .int ma, .int bg, .int wr, .int cl, .int (nI u), .ref mor, .ref mbo, .int mn, .ref tO, .ref tVi, .ref tSm, .int tm]), (mw, aI E 192 (mW (remR ρ u)))]) 1 0 rfl (fun j _ => congrFun (congrArg mW (remR_u h8)) j) rfl ?_
    refine V.aload_n dX11_remember_68 0 rfl ?_
    refine V.dup dX11_remember_69 rfl ?_
    refine V.getf 0 17 rfl fa_X11_139_10 rfl dX11_remember_70 ?_
    refine V.iconst (v := 1) dX11_remember_73 (by decide) ?_
    refine V.iadd dX11_remember_74 ?_
    refine V.topc (v := (nI (min 8 (u + 1)))) (by rw [Nat.min_eq_right (by omega : u + 1 ≤ 8)]; exact nI_1 u) ?_
    refine V.putf 0 17 (vw2 := [(o, ob 10 [.ref mw, .ref mk, .ref mt, .ref mr, .ref mki, .ref mso, .ref mst, .ref mpr, .ref msh, .ref mwa, .ref mpu, .ref mtx, .int ts, .int ma, .int bg, .int wr, .int cl, .int (nI (min 8 (u + 1))), .ref mor, .ref mbo, .int mn, .ref tO, .ref tVi, .ref tSm, .int tm]), (mw, aI E 192 (mW (remR ρ u)))]) rfl fp_X11_139_10 rfl rfl (Nat.le_of_ble_eq_true rfl) rfl dX11_remember_75 ?_
    exact V.vret rfl dX11_remember_78 (⟨(), rfl, rfl, rfl, trivial⟩)
  · skip
    have h8 : u = 8 := (nI_eq (b := 8) (by omega) (by omega)).mp c1_6
    subst h8
    refine V.iconst (v := 1) dX11_remember_9 (by decide) ?_
    refine V.istore_n (lv2 := [(1, .int 1), (0, .ref o)]) dX11_remember_10 rfl (by decide) rfl ?_
    refine V.arrEq (vw2 := [(o, ob 10 [.ref mw, .ref mk, .ref mt, .ref mr, .ref mki, .ref mso, .ref mst, .ref mpr, .ref msh, .ref mwa, .ref mpu, .ref mtx, .int ts, .int ma, .int bg, .int wr, .int cl, .int (nI 8), .ref mor, .ref mbo, .int mn, .ref tO, .ref tVi, .ref tSm, .int tm]), (mw, aI E 192 (mW (shR ρ 0)))]) 1 0 rfl (fun j _ => by rw [shR_0]) rfl ?_
    refine V.iload_n dX11_remember_11 0 rfl ?_
    refine V.bipush (v := 8) dX11_remember_12 (by decide) ?_
    refine V.icmp_ge (tgt := 43) dX11_remember_14 (by decide) (fun hc => absurd hc (by decide)) (fun _ => ?_)
    refine V.aload_n dX11_remember_17 1 rfl ?_
    refine V.bipush (v := 64) dX11_remember_18 (by decide) ?_
    refine V.bipush (v := 16) dX11_remember_20 (by decide) ?_
    refine V.iload_n dX11_remember_22 0 rfl ?_
    refine V.imul dX11_remember_23 ?_
    refine V.topc (v := 16) (by decide) ?_
    refine V.iadd dX11_remember_24 ?_
    refine V.topc (v := 80) (by decide) ?_
    refine V.bipush (v := 64) dX11_remember_25 (by decide) ?_
    refine V.bipush (v := 16) dX11_remember_27 (by decide) ?_
    refine V.iload_n dX11_remember_29 0 rfl ?_
    refine V.iconst (v := 1) dX11_remember_30 (by decide) ?_
    refine V.isub dX11_remember_31 ?_
    refine V.topc (v := 0) (by decide) ?_
    refine V.imul dX11_remember_32 ?_
    refine V.topc (v := 0) (by decide) ?_
    refine V.iadd dX11_remember_33 ?_
    refine V.topc (v := 64) (by decide) ?_
    refine V.callVp (As := [.int 80, .int 64]) (rest := []) [0, 1] (c_M_copy E l L _ o mw mk mt mr mki mso mst mpr msh mwa mpu mtx mor mbo tO tVi tSm ts ma bg wr cl ((nI 8)) mn tm ((shR ρ 0)) 5 4 (by decide) (by decide) (by decide)) rfl (by decide) mi_X11_copy 0 rfl rfl w_879 w_881 wp_19 rfl rfl (Nat.le_of_ble_eq_true rfl) ⟨by decide, by decide⟩ ⟨by decide, by decide⟩ dX11_remember_34 (vw2 := fun _ => [(o, ob 10 [.ref mw, .ref mk, .ref mt, .ref mr, .ref mki, .ref mso, .ref mst, .ref mpr, .ref msh, .ref mwa, .ref mpu, .ref mtx, .int ts, .int ma, .int bg, .int wr, .int cl, .int (nI 8), .ref mor, .ref mbo, .int mn, .ref tO, .ref tVi, .ref tSm, .int tm]), (mw, aI E 192 (mW (va_up (shR ρ 0) 4 ((shR ρ 0) 5))))]) (st2 := fun _ => []) (fun _ => rfl) (fun _ => rfl) (fun _ => rfl) (fun _ _ => ?_)
    refine V.arrEq (vw2 := [(o, ob 10 [.ref mw, .ref mk, .ref mt, .ref mr, .ref mki, .ref mso, .ref mst, .ref mpr, .ref msh, .ref mwa, .ref mpu, .ref mtx, .int ts, .int ma, .int bg, .int wr, .int cl, .int (nI 8), .ref mor, .ref mbo, .int mn, .ref tO, .ref tVi, .ref tSm, .int tm]), (mw, aI E 192 (mW (shR ρ 1)))]) 1 0 rfl (fun j _ => congrFun (congrArg mW (shR_s ρ 0)) j) rfl ?_
    refine V.iinc (v := 2) (lv2 := [(1, .int 2), (0, .ref o)]) dX11_remember_37 0 rfl (by decide) (by decide) rfl ?_
    refine V.goto (tgt := 11) dX11_remember_40 (by decide) ?_
    refine V.iload_n dX11_remember_11 0 rfl ?_
    refine V.bipush (v := 8) dX11_remember_12 (by decide) ?_
    refine V.icmp_ge (tgt := 43) dX11_remember_14 (by decide) (fun hc => absurd hc (by decide)) (fun _ => ?_)
    refine V.aload_n dX11_remember_17 1 rfl ?_
    refine V.bipush (v := 64) dX11_remember_18 (by decide) ?_
    refine V.bipush (v := 16) dX11_remember_20 (by decide) ?_
    refine V.iload_n dX11_remember_22 0 rfl ?_
    refine V.imul dX11_remember_23 ?_
    refine V.topc (v := 32) (by decide) ?_
    refine V.iadd dX11_remember_24 ?_
    refine V.topc (v := 96) (by decide) ?_
    refine V.bipush (v := 64) dX11_remember_25 (by decide) ?_
    refine V.bipush (v := 16) dX11_remember_27 (by decide) ?_
    refine V.iload_n dX11_remember_29 0 rfl ?_
    refine V.iconst (v := 1) dX11_remember_30 (by decide) ?_
    refine V.isub dX11_remember_31 ?_
    refine V.topc (v := 1) (by decide) ?_
    refine V.imul dX11_remember_32 ?_
    refine V.topc (v := 16) (by decide) ?_
    refine V.iadd dX11_remember_33 ?_
    refine V.topc (v := 80) (by decide) ?_
    refine V.callVp (As := [.int 96, .int 80]) (rest := []) [0, 1] (c_M_copy E l L _ o mw mk mt mr mki mso mst mpr msh mwa mpu mtx mor mbo tO tVi tSm ts ma bg wr cl ((nI 8)) mn tm ((shR ρ 1)) 6 5 (by decide) (by decide) (by decide)) rfl (by decide) mi_X11_copy 0 rfl rfl w_879 w_881 wp_19 rfl rfl (Nat.le_of_ble_eq_true rfl) ⟨by decide, by decide⟩ ⟨by decide, by decide⟩ dX11_remember_34 (vw2 := fun _ => [(o, ob 10 [.ref mw, .ref mk, .ref mt, .ref mr, .ref mki, .ref mso, .ref mst, .ref mpr, .ref msh, .ref mwa, .ref mpu, .ref mtx, .int ts, .int ma, .int bg, .int wr, .int cl, .int (nI 8), .ref mor, .ref mbo, .int mn, .ref tO, .ref tVi, .ref tSm, .int tm]), (mw, aI E 192 (mW (va_up (shR ρ 1) 5 ((shR ρ 1) 6))))]) (st2 := fun _ => []) (fun _ => rfl) (fun _ => rfl) (fun _ => rfl) (fun _ _ => ?_)
    refine V.arrEq (vw2 := [(o, ob 10 [.ref mw, .ref mk, .ref mt, .ref mr, .ref mki, .ref mso, .ref mst, .ref mpr, .ref msh, .ref mwa, .ref mpu, .ref mtx, .int ts, .int ma, .int bg, .int wr, .int cl, .int (nI 8), .ref mor, .ref mbo, .int mn, .ref tO, .ref tVi, .ref tSm, .int tm]), (mw, aI E 192 (mW (shR ρ 2)))]) 1 0 rfl (fun j _ => congrFun (congrArg mW (shR_s ρ 1)) j) rfl ?_
    refine V.iinc (v := 3) (lv2 := [(1, .int 3), (0, .ref o)]) dX11_remember_37 0 rfl (by decide) (by decide) rfl ?_
    refine V.goto (tgt := 11) dX11_remember_40 (by decide) ?_
    refine V.iload_n dX11_remember_11 0 rfl ?_
    refine V.bipush (v := 8) dX11_remember_12 (by decide) ?_
    refine V.icmp_ge (tgt := 43) dX11_remember_14 (by decide) (fun hc => absurd hc (by decide)) (fun _ => ?_)
    refine V.aload_n dX11_remember_17 1 rfl ?_
    refine V.bipush (v := 64) dX11_remember_18 (by decide) ?_
    refine V.bipush (v := 16) dX11_remember_20 (by decide) ?_
    refine V.iload_n dX11_remember_22 0 rfl ?_
    refine V.imul dX11_remember_23 ?_
    refine V.topc (v := 48) (by decide) ?_
    refine V.iadd dX11_remember_24 ?_
    refine V.topc (v := 112) (by decide) ?_
    refine V.bipush (v := 64) dX11_remember_25 (by decide) ?_
    refine V.bipush (v := 16) dX11_remember_27 (by decide) ?_
    refine V.iload_n dX11_remember_29 0 rfl ?_
    refine V.iconst (v := 1) dX11_remember_30 (by decide) ?_
    refine V.isub dX11_remember_31 ?_
    refine V.topc (v := 2) (by decide) ?_
    refine V.imul dX11_remember_32 ?_
    refine V.topc (v := 32) (by decide) ?_
    refine V.iadd dX11_remember_33 ?_
    refine V.topc (v := 96) (by decide) ?_
    refine V.callVp (As := [.int 112, .int 96]) (rest := []) [0, 1] (c_M_copy E l L _ o mw mk mt mr mki mso mst mpr msh mwa mpu mtx mor mbo tO tVi tSm ts ma bg wr cl ((nI 8)) mn tm ((shR ρ 2)) 7 6 (by decide) (by decide) (by decide)) rfl (by decide) mi_X11_copy 0 rfl rfl w_879 w_881 wp_19 rfl rfl (Nat.le_of_ble_eq_true rfl) ⟨by decide, by decide⟩ ⟨by decide, by decide⟩ dX11_remember_34 (vw2 := fun _ => [(o, ob 10 [.ref mw, .ref mk, .ref mt, .ref mr, .ref mki, .ref mso, .ref mst, .ref mpr, .ref msh, .ref mwa, .ref mpu, .ref mtx, .int ts, .int ma, .int bg, .int wr, .int cl, .int (nI 8), .ref mor, .ref mbo, .int mn, .ref tO, .ref tVi, .ref tSm, .int tm]), (mw, aI E 192 (mW (va_up (shR ρ 2) 6 ((shR ρ 2) 7))))]) (st2 := fun _ => []) (fun _ => rfl) (fun _ => rfl) (fun _ => rfl) (fun _ _ => ?_)
    refine V.arrEq (vw2 := [(o, ob 10 [.ref mw, .ref mk, .ref mt, .ref mr, .ref mki, .ref mso, .ref mst, .ref mpr, .ref msh, .ref mwa, .ref mpu, .ref mtx, .int ts, .int ma, .int bg, .int wr, .int cl, .int (nI 8), .ref mor, .ref mbo, .int mn, .ref tO, .ref tVi, .ref tSm, .int tm]), (mw, aI E 192 (mW (shR ρ 3)))]) 1 0 rfl (fun j _ => congrFun (congrArg mW (shR_s ρ 2)) j) rfl ?_
    refine V.iinc (v := 4) (lv2 := [(1, .int 4), (0, .ref o)]) dX11_remember_37 0 rfl (by decide) (by decide) rfl ?_
    refine V.goto (tgt := 11) dX11_remember_40 (by decide) ?_
    refine V.iload_n dX11_remember_11 0 rfl ?_
    refine V.bipush (v := 8) dX11_remember_12 (by decide) ?_
    refine V.icmp_ge (tgt := 43) dX11_remember_14 (by decide) (fun hc => absurd hc (by decide)) (fun _ => ?_)
    refine V.aload_n dX11_remember_17 1 rfl ?_
    refine V.bipush (v := 64) dX11_remember_18 (by decide) ?_
    refine V.bipush (v := 16) dX11_remember_20 (by decide) ?_
    refine V.iload_n dX11_remember_22 0 rfl ?_
    refine V.imul dX11_remember_23 ?_
    refine V.topc (v := 64) (by decide) ?_
    refine V.iadd dX11_remember_24 ?_
    refine V.topc (v := 128) (by decide) ?_
    refine V.bipush (v := 64) dX11_remember_25 (by decide) ?_
    refine V.bipush (v := 16) dX11_remember_27 (by decide) ?_
    refine V.iload_n dX11_remember_29 0 rfl ?_
    refine V.iconst (v := 1) dX11_remember_30 (by decide) ?_
    refine V.isub dX11_remember_31 ?_
    refine V.topc (v := 3) (by decide) ?_
    refine V.imul dX11_remember_32 ?_
    refine V.topc (v := 48) (by decide) ?_
    refine V.iadd dX11_remember_33 ?_
    refine V.topc (v := 112) (by decide) ?_
    refine V.callVp (As := [.int 128, .int 112]) (rest := []) [0, 1] (c_M_copy E l L _ o mw mk mt mr mki mso mst mpr msh mwa mpu mtx mor mbo tO tVi tSm ts ma bg wr cl ((nI 8)) mn tm ((shR ρ 3)) 8 7 (by decide) (by decide) (by decide)) rfl (by decide) mi_X11_copy 0 rfl rfl w_879 w_881 wp_19 rfl rfl (Nat.le_of_ble_eq_true rfl) ⟨by decide, by decide⟩ ⟨by decide, by decide⟩ dX11_remember_34 (vw2 := fun _ => [(o, ob 10 [.ref mw, .ref mk, .ref mt, .ref mr, .ref mki, .ref mso, .ref mst, .ref mpr, .ref msh, .ref mwa, .ref mpu, .ref mtx, .int ts, .int ma, .int bg, .int wr, .int cl, .int (nI 8), .ref mor, .ref mbo, .int mn, .ref tO, .ref tVi, .ref tSm, .int tm]), (mw, aI E 192 (mW (va_up (shR ρ 3) 7 ((shR ρ 3) 8))))]) (st2 := fun _ => []) (fun _ => rfl) (fun _ => rfl) (fun _ => rfl) (fun _ _ => ?_)
    refine V.arrEq (vw2 := [(o, ob 10 [.ref mw, .ref mk, .ref mt, .ref mr, .ref mki, .ref mso, .ref mst, .ref mpr, .ref msh, .ref mwa, .ref mpu, .ref mtx, .int ts, .int ma, .int bg, .int wr, .int cl, .int (nI 8), .ref mor, .ref mbo, .int mn, .ref tO, .ref tVi, .ref tSm, .int tm]), (mw, aI E 192 (mW (shR ρ 4)))]) 1 0 rfl (fun j _ => congrFun (congrArg mW (shR_s ρ 3)) j) rfl ?_
    refine V.iinc (v := 5) (lv2 := [(1, .int 5), (0, .ref o)]) dX11_remember_37 0 rfl (by decide) (by decide) rfl ?_
    refine V.goto (tgt := 11) dX11_remember_40 (by decide) ?_
    refine V.iload_n dX11_remember_11 0 rfl ?_
    refine V.bipush (v := 8) dX11_remember_12 (by decide) ?_
    refine V.icmp_ge (tgt := 43) dX11_remember_14 (by decide) (fun hc => absurd hc (by decide)) (fun _ => ?_)
    refine V.aload_n dX11_remember_17 1 rfl ?_
    refine V.bipush (v := 64) dX11_remember_18 (by decide) ?_
    refine V.bipush (v := 16) dX11_remember_20 (by decide) ?_
    refine V.iload_n dX11_remember_22 0 rfl ?_
    refine V.imul dX11_remember_23 ?_
    refine V.topc (v := 80) (by decide) ?_
    refine V.iadd dX11_remember_24 ?_
    refine V.topc (v := 144) (by decide) ?_
    refine V.bipush (v := 64) dX11_remember_25 (by decide) ?_
    refine V.bipush (v := 16) dX11_remember_27 (by decide) ?_
    refine V.iload_n dX11_remember_29 0 rfl ?_
    refine V.iconst (v := 1) dX11_remember_30 (by decide) ?_
    refine V.isub dX11_remember_31 ?_
    refine V.topc (v := 4) (by decide) ?_
    refine V.imul dX11_remember_32 ?_
    refine V.topc (v := 64) (by decide) ?_
    refine V.iadd dX11_remember_33 ?_
    refine V.topc (v := 128) (by decide) ?_
    refine V.callVp (As := [.int 144, .int 128]) (rest := []) [0, 1] (c_M_copy E l L _ o mw mk mt mr mki mso mst mpr msh mwa mpu mtx mor mbo tO tVi tSm ts ma bg wr cl ((nI 8)) mn tm ((shR ρ 4)) 9 8 (by decide) (by decide) (by decide)) rfl (by decide) mi_X11_copy 0 rfl rfl w_879 w_881 wp_19 rfl rfl (Nat.le_of_ble_eq_true rfl) ⟨by decide, by decide⟩ ⟨by decide, by decide⟩ dX11_remember_34 (vw2 := fun _ => [(o, ob 10 [.ref mw, .ref mk, .ref mt, .ref mr, .ref mki, .ref mso, .ref mst, .ref mpr, .ref msh, .ref mwa, .ref mpu, .ref mtx, .int ts, .int ma, .int bg, .int wr, .int cl, .int (nI 8), .ref mor, .ref mbo, .int mn, .ref tO, .ref tVi, .ref tSm, .int tm]), (mw, aI E 192 (mW (va_up (shR ρ 4) 8 ((shR ρ 4) 9))))]) (st2 := fun _ => []) (fun _ => rfl) (fun _ => rfl) (fun _ => rfl) (fun _ _ => ?_)
    refine V.arrEq (vw2 := [(o, ob 10 [.ref mw, .ref mk, .ref mt, .ref mr, .ref mki, .ref mso, .ref mst, .ref mpr, .ref msh, .ref mwa, .ref mpu, .ref mtx, .int ts, .int ma, .int bg, .int wr, .int cl, .int (nI 8), .ref mor, .ref mbo, .int mn, .ref tO, .ref tVi, .ref tSm, .int tm]), (mw, aI E 192 (mW (shR ρ 5)))]) 1 0 rfl (fun j _ => congrFun (congrArg mW (shR_s ρ 4)) j) rfl ?_
    refine V.iinc (v := 6) (lv2 := [(1, .int 6), (0, .ref o)]) dX11_remember_37 0 rfl (by decide) (by decide) rfl ?_
    refine V.goto (tgt := 11) dX11_remember_40 (by decide) ?_
    refine V.iload_n dX11_remember_11 0 rfl ?_
    refine V.bipush (v := 8) dX11_remember_12 (by decide) ?_
    refine V.icmp_ge (tgt := 43) dX11_remember_14 (by decide) (fun hc => absurd hc (by decide)) (fun _ => ?_)
    refine V.aload_n dX11_remember_17 1 rfl ?_
    refine V.bipush (v := 64) dX11_remember_18 (by decide) ?_
    refine V.bipush (v := 16) dX11_remember_20 (by decide) ?_
    refine V.iload_n dX11_remember_22 0 rfl ?_
    refine V.imul dX11_remember_23 ?_
    refine V.topc (v := 96) (by decide) ?_
    refine V.iadd dX11_remember_24 ?_
    refine V.topc (v := 160) (by decide) ?_
    refine V.bipush (v := 64) dX11_remember_25 (by decide) ?_
    refine V.bipush (v := 16) dX11_remember_27 (by decide) ?_
    refine V.iload_n dX11_remember_29 0 rfl ?_
    refine V.iconst (v := 1) dX11_remember_30 (by decide) ?_
    refine V.isub dX11_remember_31 ?_
    refine V.topc (v := 5) (by decide) ?_
    refine V.imul dX11_remember_32 ?_
    refine V.topc (v := 80) (by decide) ?_
    refine V.iadd dX11_remember_33 ?_
    refine V.topc (v := 144) (by decide) ?_
    refine V.callVp (As := [.int 160, .int 144]) (rest := []) [0, 1] (c_M_copy E l L _ o mw mk mt mr mki mso mst mpr msh mwa mpu mtx mor mbo tO tVi tSm ts ma bg wr cl ((nI 8)) mn tm ((shR ρ 5)) 10 9 (by decide) (by decide) (by decide)) rfl (by decide) mi_X11_copy 0 rfl rfl w_879 w_881 wp_19 rfl rfl (Nat.le_of_ble_eq_true rfl) ⟨by decide, by decide⟩ ⟨by decide, by decide⟩ dX11_remember_34 (vw2 := fun _ => [(o, ob 10 [.ref mw, .ref mk, .ref mt, .ref mr, .ref mki, .ref mso, .ref mst, .ref mpr, .ref msh, .ref mwa, .ref mpu, .ref mtx, .int ts, .int ma, .int bg, .int wr, .int cl, .int (nI 8), .ref mor, .ref mbo, .int mn, .ref tO, .ref tVi, .ref tSm, .int tm]), (mw, aI E 192 (mW (va_up (shR ρ 5) 9 ((shR ρ 5) 10))))]) (st2 := fun _ => []) (fun _ => rfl) (fun _ => rfl) (fun _ => rfl) (fun _ _ => ?_)
    refine V.arrEq (vw2 := [(o, ob 10 [.ref mw, .ref mk, .ref mt, .ref mr, .ref mki, .ref mso, .ref mst, .ref mpr, .ref msh, .ref mwa, .ref mpu, .ref mtx, .int ts, .int ma, .int bg, .int wr, .int cl, .int (nI 8), .ref mor, .ref mbo, .int mn, .ref tO, .ref tVi, .ref tSm, .int tm]), (mw, aI E 192 (mW (shR ρ 6)))]) 1 0 rfl (fun j _ => congrFun (congrArg mW (shR_s ρ 5)) j) rfl ?_
    refine V.iinc (v := 7) (lv2 := [(1, .int 7), (0, .ref o)]) dX11_remember_37 0 rfl (by decide) (by decide) rfl ?_
    refine V.goto (tgt := 11) dX11_remember_40 (by decide) ?_
    refine V.iload_n dX11_remember_11 0 rfl ?_
    refine V.bipush (v := 8) dX11_remember_12 (by decide) ?_
    refine V.icmp_ge (tgt := 43) dX11_remember_14 (by decide) (fun hc => absurd hc (by decide)) (fun _ => ?_)
    refine V.aload_n dX11_remember_17 1 rfl ?_
    refine V.bipush (v := 64) dX11_remember_18 (by decide) ?_
    refine V.bipush (v := 16) dX11_remember_20 (by decide) ?_
    refine V.iload_n dX11_remember_22 0 rfl ?_
    refine V.imul dX11_remember_23 ?_
    refine V.topc (v := 112) (by decide) ?_
    refine V.iadd dX11_remember_24 ?_
    refine V.topc (v := 176) (by decide) ?_
    refine V.bipush (v := 64) dX11_remember_25 (by decide) ?_
    refine V.bipush (v := 16) dX11_remember_27 (by decide) ?_
    refine V.iload_n dX11_remember_29 0 rfl ?_
    refine V.iconst (v := 1) dX11_remember_30 (by decide) ?_
    refine V.isub dX11_remember_31 ?_
    refine V.topc (v := 6) (by decide) ?_
    refine V.imul dX11_remember_32 ?_
    refine V.topc (v := 96) (by decide) ?_
    refine V.iadd dX11_remember_33 ?_
    refine V.topc (v := 160) (by decide) ?_
    refine V.callVp (As := [.int 176, .int 160]) (rest := []) [0, 1] (c_M_copy E l L _ o mw mk mt mr mki mso mst mpr msh mwa mpu mtx mor mbo tO tVi tSm ts ma bg wr cl ((nI 8)) mn tm ((shR ρ 6)) 11 10 (by decide) (by decide) (by decide)) rfl (by decide) mi_X11_copy 0 rfl rfl w_879 w_881 wp_19 rfl rfl (Nat.le_of_ble_eq_true rfl) ⟨by decide, by decide⟩ ⟨by decide, by decide⟩ dX11_remember_34 (vw2 := fun _ => [(o, ob 10 [.ref mw, .ref mk, .ref mt, .ref mr, .ref mki, .ref mso, .ref mst, .ref mpr, .ref msh, .ref mwa, .ref mpu, .ref mtx, .int ts, .int ma, .int bg, .int wr, .int cl, .int (nI 8), .ref mor, .ref mbo, .int mn, .ref tO, .ref tVi, .ref tSm, .int tm]), (mw, aI E 192 (mW (va_up (shR ρ 6) 10 ((shR ρ 6) 11))))]) (st2 := fun _ => []) (fun _ => rfl) (fun _ => rfl) (fun _ => rfl) (fun _ _ => ?_)
    refine V.arrEq (vw2 := [(o, ob 10 [.ref mw, .ref mk, .ref mt, .ref mr, .ref mki, .ref mso, .ref mst, .ref mpr, .ref msh, .ref mwa, .ref mpu, .ref mtx, .int ts, .int ma, .int bg, .int wr, .int cl, .int (nI 8), .ref mor, .ref mbo, .int mn, .ref tO, .ref tVi, .ref tSm, .int tm]), (mw, aI E 192 (mW (shR ρ 7)))]) 1 0 rfl (fun j _ => congrFun (congrArg mW (shR_s ρ 6)) j) rfl ?_
    refine V.iinc (v := 8) (lv2 := [(1, .int 8), (0, .ref o)]) dX11_remember_37 0 rfl (by decide) (by decide) rfl ?_
    refine V.goto (tgt := 11) dX11_remember_40 (by decide) ?_
    refine V.iload_n dX11_remember_11 0 rfl ?_
    refine V.bipush (v := 8) dX11_remember_12 (by decide) ?_
    refine V.icmp_ge (tgt := 43) dX11_remember_14 (by decide) (fun _ => ?_) (fun hc => absurd (by decide) hc)
    refine V.aload_n dX11_remember_43 1 rfl ?_
    refine V.dup dX11_remember_44 rfl ?_
    refine V.getf 0 17 rfl fa_X11_139_10 rfl dX11_remember_45 ?_
    refine V.iconst (v := 1) dX11_remember_48 (by decide) ?_
    refine V.isub dX11_remember_49 ?_
    refine V.topc (v := (nI 7)) (by decide) ?_
    refine V.putf 0 17 (vw2 := [(o, ob 10 [.ref mw, .ref mk, .ref mt, .ref mr, .ref mki, .ref mso, .ref mst, .ref mpr, .ref msh, .ref mwa, .ref mpu, .ref mtx, .int ts, .int ma, .int bg, .int wr, .int cl, .int (nI 7), .ref mor, .ref mbo, .int mn, .ref tO, .ref tVi, .ref tSm, .int tm]), (mw, aI E 192 (mW (shR ρ 7)))]) rfl fp_X11_139_10 rfl rfl (Nat.le_of_ble_eq_true rfl) rfl dX11_remember_50 ?_
    refine V.aload_n dX11_remember_53 1 rfl ?_
    refine V.iconst (v := 0) dX11_remember_54 (by decide) ?_
    refine V.bipush (v := 64) dX11_remember_55 (by decide) ?_
    refine V.bipush (v := 16) dX11_remember_57 (by decide) ?_
    refine V.aload_n dX11_remember_59 1 rfl ?_
    refine V.getf 0 17 rfl fa_X11_139_10 rfl dX11_remember_60 ?_
    refine V.imul dX11_remember_63 ?_
    refine V.topc (v := (nI (16 * 7))) (pk_mul 16 7) ?_
    refine V.iadd dX11_remember_64 ?_
    refine V.topc (v := (nI (16 * 11))) (by decide) ?_
    refine V.callVp (As := [.int 0, .int (nI (16 * 11))]) (rest := []) [0, 1] (c_M_copy E l L _ o mw mk mt mr mki mso mst mpr msh mwa mpu mtx mor mbo tO tVi tSm ts ma bg wr cl ((nI 7)) mn tm ((shR ρ 7)) 0 11 (by omega) (by omega) (by omega)) rfl (by decide) mi_X11_copy 0 rfl rfl w_879 w_881 wp_19 rfl rfl (Nat.le_of_ble_eq_true rfl) ⟨by decide, by decide⟩ ⟨by decide, by decide⟩ dX11_remember_65 (vw2 := fun _ => [(o, ob 10 [.ref mw, .ref mk, .ref mt, .ref mr, .ref mki, .ref mso, .ref mst, .ref mpr, .ref msh, .ref mwa, .ref mpu, .ref mtx, .int ts, .int ma, .int bg, .int wr, .int cl, .int (nI 7), .ref mor, .ref mbo, .int mn, .ref tO, .ref tVi, .ref tSm, .int tm]), (mw, aI E 192 (mW (va_up (shR ρ 7) 11 ((shR ρ 7) 0))))]) (st2 := fun _ => []) (fun _ => rfl) (fun _ => rfl) (fun _ => rfl) (fun _ _ => ?_)
    refine V.arrEq (vw2 := [(o, ob 10 [.ref mw, .ref mk, .ref mt, .ref mr, .ref mki, .ref mso, .ref mst, .ref mpr, .ref msh, .ref mwa, .ref mpu, .ref mtx, .int ts, .int ma, .int bg, .int wr, .int cl, .int (nI 7), .ref mor, .ref mbo, .int mn, .ref tO, .ref tVi, .ref tSm, .int tm]), (mw, aI E 192 (mW (remR ρ 8)))]) 1 0 rfl (fun j _ => congrFun (congrArg mW (remR_8 ρ)) j) rfl ?_
    refine V.aload_n dX11_remember_68 1 rfl ?_
    refine V.dup dX11_remember_69 rfl ?_
    refine V.getf 0 17 rfl fa_X11_139_10 rfl dX11_remember_70 ?_
    refine V.iconst (v := 1) dX11_remember_73 (by decide) ?_
    refine V.iadd dX11_remember_74 ?_
    refine V.topc (v := (nI (min 8 (8 + 1)))) (by decide) ?_
    refine V.putf 0 17 (vw2 := [(o, ob 10 [.ref mw, .ref mk, .ref mt, .ref mr, .ref mki, .ref mso, .ref mst, .ref mpr, .ref msh, .ref mwa, .ref mpu, .ref mtx, .int ts, .int ma, .int bg, .int wr, .int cl, .int (nI (min 8 (8 + 1))), .ref mor, .ref mbo, .int mn, .ref tO, .ref tVi, .ref tSm, .int tm]), (mw, aI E 192 (mW (remR ρ 8)))]) rfl fp_X11_139_10 rfl rfl (Nat.le_of_ble_eq_true rfl) rfl dX11_remember_75 ?_
    exact V.vret rfl dX11_remember_78 (⟨(), rfl, rfl, rfl, trivial⟩)

set_option maxHeartbeats 4000000 in
set_option maxRecDepth 100000 in
theorem c_M_visitU (E : vEnv) (l : Launch) (L : List Nat) (h : Nat → va_E) (o : Nat) (mw : Nat) (mk : Nat) (mt : Nat) (mr : Nat) (mki : Nat) (mso : Nat) (mst : Nat) (mpr : Nat) (msh : Nat) (mwa : Nat) (mpu : Nat) (mtx : Nat) (mor : Nat) (mbo : Nat) (tO : Nat) (tVi : Nat) (tSm : Nat) (ts : Int32) (ma : Int32) (bg : Int32) (wr : Int32) (cl : Int32) (um : Int32) (mn : Int32) (tm : Int32) (Sh : Nat → Int32) (m : Nat) (x : Int32) (eM : Sh 0 = nI m) (hm : m ≤ 6) (hx : withinI x 0 (nI m - 1) = 0) : CT E l yX11_visit cX11_visit 2 (some (.int)) 2 0 0 L h [(o, ob 10 [.ref mw, .ref mk, .ref mt, .ref mr, .ref mki, .ref mso, .ref mst, .ref mpr, .ref msh, .ref mwa, .ref mpu, .ref mtx, .int ts, .int ma, .int bg, .int wr, .int cl, .int um, .ref mor, .ref mbo, .int mn, .ref tO, .ref tVi, .ref tSm, .int tm]), (msh, aI E 2 Sh)] [.ref o, .int x] (qP L h (fun (_ : Unit) => [(o, ob 10 [.ref mw, .ref mk, .ref mt, .ref mr, .ref mki, .ref mso, .ref mst, .ref mpr, .ref msh, .ref mwa, .ref mpu, .ref mtx, .int ts, .int ma, .int bg, .int wr, .int cl, .int um, .ref mor, .ref mbo, .int mn, .ref tO, .ref tVi, .ref tSm, .int tm]), (msh, aI E 2 Sh)]) (fun _ => some (.int (-2))) (fun _ => True)) := by
  refine CT.ofV (by decide +kernel) (Nat.le_of_ble_eq_true rfl) ?_
  refine V.locals2 (lv2 := [(0, .ref o), (1, .int x)]) rfl ?_
  refine V.aload_n dX11_visit_0 0 rfl ?_
  refine V.iload_n dX11_visit_1 1 rfl ?_
  refine V.callVp (As := [.int x]) (rest := []) [0, 1] (c_M_isShop E l L _ o mw mk mt mr mki mso mst mpr msh mwa mpu mtx mor mbo tO tVi tSm ts ma bg wr cl um mn tm Sh m x (eM) (hm)) rfl (by decide) mi_X11_isShop 0 rfl rfl w_860 w_862 wp_17 rfl rfl (Nat.le_of_ble_eq_true rfl) ⟨by decide, by decide⟩ ⟨by decide, by decide⟩ dX11_visit_2 (vw2 := fun _ => [(o, ob 10 [.ref mw, .ref mk, .ref mt, .ref mr, .ref mki, .ref mso, .ref mst, .ref mpr, .ref msh, .ref mwa, .ref mpu, .ref mtx, .int ts, .int ma, .int bg, .int wr, .int cl, .int um, .ref mor, .ref mbo, .int mn, .ref tO, .ref tVi, .ref tSm, .int tm]), (msh, aI E 2 Sh)]) (st2 := fun _ => [.int (withinI x 0 (nI m - 1))]) (fun _ => rfl) (fun _ => rfl) (fun _ => rfl) (fun _ _ => ?_)
  refine V.topc (v := 0) (hx) ?_
  refine V.if_ne (tgt := 11) dX11_visit_5 (by decide) (fun hc => absurd (by decide) hc) (fun _ => ?_)
  refine V.bipush (v := (-2)) dX11_visit_8 (by decide) ?_
  exact V.iret rfl dX11_visit_10 (⟨(), rfl, rfl, rfl, trivial⟩)

set_option maxHeartbeats 4000000 in
set_option maxRecDepth 100000 in
theorem c_M_visitF (E : vEnv) (l : Launch) (L : List Nat) (h : Nat → va_E) (o : Nat) (mw : Nat) (mk : Nat) (mt : Nat) (mr : Nat) (mki : Nat) (mso : Nat) (mst : Nat) (mpr : Nat) (msh : Nat) (mwa : Nat) (mpu : Nat) (mtx : Nat) (mor : Nat) (mbo : Nat) (tO : Nat) (tVi : Nat) (tSm : Nat) (ts : Int32) (ma : Int32) (bg : Int32) (wr : Int32) (cl : Int32) (um : Int32) (mn : Int32) (tm : Int32) (Sh : Nat → Int32) (m : Nat) (ρ : Nat → MR) (pw : Nat → Int32) (s : NS) (k : Nat) (hR : ρ 0 = (pw, s)) (eM : Sh 0 = nI m) (hm : m ≤ 6) (hkm : k < m) (hst : ¬ s.2.2.1 ≤ 9999) : CT E l yX11_visit cX11_visit 2 (some (.int)) 2 0 0 L h [(o, ob 10 [.ref mw, .ref mk, .ref mt, .ref mr, .ref mki, .ref mso, .ref mst, .ref mpr, .ref msh, .ref mwa, .ref mpu, .ref mtx, .int ts, .int ma, .int bg, .int wr, .int cl, .int um, .ref mor, .ref mbo, .int mn, .ref tO, .ref tVi, .ref tSm, .int tm]), (msh, aI E 2 Sh), (mw, aI E 192 (mW ρ))] [.ref o, .int (nI k)] (qP L h (fun (_ : Unit) => [(o, ob 10 [.ref mw, .ref mk, .ref mt, .ref mr, .ref mki, .ref mso, .ref mst, .ref mpr, .ref msh, .ref mwa, .ref mpu, .ref mtx, .int ts, .int ma, .int bg, .int wr, .int cl, .int um, .ref mor, .ref mbo, .int mn, .ref tO, .ref tVi, .ref tSm, .int tm]), (msh, aI E 2 Sh), (mw, aI E 192 (mW ρ))]) (fun _ => some (.int (-5))) (fun _ => True)) := by
  refine CT.ofV (by decide +kernel) (Nat.le_of_ble_eq_true rfl) ?_
  refine V.locals2 (lv2 := [(0, .ref o), (1, .int (nI k))]) rfl ?_
  refine V.aload_n dX11_visit_0 0 rfl ?_
  refine V.iload_n dX11_visit_1 1 rfl ?_
  refine V.callVp (As := [.int (nI k)]) (rest := []) [0, 1] (c_M_isShop E l L _ o mw mk mt mr mki mso mst mpr msh mwa mpu mtx mor mbo tO tVi tSm ts ma bg wr cl um mn tm Sh m ((nI k)) (eM) (hm)) rfl (by decide) mi_X11_isShop 0 rfl rfl w_860 w_862 wp_17 rfl rfl (Nat.le_of_ble_eq_true rfl) ⟨by decide, by decide⟩ ⟨by decide, by decide⟩ dX11_visit_2 (vw2 := fun _ => [(o, ob 10 [.ref mw, .ref mk, .ref mt, .ref mr, .ref mki, .ref mso, .ref mst, .ref mpr, .ref msh, .ref mwa, .ref mpu, .ref mtx, .int ts, .int ma, .int bg, .int wr, .int cl, .int um, .ref mor, .ref mbo, .int mn, .ref tO, .ref tVi, .ref tSm, .int tm]), (msh, aI E 2 Sh), (mw, aI E 192 (mW ρ))]) (st2 := fun _ => [.int (withinI (nI k) 0 (nI m - 1))]) (fun _ => rfl) (fun _ => rfl) (fun _ => rfl) (fun _ _ => ?_)
  refine V.topc (v := 1) (within_nI hkm (by omega)) ?_
  refine V.if_ne (tgt := 11) dX11_visit_5 (by decide) (fun _ => ?_) (fun hc => absurd hc (by decide))
  refine V.aload_n dX11_visit_11 0 rfl ?_
  refine V.getf 0 0 rfl fa_X11_7_10 rfl dX11_visit_12 ?_
  refine V.bipush (v := 11) dX11_visit_15 (by decide) ?_
  refine V.iald 2 rfl (vin rfl) dX11_visit_17 ?_
  refine V.topc (v := ((mW ρ) 11)) (rfl) ?_
  refine V.topc (v := s.2.2.1) (mW_st (i := 0) hR) ?_
  refine V.sipush (v := 9999) dX11_visit_18 (by decide) ?_
  refine V.icmp_le (tgt := 27) dX11_visit_21 (by decide) (fun hc => absurd hc (hst)) (fun _ => ?_)
  refine V.bipush (v := (-5)) dX11_visit_24 (by decide) ?_
  exact V.iret rfl dX11_visit_26 (⟨(), rfl, rfl, rfl, trivial⟩)

set_option maxHeartbeats 4000000 in
set_option maxRecDepth 100000 in
theorem c_M_visit (E : vEnv) (l : Launch) (L : List Nat) (h : Nat → va_E) (o : Nat) (mw : Nat) (mk : Nat) (mt : Nat) (mr : Nat) (mki : Nat) (mso : Nat) (mst : Nat) (mpr : Nat) (msh : Nat) (mwa : Nat) (mpu : Nat) (mtx : Nat) (mor : Nat) (mbo : Nat) (tO : Nat) (tVi : Nat) (tSm : Nat) (ts : Int32) (ma : Int32) (bg : Int32) (wr : Int32) (cl : Int32) (mn : Int32) (tm : Int32) (ρ : Nat → MR) (pw : Nat → Int32) (s : NS) (Re : Nat → Int32) (r : Nat → Int32) (Ti : Nat → Int32) (ti : Nat → Int32) (Ki : Nat → Int32) (So : Nat → Int32) (St : Nat → Int32) (Pr : Nat → Int32) (Wa : Nat → Int32) (k : Nat) (κ : Nat) (so : Nat) (sg : Int32) (pr : Int32) (wa : Int32) (p : Nat) (p0 : Nat) (Sh : Nat → Int32) (m : Nat) (u : Nat) (hR : ρ 0 = (pw, s)) (hk : k < 6) (hκ : κ < 4) (hso : so < 4) (eK : Ki k = kindI κ) (eS : So k = nI so) (eT : St k = sg) (eP : Pr k = pr) (eW : Wa 0 = wa) (hp : p < 6) (hp0 : p0 < 6) (ep : pw k = nI p) (ep0 : s.2.1 = nI p0) (hgT : gT s) (hgC : gC s.2.2.2.1) (hgR : gR r) (eR : ∀ j, j < 4 → Re j = r j) (hgI : gI ti) (eI : ∀ j, j < 4 → Ti j = ti j) (eM : Sh 0 = nI m) (hm : m ≤ 6) (hkm : k < m) (hu : u ≤ 8) (hst : s.2.2.1 ≤ 9999) : CT E l yX11_visit cX11_visit 2 (some (.int)) 3 0 0 L h [(o, ob 10 [.ref mw, .ref mk, .ref mt, .ref mr, .ref mki, .ref mso, .ref mst, .ref mpr, .ref msh, .ref mwa, .ref mpu, .ref mtx, .int ts, .int ma, .int bg, .int wr, .int cl, .int (nI u), .ref mor, .ref mbo, .int mn, .ref tO, .ref tVi, .ref tSm, .int tm]), (mw, aI E 192 (mW ρ)), (mr, aI E 8 Re), (mt, aI E 8 Ti), (mki, aI E 12 Ki), (mso, aI E 12 So), (mst, aI E 12 St), (mpr, aI E 12 Pr), (mwa, aI E 2 Wa), (msh, aI E 2 Sh)] [.ref o, .int (nI k)] (qP L h (fun (_ : Unit) => [(o, ob 10 [.ref mw, .ref mk, .ref mt, .ref mr, .ref mki, .ref mso, .ref mst, .ref mpr, .ref msh, .ref mwa, .ref mpu, .ref mtx, .int ts, .int ma, .int bg, .int wr, .int cl, .int (nI (min 8 (u + 1))), .ref mor, .ref mbo, .int mn, .ref tO, .ref tVi, .ref tSm, .int tm]), (mw, aI E 192 (mW (va_up (remR ρ u) 0 (pw, (visP (nI p) k κ κ so sg pr wa ti r s))))), (mr, aI E 8 Re), (mt, aI E 8 Ti), (mki, aI E 12 Ki), (mso, aI E 12 So), (mst, aI E 12 St), (mpr, aI E 12 Pr), (mwa, aI E 2 Wa), (msh, aI E 2 Sh)]) (fun _ => some (.int (muchN κ so sg (wentP (nI p) r s)))) (fun _ => True)) := by
  refine CT.ofV (by decide +kernel) (Nat.le_of_ble_eq_true rfl) ?_
  refine V.locals2 (lv2 := [(0, .ref o), (1, .int (nI k))]) rfl ?_
  refine V.aload_n dX11_visit_0 0 rfl ?_
  refine V.iload_n dX11_visit_1 1 rfl ?_
  refine V.callVp (As := [.int (nI k)]) (rest := []) [0, 9] (c_M_isShop E l L _ o mw mk mt mr mki mso mst mpr msh mwa mpu mtx mor mbo tO tVi tSm ts ma bg wr cl ((nI u)) mn tm Sh m ((nI k)) (eM) (hm)) rfl (by decide) mi_X11_isShop 0 rfl rfl w_860 w_862 wp_17 rfl rfl (Nat.le_of_ble_eq_true rfl) ⟨by decide, by decide⟩ ⟨by decide, by decide⟩ dX11_visit_2 (vw2 := fun _ => [(o, ob 10 [.ref mw, .ref mk, .ref mt, .ref mr, .ref mki, .ref mso, .ref mst, .ref mpr, .ref msh, .ref mwa, .ref mpu, .ref mtx, .int ts, .int ma, .int bg, .int wr, .int cl, .int (nI u), .ref mor, .ref mbo, .int mn, .ref tO, .ref tVi, .ref tSm, .int tm]), (mw, aI E 192 (mW ρ)), (mr, aI E 8 Re), (mt, aI E 8 Ti), (mki, aI E 12 Ki), (mso, aI E 12 So), (mst, aI E 12 St), (mpr, aI E 12 Pr), (mwa, aI E 2 Wa), (msh, aI E 2 Sh)]) (st2 := fun _ => [.int (withinI (nI k) 0 (nI m - 1))]) (fun _ => rfl) (fun _ => rfl) (fun _ => rfl) (fun _ _ => ?_)
  refine V.topc (v := 1) (within_nI hkm (by omega)) ?_
  refine V.if_ne (tgt := 11) dX11_visit_5 (by decide) (fun _ => ?_) (fun hc => absurd hc (by decide))
  refine V.aload_n dX11_visit_11 0 rfl ?_
  refine V.getf 0 0 rfl fa_X11_7_10 rfl dX11_visit_12 ?_
  refine V.bipush (v := 11) dX11_visit_15 (by decide) ?_
  refine V.iald 1 rfl (vin rfl) dX11_visit_17 ?_
  refine V.topc (v := ((mW ρ) 11)) (rfl) ?_
  refine V.topc (v := s.2.2.1) (mW_st (i := 0) hR) ?_
  refine V.sipush (v := 9999) dX11_visit_18 (by decide) ?_
  refine V.icmp_le (tgt := 27) dX11_visit_21 (by decide) (fun _ => ?_) (fun hc => absurd (hst) hc)
  refine V.aload_n dX11_visit_27 0 rfl ?_
  refine V.callVp (As := []) (rest := []) [0, 1] (c_M_remember E l L _ o mw mk mt mr mki mso mst mpr msh mwa mpu mtx mor mbo tO tVi tSm ts ma bg wr cl mn tm ρ u (hu)) rfl (by decide) mi_X11_remember 0 rfl rfl w_895 w_897 wp_22 rfl rfl (Nat.le_of_ble_eq_true rfl) ⟨by decide, by decide⟩ ⟨by decide, by decide⟩ dX11_visit_28 (vw2 := fun _ => [(o, ob 10 [.ref mw, .ref mk, .ref mt, .ref mr, .ref mki, .ref mso, .ref mst, .ref mpr, .ref msh, .ref mwa, .ref mpu, .ref mtx, .int ts, .int ma, .int bg, .int wr, .int cl, .int (nI (min 8 (u + 1))), .ref mor, .ref mbo, .int mn, .ref tO, .ref tVi, .ref tSm, .int tm]), (mw, aI E 192 (mW (remR ρ u))), (mr, aI E 8 Re), (mt, aI E 8 Ti), (mki, aI E 12 Ki), (mso, aI E 12 So), (mst, aI E 12 St), (mpr, aI E 12 Pr), (mwa, aI E 2 Wa), (msh, aI E 2 Sh)]) (st2 := fun _ => []) (fun _ => rfl) (fun _ => rfl) (fun _ => rfl) (fun _ _ => ?_)
  refine V.aload_n dX11_visit_31 0 rfl ?_
  refine V.iconst (v := 0) dX11_visit_32 (by decide) ?_
  refine V.iload_n dX11_visit_33 1 rfl ?_
  refine V.aload_n dX11_visit_34 0 rfl ?_
  refine V.getf 0 4 rfl fa_X11_23_10 rfl dX11_visit_35 ?_
  refine V.iload_n dX11_visit_38 1 rfl ?_
  refine V.iald 4 rfl (vinI (by omega)) dX11_visit_39 ?_
  refine V.topc (v := (Ki k)) (by rw [nI_clamp (by omega)] <;> rfl) ?_
  refine V.topc (v := (kindI κ)) (eK) ?_
  refine V.callVp (As := [.int 0, .int (nI k), .int (kindI κ)]) (rest := []) [0, 1, 2, 3, 4, 5, 6, 7, 8] (c_M_visitAs E l L _ o mw mk mt mr mki mso mst mpr msh mwa mpu mtx mor mbo tO tVi tSm ts ma bg wr cl ((nI (min 8 (u + 1)))) mn tm ((remR ρ u)) 0 pw s Re r Ti ti Ki So St Pr Wa k κ so sg κ pr wa p p0 (by omega) ((remR_lo (by omega)).trans hR) (hk) (hκ) (hso) (eK) (eS) (eT) (eP) (eW) (hp) (hp0) (ep) (ep0) (hgT) (hgC) (hgR) (eR) (hgI) (eI) (hκ)) rfl (by decide) mi_X11_visitAs 0 rfl rfl w_899 w_901 wp_23 rfl rfl (Nat.le_of_ble_eq_true rfl) ⟨by decide, by decide⟩ ⟨by decide, by decide⟩ dX11_visit_40 (vw2 := fun _ => [(o, ob 10 [.ref mw, .ref mk, .ref mt, .ref mr, .ref mki, .ref mso, .ref mst, .ref mpr, .ref msh, .ref mwa, .ref mpu, .ref mtx, .int ts, .int ma, .int bg, .int wr, .int cl, .int (nI (min 8 (u + 1))), .ref mor, .ref mbo, .int mn, .ref tO, .ref tVi, .ref tSm, .int tm]), (mw, aI E 192 (mW (va_up (remR ρ u) 0 (pw, (visP (nI p) k κ κ so sg pr wa ti r s))))), (mr, aI E 8 Re), (mt, aI E 8 Ti), (mki, aI E 12 Ki), (mso, aI E 12 So), (mst, aI E 12 St), (mpr, aI E 12 Pr), (mwa, aI E 2 Wa), (msh, aI E 2 Sh)]) (st2 := fun _ => [.int (muchN κ so sg (wentP (nI p) r s))]) (fun _ => rfl) (fun _ => rfl) (fun _ => rfl) (fun _ _ => ?_)
  exact V.iret rfl dX11_visit_43 (⟨(), rfl, rfl, rfl, trivial⟩)

set_option maxHeartbeats 4000000 in
set_option maxRecDepth 100000 in
theorem c_M_idleO (E : vEnv) (l : Launch) (L : List Nat) (h : Nat → va_E) (o : Nat) (mw : Nat) (mk : Nat) (mt : Nat) (mr : Nat) (mki : Nat) (mso : Nat) (mst : Nat) (mpr : Nat) (msh : Nat) (mwa : Nat) (mpu : Nat) (mtx : Nat) (mor : Nat) (mbo : Nat) (tO : Nat) (tVi : Nat) (tSm : Nat) (ts : Int32) (ma : Int32) (bg : Int32) (wr : Int32) (cl : Int32) (um : Int32) (mn : Int32) (tm : Int32) (x : Int32) (hx : withinI x 1 20 = 0) : CT E l yX11_idle cX11_idle 2 (some (.int)) 1 0 0 L h [(o, ob 10 [.ref mw, .ref mk, .ref mt, .ref mr, .ref mki, .ref mso, .ref mst, .ref mpr, .ref msh, .ref mwa, .ref mpu, .ref mtx, .int ts, .int ma, .int bg, .int wr, .int cl, .int um, .ref mor, .ref mbo, .int mn, .ref tO, .ref tVi, .ref tSm, .int tm])] [.ref o, .int x] (qP L h (fun (_ : Unit) => [(o, ob 10 [.ref mw, .ref mk, .ref mt, .ref mr, .ref mki, .ref mso, .ref mst, .ref mpr, .ref msh, .ref mwa, .ref mpu, .ref mtx, .int ts, .int ma, .int bg, .int wr, .int cl, .int um, .ref mor, .ref mbo, .int mn, .ref tO, .ref tVi, .ref tSm, .int tm])]) (fun _ => some (.int (-3))) (fun _ => True)) := by
  refine CT.ofV (by decide +kernel) (Nat.le_of_ble_eq_true rfl) ?_
  refine V.locals2 (lv2 := [(0, .ref o), (1, .int x)]) rfl ?_
  refine V.iload_n dX11_idle_0 1 rfl ?_
  refine V.i2l dX11_idle_1 ?_
  refine V.lconst (v := 1) dX11_idle_2 (by decide) ?_
  refine V.stack (st2 := [.long (Int32.toInt64 1), .long (Int32.toInt64 x)]) (congrArg (fun z64 => Value.long z64 :: [.long (Int32.toInt64 x)]) (show (1 : Int64) = Int32.toInt64 1 by decide)) ?_
  refine V.ldc2 dX11_idle_3 w_915 ?_
  refine V.stack (st2 := [.long (Int32.toInt64 20), .long (Int32.toInt64 1), .long (Int32.toInt64 x)]) (congrArg (fun z64 => Value.long z64 :: [.long (Int32.toInt64 1), .long (Int32.toInt64 x)]) (show (20 : Int64) = Int32.toInt64 20 by decide)) ?_
  refine V.callSp (As := [.long (Int32.toInt64 x), .long (Int32.toInt64 1), .long (Int32.toInt64 20)]) (rest := []) [] (c_M_in E l L _ x 1 20) rfl (by decide) mi_X11_in w_789 w_790 rfl rfl (Nat.le_of_ble_eq_true rfl) ⟨by decide, by decide⟩ ⟨by decide, by decide⟩ dX11_idle_6 (vw2 := fun _ => [(o, ob 10 [.ref mw, .ref mk, .ref mt, .ref mr, .ref mki, .ref mso, .ref mst, .ref mpr, .ref msh, .ref mwa, .ref mpu, .ref mtx, .int ts, .int ma, .int bg, .int wr, .int cl, .int um, .ref mor, .ref mbo, .int mn, .ref tO, .ref tVi, .ref tSm, .int tm])]) (st2 := fun _ => [.int (withinI x 1 20)]) (fun _ => rfl) (fun _ => rfl) (fun _ => rfl) (fun _ _ => ?_)
  refine V.topc (v := 0) (hx) ?_
  refine V.if_ne (tgt := 15) dX11_idle_9 (by decide) (fun hc => absurd (by decide) hc) (fun _ => ?_)
  refine V.bipush (v := (-3)) dX11_idle_12 (by decide) ?_
  exact V.iret rfl dX11_idle_14 (⟨(), rfl, rfl, rfl, trivial⟩)

set_option maxHeartbeats 4000000 in
set_option maxRecDepth 100000 in
theorem c_M_idleF (E : vEnv) (l : Launch) (L : List Nat) (h : Nat → va_E) (o : Nat) (mw : Nat) (mk : Nat) (mt : Nat) (mr : Nat) (mki : Nat) (mso : Nat) (mst : Nat) (mpr : Nat) (msh : Nat) (mwa : Nat) (mpu : Nat) (mtx : Nat) (mor : Nat) (mbo : Nat) (tO : Nat) (tVi : Nat) (tSm : Nat) (ts : Int32) (ma : Int32) (bg : Int32) (wr : Int32) (cl : Int32) (um : Int32) (mn : Int32) (tm : Int32) (ρ : Nat → MR) (pw : Nat → Int32) (s : NS) (x : Int32) (hR : ρ 0 = (pw, s)) (hx : withinI x 1 20 = 1) (hst : ¬ s.2.2.1 ≤ 9999) : CT E l yX11_idle cX11_idle 2 (some (.int)) 1 0 0 L h [(o, ob 10 [.ref mw, .ref mk, .ref mt, .ref mr, .ref mki, .ref mso, .ref mst, .ref mpr, .ref msh, .ref mwa, .ref mpu, .ref mtx, .int ts, .int ma, .int bg, .int wr, .int cl, .int um, .ref mor, .ref mbo, .int mn, .ref tO, .ref tVi, .ref tSm, .int tm]), (mw, aI E 192 (mW ρ))] [.ref o, .int x] (qP L h (fun (_ : Unit) => [(o, ob 10 [.ref mw, .ref mk, .ref mt, .ref mr, .ref mki, .ref mso, .ref mst, .ref mpr, .ref msh, .ref mwa, .ref mpu, .ref mtx, .int ts, .int ma, .int bg, .int wr, .int cl, .int um, .ref mor, .ref mbo, .int mn, .ref tO, .ref tVi, .ref tSm, .int tm]), (mw, aI E 192 (mW ρ))]) (fun _ => some (.int (-5))) (fun _ => True)) := by
  refine CT.ofV (by decide +kernel) (Nat.le_of_ble_eq_true rfl) ?_
  refine V.locals2 (lv2 := [(0, .ref o), (1, .int x)]) rfl ?_
  refine V.iload_n dX11_idle_0 1 rfl ?_
  refine V.i2l dX11_idle_1 ?_
  refine V.lconst (v := 1) dX11_idle_2 (by decide) ?_
  refine V.stack (st2 := [.long (Int32.toInt64 1), .long (Int32.toInt64 x)]) (congrArg (fun z64 => Value.long z64 :: [.long (Int32.toInt64 x)]) (show (1 : Int64) = Int32.toInt64 1 by decide)) ?_
  refine V.ldc2 dX11_idle_3 w_915 ?_
  refine V.stack (st2 := [.long (Int32.toInt64 20), .long (Int32.toInt64 1), .long (Int32.toInt64 x)]) (congrArg (fun z64 => Value.long z64 :: [.long (Int32.toInt64 1), .long (Int32.toInt64 x)]) (show (20 : Int64) = Int32.toInt64 20 by decide)) ?_
  refine V.callSp (As := [.long (Int32.toInt64 x), .long (Int32.toInt64 1), .long (Int32.toInt64 20)]) (rest := []) [] (c_M_in E l L _ x 1 20) rfl (by decide) mi_X11_in w_789 w_790 rfl rfl (Nat.le_of_ble_eq_true rfl) ⟨by decide, by decide⟩ ⟨by decide, by decide⟩ dX11_idle_6 (vw2 := fun _ => [(o, ob 10 [.ref mw, .ref mk, .ref mt, .ref mr, .ref mki, .ref mso, .ref mst, .ref mpr, .ref msh, .ref mwa, .ref mpu, .ref mtx, .int ts, .int ma, .int bg, .int wr, .int cl, .int um, .ref mor, .ref mbo, .int mn, .ref tO, .ref tVi, .ref tSm, .int tm]), (mw, aI E 192 (mW ρ))]) (st2 := fun _ => [.int (withinI x 1 20)]) (fun _ => rfl) (fun _ => rfl) (fun _ => rfl) (fun _ _ => ?_)
  refine V.topc (v := 1) (hx) ?_
  refine V.if_ne (tgt := 15) dX11_idle_9 (by decide) (fun _ => ?_) (fun hc => absurd hc (by decide))
  refine V.aload_n dX11_idle_15 0 rfl ?_
  refine V.getf 0 0 rfl fa_X11_7_10 rfl dX11_idle_16 ?_
  refine V.bipush (v := 11) dX11_idle_19 (by decide) ?_
  refine V.iald 1 rfl (vin rfl) dX11_idle_21 ?_
  refine V.topc (v := ((mW ρ) 11)) (rfl) ?_
  refine V.topc (v := s.2.2.1) (mW_st (i := 0) hR) ?_
  refine V.sipush (v := 9999) dX11_idle_22 (by decide) ?_
  refine V.icmp_le (tgt := 31) dX11_idle_25 (by decide) (fun hc => absurd hc (hst)) (fun _ => ?_)
  refine V.bipush (v := (-5)) dX11_idle_28 (by decide) ?_
  exact V.iret rfl dX11_idle_30 (⟨(), rfl, rfl, rfl, trivial⟩)

set_option maxHeartbeats 4000000 in
set_option maxRecDepth 100000 in
theorem c_M_idle (E : vEnv) (l : Launch) (L : List Nat) (h : Nat → va_E) (o : Nat) (mw : Nat) (mk : Nat) (mt : Nat) (mr : Nat) (mki : Nat) (mso : Nat) (mst : Nat) (mpr : Nat) (msh : Nat) (mwa : Nat) (mpu : Nat) (mtx : Nat) (mor : Nat) (mbo : Nat) (tO : Nat) (tVi : Nat) (tSm : Nat) (ts : Int32) (ma : Int32) (bg : Int32) (wr : Int32) (cl : Int32) (mn : Int32) (tm : Int32) (ρ : Nat → MR) (pw : Nat → Int32) (s : NS) (Re : Nat → Int32) (r : Nat → Int32) (u : Nat) (n : Nat) (hR : ρ 0 = (pw, s)) (hgT : gT s) (hgC : gC s.2.2.2.1) (hgR : gR r) (eR : ∀ j, j < 4 → Re j = r j) (hu : u ≤ 8) (hx : withinI (nI n) 1 20 = 1) (hn : n ≤ 20) (hst : s.2.2.1 ≤ 9999) : CT E l yX11_idle cX11_idle 2 (some (.int)) 2 0 0 L h [(o, ob 10 [.ref mw, .ref mk, .ref mt, .ref mr, .ref mki, .ref mso, .ref mst, .ref mpr, .ref msh, .ref mwa, .ref mpu, .ref mtx, .int ts, .int ma, .int bg, .int wr, .int cl, .int (nI u), .ref mor, .ref mbo, .int mn, .ref tO, .ref tVi, .ref tSm, .int tm]), (mw, aI E 192 (mW ρ)), (mr, aI E 8 Re)] [.ref o, .int (nI n)] (qP L h (fun (_ : Unit) => [(o, ob 10 [.ref mw, .ref mk, .ref mt, .ref mr, .ref mki, .ref mso, .ref mst, .ref mpr, .ref msh, .ref mwa, .ref mpu, .ref mtx, .int ts, .int ma, .int bg, .int wr, .int cl, .int (nI (min 8 (u + 1))), .ref mor, .ref mbo, .int mn, .ref tO, .ref tVi, .ref tSm, .int tm]), (mw, aI E 192 (mW (va_up (remR ρ u) 0 (pw, (stepN r (nI n) s))))), (mr, aI E 8 Re)]) (fun _ => some (.int (stepN r (nI n) s).2.2.1)) (fun _ => True)) := by
  refine CT.ofV (by decide +kernel) (Nat.le_of_ble_eq_true rfl) ?_
  refine V.locals2 (lv2 := [(0, .ref o), (1, .int (nI n))]) rfl ?_
  refine V.iload_n dX11_idle_0 1 rfl ?_
  refine V.i2l dX11_idle_1 ?_
  refine V.lconst (v := 1) dX11_idle_2 (by decide) ?_
  refine V.stack (st2 := [.long (Int32.toInt64 1), .long (Int32.toInt64 (nI n))]) (congrArg (fun z64 => Value.long z64 :: [.long (Int32.toInt64 (nI n))]) (show (1 : Int64) = Int32.toInt64 1 by decide)) ?_
  refine V.ldc2 dX11_idle_3 w_915 ?_
  refine V.stack (st2 := [.long (Int32.toInt64 20), .long (Int32.toInt64 1), .long (Int32.toInt64 (nI n))]) (congrArg (fun z64 => Value.long z64 :: [.long (Int32.toInt64 1), .long (Int32.toInt64 (nI n))]) (show (20 : Int64) = Int32.toInt64 20 by decide)) ?_
  refine V.callSp (As := [.long (Int32.toInt64 (nI n)), .long (Int32.toInt64 1), .long (Int32.toInt64 20)]) (rest := []) [] (c_M_in E l L _ ((nI n)) 1 20) rfl (by decide) mi_X11_in w_789 w_790 rfl rfl (Nat.le_of_ble_eq_true rfl) ⟨by decide, by decide⟩ ⟨by decide, by decide⟩ dX11_idle_6 (vw2 := fun _ => [(o, ob 10 [.ref mw, .ref mk, .ref mt, .ref mr, .ref mki, .ref mso, .ref mst, .ref mpr, .ref msh, .ref mwa, .ref mpu, .ref mtx, .int ts, .int ma, .int bg, .int wr, .int cl, .int (nI u), .ref mor, .ref mbo, .int mn, .ref tO, .ref tVi, .ref tSm, .int tm]), (mw, aI E 192 (mW ρ)), (mr, aI E 8 Re)]) (st2 := fun _ => [.int (withinI (nI n) 1 20)]) (fun _ => rfl) (fun _ => rfl) (fun _ => rfl) (fun _ _ => ?_)
  refine V.topc (v := 1) (hx) ?_
  refine V.if_ne (tgt := 15) dX11_idle_9 (by decide) (fun _ => ?_) (fun hc => absurd hc (by decide))
  refine V.aload_n dX11_idle_15 0 rfl ?_
  refine V.getf 0 0 rfl fa_X11_7_10 rfl dX11_idle_16 ?_
  refine V.bipush (v := 11) dX11_idle_19 (by decide) ?_
  refine V.iald 1 rfl (vin rfl) dX11_idle_21 ?_
  refine V.topc (v := ((mW ρ) 11)) (rfl) ?_
  refine V.topc (v := s.2.2.1) (mW_st (i := 0) hR) ?_
  refine V.sipush (v := 9999) dX11_idle_22 (by decide) ?_
  refine V.icmp_le (tgt := 31) dX11_idle_25 (by decide) (fun _ => ?_) (fun hc => absurd (hst) hc)
  refine V.aload_n dX11_idle_31 0 rfl ?_
  refine V.callVp (As := []) (rest := []) [0, 1] (c_M_remember E l L _ o mw mk mt mr mki mso mst mpr msh mwa mpu mtx mor mbo tO tVi tSm ts ma bg wr cl mn tm ρ u (hu)) rfl (by decide) mi_X11_remember 0 rfl rfl w_895 w_897 wp_22 rfl rfl (Nat.le_of_ble_eq_true rfl) ⟨by decide, by decide⟩ ⟨by decide, by decide⟩ dX11_idle_32 (vw2 := fun _ => [(o, ob 10 [.ref mw, .ref mk, .ref mt, .ref mr, .ref mki, .ref mso, .ref mst, .ref mpr, .ref msh, .ref mwa, .ref mpu, .ref mtx, .int ts, .int ma, .int bg, .int wr, .int cl, .int (nI (min 8 (u + 1))), .ref mor, .ref mbo, .int mn, .ref tO, .ref tVi, .ref tSm, .int tm]), (mw, aI E 192 (mW (remR ρ u))), (mr, aI E 8 Re)]) (st2 := fun _ => []) (fun _ => rfl) (fun _ => rfl) (fun _ => rfl) (fun _ _ => ?_)
  refine V.aload_n dX11_idle_35 0 rfl ?_
  refine V.iconst (v := 0) dX11_idle_36 (by decide) ?_
  refine V.iload_n dX11_idle_37 1 rfl ?_
  refine V.callVp (As := [.int 0, .int (nI n)]) (rest := []) [0, 1, 2] (c_M_goOn E l L _ o mw mk mt mr mki mso mst mpr msh mwa mpu mtx mor mbo tO tVi tSm ts ma bg wr cl ((nI (min 8 (u + 1)))) mn tm ((remR ρ u)) 0 pw s Re r n (by omega) ((remR_lo (by omega)).trans hR) (hgT) (hgC) (hgR) (eR) (by omega)) rfl (by decide) mi_X11_goOn 0 rfl rfl w_907 w_909 wp_25 rfl rfl (Nat.le_of_ble_eq_true rfl) ⟨by decide, by decide⟩ ⟨by decide, by decide⟩ dX11_idle_38 (vw2 := fun _ => [(o, ob 10 [.ref mw, .ref mk, .ref mt, .ref mr, .ref mki, .ref mso, .ref mst, .ref mpr, .ref msh, .ref mwa, .ref mpu, .ref mtx, .int ts, .int ma, .int bg, .int wr, .int cl, .int (nI (min 8 (u + 1))), .ref mor, .ref mbo, .int mn, .ref tO, .ref tVi, .ref tSm, .int tm]), (mw, aI E 192 (mW (va_up (remR ρ u) 0 (pw, (stepN r (nI n) s))))), (mr, aI E 8 Re)]) (st2 := fun _ => []) (fun _ => rfl) (fun _ => rfl) (fun _ => rfl) (fun _ _ => ?_)
  refine V.aload_n dX11_idle_41 0 rfl ?_
  refine V.getf 0 0 rfl fa_X11_7_10 rfl dX11_idle_42 ?_
  refine V.bipush (v := 11) dX11_idle_45 (by decide) ?_
  refine V.iald 1 rfl (vin rfl) dX11_idle_47 ?_
  refine V.topc (v := ((mW (va_up (remR ρ u) 0 (pw, (stepN r (nI n) s)))) 11)) (rfl) ?_
  refine V.topc (v := (stepN r (nI n) s).2.2.1) (mW_st (i := 0) (va_up_self _ _ _)) ?_
  exact V.iret rfl dX11_idle_48 (⟨(), rfl, rfl, rfl, trivial⟩)

set_option maxHeartbeats 4000000 in
set_option maxRecDepth 100000 in
theorem c_M_windN (E : vEnv) (l : Launch) (L : List Nat) (h : Nat → va_E) (o : Nat) (mw : Nat) (mk : Nat) (mt : Nat) (mr : Nat) (mki : Nat) (mso : Nat) (mst : Nat) (mpr : Nat) (msh : Nat) (mwa : Nat) (mpu : Nat) (mtx : Nat) (mor : Nat) (mbo : Nat) (tO : Nat) (tVi : Nat) (tSm : Nat) (ts : Int32) (ma : Int32) (bg : Int32) (wr : Int32) (cl : Int32) (um : Int32) (mn : Int32) (tm : Int32) (Sh : Nat → Int32) (eM : Sh 0 = 0) : CT E l yX11_wind cX11_wind 2 (some (.int)) 0 0 0 L h [(o, ob 10 [.ref mw, .ref mk, .ref mt, .ref mr, .ref mki, .ref mso, .ref mst, .ref mpr, .ref msh, .ref mwa, .ref mpu, .ref mtx, .int ts, .int ma, .int bg, .int wr, .int cl, .int um, .ref mor, .ref mbo, .int mn, .ref tO, .ref tVi, .ref tSm, .int tm]), (msh, aI E 2 Sh)] [.ref o] (qP L h (fun (_ : Unit) => [(o, ob 10 [.ref mw, .ref mk, .ref mt, .ref mr, .ref mki, .ref mso, .ref mst, .ref mpr, .ref msh, .ref mwa, .ref mpu, .ref mtx, .int ts, .int ma, .int bg, .int wr, .int cl, .int um, .ref mor, .ref mbo, .int mn, .ref tO, .ref tVi, .ref tSm, .int tm]), (msh, aI E 2 Sh)]) (fun _ => some (.int (-4))) (fun _ => True)) := by
  refine CT.ofV (by decide +kernel) (Nat.le_of_ble_eq_true rfl) ?_
  refine V.locals2 (lv2 := [(0, .ref o)]) rfl ?_
  refine V.aload_n dX11_wind_0 0 rfl ?_
  refine V.getf 0 8 rfl fa_X11_35_10 rfl dX11_wind_1 ?_
  refine V.iconst (v := 0) dX11_wind_4 (by decide) ?_
  refine V.iald 1 rfl (vin rfl) dX11_wind_5 ?_
  refine V.topc (v := (Sh 0)) (rfl) ?_
  refine V.topc (v := 0) (eM) ?_
  refine V.if_ne (tgt := 12) dX11_wind_6 (by decide) (fun hc => absurd (by decide) hc) (fun _ => ?_)
  refine V.bipush (v := (-4)) dX11_wind_9 (by decide) ?_
  exact V.iret rfl dX11_wind_11 (⟨(), rfl, rfl, rfl, trivial⟩)

set_option maxHeartbeats 4000000 in
set_option maxRecDepth 100000 in
theorem c_M_wind (E : vEnv) (l : Launch) (L : List Nat) (h : Nat → va_E) (o : Nat) (mw : Nat) (mk : Nat) (mt : Nat) (mr : Nat) (mki : Nat) (mso : Nat) (mst : Nat) (mpr : Nat) (msh : Nat) (mwa : Nat) (mpu : Nat) (mtx : Nat) (mor : Nat) (mbo : Nat) (tO : Nat) (tVi : Nat) (tSm : Nat) (ts : Int32) (ma : Int32) (bg : Int32) (wr : Int32) (cl : Int32) (mn : Int32) (tm : Int32) (ρ : Nat → MR) (pw : Nat → Int32) (s : NS) (Sh : Nat → Int32) (m : Nat) (u : Nat) (hR : ρ 0 = (pw, s)) (eM : Sh 0 = nI m) (hm : m ≤ 6) (hu : u ≤ 8) (hm0 : 0 < m) : CT E l yX11_wind cX11_wind 2 (some (.int)) 2 0 0 L h [(o, ob 10 [.ref mw, .ref mk, .ref mt, .ref mr, .ref mki, .ref mso, .ref mst, .ref mpr, .ref msh, .ref mwa, .ref mpu, .ref mtx, .int ts, .int ma, .int bg, .int wr, .int cl, .int (nI u), .ref mor, .ref mbo, .int mn, .ref tO, .ref tVi, .ref tSm, .int tm]), (mw, aI E 192 (mW ρ)), (msh, aI E 2 Sh)] [.ref o] (qP L h (fun (_ : Unit) => [(o, ob 10 [.ref mw, .ref mk, .ref mt, .ref mr, .ref mki, .ref mso, .ref mst, .ref mpr, .ref msh, .ref mwa, .ref mpu, .ref mtx, .int ts, .int ma, .int bg, .int wr, .int cl, .int (nI (min 8 (u + 1))), .ref mor, .ref mbo, .int mn, .ref tO, .ref tVi, .ref tSm, .int tm]), (mw, aI E 192 (mW (va_up (remR ρ u) 0 ((wPl m m pw), (windN m s))))), (msh, aI E 2 Sh)]) (fun _ => some (.int (nI m - 1 - s.2.1))) (fun _ => True)) := by
  refine CT.ofV (by decide +kernel) (Nat.le_of_ble_eq_true rfl) ?_
  obtain ⟨Z, hZ⟩ : ∃ Z, Z = mZ E (qP L h (fun (_ : Unit) => [(o, ob 10 [.ref mw, .ref mk, .ref mt, .ref mr, .ref mki, .ref mso, .ref mst, .ref mpr, .ref msh, .ref mwa, .ref mpu, .ref mtx, .int ts, .int ma, .int bg, .int wr, .int cl, .int (nI (min 8 (u + 1))), .ref mor, .ref mbo, .int mn, .ref tO, .ref tVi, .ref tSm, .int tm]), (mw, aI E 192 (mW (va_up (remR ρ u) 0 ((wPl m m pw), (windN m s))))), (msh, aI E 2 Sh)]) (fun _ => some (.int (nI m - 1 - s.2.1))) (fun _ => True)) 0 0 := ⟨_, rfl⟩
  rw [← hZ]
  refine V.locals2 (lv2 := [(0, .ref o)]) rfl ?_
  refine V.aload_n dX11_wind_0 0 rfl ?_
  refine V.getf 0 8 rfl fa_X11_35_10 rfl dX11_wind_1 ?_
  refine V.iconst (v := 0) dX11_wind_4 (by decide) ?_
  refine V.iald 2 rfl (vin rfl) dX11_wind_5 ?_
  refine V.topc (v := (Sh 0)) (rfl) ?_
  refine V.topc (v := (nI m)) (eM) ?_
  refine V.if_ne (tgt := 12) dX11_wind_6 (by decide) (fun _ => ?_) (fun hc => absurd hc (by rw [show (0 : Int32) = nI 0 from rfl]; intro hh; exact absurd ((nI_eq (by omega) (by omega)).mp hh) (by omega)))
  refine V.aload_n dX11_wind_12 0 rfl ?_
  refine V.callVp (As := []) (rest := []) [0, 1] (c_M_remember E l L _ o mw mk mt mr mki mso mst mpr msh mwa mpu mtx mor mbo tO tVi tSm ts ma bg wr cl mn tm ρ u (hu)) rfl (by decide) mi_X11_remember 0 rfl rfl w_895 w_897 wp_22 rfl rfl (Nat.le_of_ble_eq_true rfl) ⟨by decide, by decide⟩ ⟨by decide, by decide⟩ dX11_wind_13 (vw2 := fun _ => [(o, ob 10 [.ref mw, .ref mk, .ref mt, .ref mr, .ref mki, .ref mso, .ref mst, .ref mpr, .ref msh, .ref mwa, .ref mpu, .ref mtx, .int ts, .int ma, .int bg, .int wr, .int cl, .int (nI (min 8 (u + 1))), .ref mor, .ref mbo, .int mn, .ref tO, .ref tVi, .ref tSm, .int tm]), (mw, aI E 192 (mW (remR ρ u))), (msh, aI E 2 Sh)]) (st2 := fun _ => []) (fun _ => rfl) (fun _ => rfl) (fun _ => rfl) (fun _ _ => ?_)
  refine V.iconst (v := 0) dX11_wind_16 (by decide) ?_
  refine V.istore_n (lv2 := [(1, .int 0), (0, .ref o)]) dX11_wind_17 rfl (by decide) rfl ?_
  refine V.arrEq (vw2 := [(o, ob 10 [.ref mw, .ref mk, .ref mt, .ref mr, .ref mki, .ref mso, .ref mst, .ref mpr, .ref msh, .ref mwa, .ref mpu, .ref mtx, .int ts, .int ma, .int bg, .int wr, .int cl, .int (nI (min 8 (u + 1))), .ref mor, .ref mbo, .int mn, .ref tO, .ref tVi, .ref tSm, .int tm]), (mw, aI E 192 (mW (va_up (remR ρ u) 0 ((wPl m 0 pw), s)))), (msh, aI E 2 Sh)]) 1 0 rfl (fun j _ => by rw [show (wPl m 0 pw) = pw from rfl, va_up_id ((remR_lo (by omega)).trans hR)]) rfl ?_
  refine V.locals [1, 0] (by rfl) ?_
  have lp_18 : ∀ (fuel : Nat) (k : Nat) (hkm : k ≤ m) (hf : m < k + fuel), V E l yX11_wind cX11_wind 2 (some (.int)) (rmk 2 0 0) Z L h 0 0 [(o, ob 10 [.ref mw, .ref mk, .ref mt, .ref mr, .ref mki, .ref mso, .ref mst, .ref mpr, .ref msh, .ref mwa, .ref mpu, .ref mtx, .int ts, .int ma, .int bg, .int wr, .int cl, .int (nI (min 8 (u + 1))), .ref mor, .ref mbo, .int mn, .ref tO, .ref tVi, .ref tSm, .int tm]), (mw, aI E 192 (mW (va_up (remR ρ u) 0 ((wPl m k pw), s)))), (msh, aI E 2 Sh)] 18 [(0, .ref o), (1, .int (nI k))] [] := by
    intro fuel
    induction fuel with
    | zero =>
      intro k hkm hf
      exfalso; omega
    | succ fuel ih_18 =>
      intro k hkm hf
      refine V.iload_n dX11_wind_18 1 rfl ?_
      refine V.aload_n dX11_wind_19 0 rfl ?_
      refine V.getf 0 8 rfl fa_X11_35_10 rfl dX11_wind_20 ?_
      refine V.iconst (v := 0) dX11_wind_23 (by decide) ?_
      refine V.iald 2 rfl (vin rfl) dX11_wind_24 ?_
      refine V.topc (v := (Sh 0)) (rfl) ?_
      refine V.topc (v := (nI m)) (eM) ?_
      refine V.icmp_ge (tgt := 55) dX11_wind_25 (by decide) (fun c1_25 => ?_) (fun c1_25 => ?_)
      · skip
        have hxc1_25 : m ≤ k := (nI_leI (a := m) (by omega) (by omega)).mp c1_25
        have hqc1_25 : k = m := by omega
        refine V.aload_n dX11_wind_55 0 rfl ?_
        refine V.getf 0 0 rfl fa_X11_7_10 rfl dX11_wind_56 ?_
        refine V.bipush (v := 10) dX11_wind_59 (by decide) ?_
        refine V.aload_n dX11_wind_61 0 rfl ?_
        refine V.getf 0 8 rfl fa_X11_35_10 rfl dX11_wind_62 ?_
        refine V.iconst (v := 0) dX11_wind_65 (by decide) ?_
        refine V.iald 2 rfl (vin rfl) dX11_wind_66 ?_
        refine V.topc (v := (Sh 0)) (rfl) ?_
        refine V.topc (v := (nI m)) (eM) ?_
        refine V.iconst (v := 1) dX11_wind_67 (by decide) ?_
        refine V.isub dX11_wind_68 ?_
        refine V.aload_n dX11_wind_69 0 rfl ?_
        refine V.getf 0 0 rfl fa_X11_7_10 rfl dX11_wind_70 ?_
        refine V.bipush (v := 10) dX11_wind_73 (by decide) ?_
        refine V.iald 1 rfl (vin rfl) dX11_wind_75 ?_
        refine V.topc (v := ((mW (va_up (remR ρ u) 0 ((wPl m k pw), s))) 10)) (rfl) ?_
        refine V.topc (v := s.2.1) (mW_no (i := 0) (va_up_self _ _ _)) ?_
        refine V.isub dX11_wind_76 ?_
        refine V.iast (vw2 := [(o, ob 10 [.ref mw, .ref mk, .ref mt, .ref mr, .ref mki, .ref mso, .ref mst, .ref mpr, .ref msh, .ref mwa, .ref mpu, .ref mtx, .int ts, .int ma, .int bg, .int wr, .int cl, .int (nI (min 8 (u + 1))), .ref mor, .ref mbo, .int mn, .ref tO, .ref tVi, .ref tSm, .int tm]), (mw, aI E 192 (upd (mW (va_up (remR ρ u) 0 ((wPl m k pw), s))) 10 (((nI m) - 1) - s.2.1))), (msh, aI E 2 Sh)]) 1 rfl (vin rfl) (rfl) dX11_wind_77 ?_
        refine V.arrEq (vw2 := [(o, ob 10 [.ref mw, .ref mk, .ref mt, .ref mr, .ref mki, .ref mso, .ref mst, .ref mpr, .ref msh, .ref mwa, .ref mpu, .ref mtx, .int ts, .int ma, .int bg, .int wr, .int cl, .int (nI (min 8 (u + 1))), .ref mor, .ref mbo, .int mn, .ref tO, .ref tVi, .ref tSm, .int tm]), (mw, aI E 192 (mW (va_up (remR ρ u) 0 ((wPl m m pw), (windN m s))))), (msh, aI E 2 Sh)]) 1 0 rfl (fun j _ => by rw [hqc1_25]; exact mW_upr (k := 10) (by decide) (by rfl) (row_but (by rfl) (by rfl) (by first | exact Or.inl rfl | exact Or.inr rfl) (by first | exact Or.inl rfl | exact Or.inr rfl) (by first | exact Or.inl rfl | exact Or.inr rfl) (by first | exact Or.inl rfl | exact Or.inr rfl) (by first | exact Or.inl rfl | exact Or.inr rfl) (by first | exact Or.inl rfl | exact Or.inr rfl)) j) rfl ?_
        refine V.aload_n dX11_wind_78 0 rfl ?_
        refine V.getf 0 0 rfl fa_X11_7_10 rfl dX11_wind_79 ?_
        refine V.bipush (v := 10) dX11_wind_82 (by decide) ?_
        refine V.iald 1 rfl (vin rfl) dX11_wind_84 ?_
        refine V.topc (v := ((mW (va_up (remR ρ u) 0 ((wPl m m pw), (windN m s)))) 10)) (rfl) ?_
        refine V.topc (v := (nI m - 1 - s.2.1)) (mW_no (i := 0) (va_up_self _ _ _)) ?_
        subst hZ
        exact V.iret rfl dX11_wind_85 (⟨(), rfl, rfl, rfl, trivial⟩)
      · skip
        have hxc1_25 : k < m := Nat.lt_of_not_le (fun hh => c1_25 (nI_le (a := m) hh (by omega)))
        refine V.aload_n dX11_wind_28 0 rfl ?_
        refine V.getf 0 0 rfl fa_X11_7_10 rfl dX11_wind_29 ?_
        refine V.iload_n dX11_wind_32 1 rfl ?_
        refine V.aload_n dX11_wind_33 0 rfl ?_
        refine V.getf 0 8 rfl fa_X11_35_10 rfl dX11_wind_34 ?_
        refine V.iconst (v := 0) dX11_wind_37 (by decide) ?_
        refine V.iald 2 rfl (vin rfl) dX11_wind_38 ?_
        refine V.topc (v := (Sh 0)) (rfl) ?_
        refine V.topc (v := (nI m)) (eM) ?_
        refine V.iconst (v := 1) dX11_wind_39 (by decide) ?_
        refine V.isub dX11_wind_40 ?_
        refine V.aload_n dX11_wind_41 0 rfl ?_
        refine V.getf 0 0 rfl fa_X11_7_10 rfl dX11_wind_42 ?_
        refine V.iload_n dX11_wind_45 1 rfl ?_
        refine V.iald 1 rfl (vinI (by omega)) dX11_wind_46 ?_
        refine V.topc (v := ((mW (va_up (remR ρ u) 0 ((wPl m k pw), s))) k)) (by rw [nI_clamp (by omega)] <;> rfl) ?_
        refine V.topc (v := (wPl m k pw k)) (mW_pl0 (va_up_self _ _ _) (by omega)) ?_
        refine V.isub dX11_wind_47 ?_
        refine V.iast (vw2 := [(o, ob 10 [.ref mw, .ref mk, .ref mt, .ref mr, .ref mki, .ref mso, .ref mst, .ref mpr, .ref msh, .ref mwa, .ref mpu, .ref mtx, .int ts, .int ma, .int bg, .int wr, .int cl, .int (nI (min 8 (u + 1))), .ref mor, .ref mbo, .int mn, .ref tO, .ref tVi, .ref tSm, .int tm]), (mw, aI E 192 (upd (mW (va_up (remR ρ u) 0 ((wPl m k pw), s))) k (((nI m) - 1) - (wPl m k pw k)))), (msh, aI E 2 Sh)]) 1 rfl (vinI (by omega)) (by rw [nI_clamp (by omega)] <;> rfl) dX11_wind_48 ?_
        refine V.arrEq (vw2 := [(o, ob 10 [.ref mw, .ref mk, .ref mt, .ref mr, .ref mki, .ref mso, .ref mst, .ref mpr, .ref msh, .ref mwa, .ref mpu, .ref mtx, .int ts, .int ma, .int bg, .int wr, .int cl, .int (nI (min 8 (u + 1))), .ref mor, .ref mbo, .int mn, .ref tO, .ref tVi, .ref tSm, .int tm]), (mw, aI E 192 (mW (va_up (remR ρ u) 0 ((wPl m (k + 1) pw), s)))), (msh, aI E 2 Sh)]) 1 0 rfl (fun j _ => by rw [show upd (mW (va_up (remR ρ u) 0 ((wPl m k pw), s))) k (nI m - 1 - wPl m k pw k) j = upd (mW (va_up (remR ρ u) 0 ((wPl m k pw), s))) (16 * 0 + k) (nI m - 1 - wPl m k pw k) j by rw [show 16 * 0 + k = k by omega], mW_plu (va_up_self _ _ _) (by omega), va_up_up]; exact mW_plr (fun j9 _ => wPl_s m k pw j9) j) rfl ?_
        refine V.iinc (v := (nI (k + 1))) (lv2 := [(1, .int (nI (k + 1))), (0, .ref o)]) dX11_wind_49 1 rfl (nI_1 _) (by decide) rfl ?_
        refine V.goto (tgt := 18) dX11_wind_52 (by decide) ?_
        refine V.locals [1, 0] (by rfl) ?_
        exact ih_18 (k + 1) (by omega) (by omega)
  exact lp_18 (m + 1) 0 (Nat.zero_le _) (by omega)

set_option maxHeartbeats 4000000 in
set_option maxRecDepth 100000 in
theorem c_M_coldO (E : vEnv) (l : Launch) (L : List Nat) (h : Nat → va_E) (o : Nat) (mw : Nat) (mk : Nat) (mt : Nat) (mr : Nat) (mki : Nat) (mso : Nat) (mst : Nat) (mpr : Nat) (msh : Nat) (mwa : Nat) (mpu : Nat) (mtx : Nat) (mor : Nat) (mbo : Nat) (tO : Nat) (tVi : Nat) (tSm : Nat) (ts : Int32) (ma : Int32) (bg : Int32) (wr : Int32) (cl : Int32) (um : Int32) (mn : Int32) (tm : Int32) (x : Int32) (hx : withinI x 0 50 = 0) : CT E l yX11_cold cX11_cold 3 (some (.int)) 1 0 0 L h [(o, ob 10 [.ref mw, .ref mk, .ref mt, .ref mr, .ref mki, .ref mso, .ref mst, .ref mpr, .ref msh, .ref mwa, .ref mpu, .ref mtx, .int ts, .int ma, .int bg, .int wr, .int cl, .int um, .ref mor, .ref mbo, .int mn, .ref tO, .ref tVi, .ref tSm, .int tm])] [.ref o, .int x] (qP L h (fun (_ : Unit) => [(o, ob 10 [.ref mw, .ref mk, .ref mt, .ref mr, .ref mki, .ref mso, .ref mst, .ref mpr, .ref msh, .ref mwa, .ref mpu, .ref mtx, .int ts, .int ma, .int bg, .int wr, .int cl, .int um, .ref mor, .ref mbo, .int mn, .ref tO, .ref tVi, .ref tSm, .int tm])]) (fun _ => some (.int (-3))) (fun _ => True)) := by
  refine CT.ofV (by decide +kernel) (Nat.le_of_ble_eq_true rfl) ?_
  refine V.locals2 (lv2 := [(0, .ref o), (1, .int x)]) rfl ?_
  refine V.iload_n dX11_cold_0 1 rfl ?_
  refine V.i2l dX11_cold_1 ?_
  refine V.lconst (v := 0) dX11_cold_2 (by decide) ?_
  refine V.stack (st2 := [.long (Int32.toInt64 0), .long (Int32.toInt64 x)]) (congrArg (fun z64 => Value.long z64 :: [.long (Int32.toInt64 x)]) (show (0 : Int64) = Int32.toInt64 0 by decide)) ?_
  refine V.ldc2 dX11_cold_3 w_924 ?_
  refine V.stack (st2 := [.long (Int32.toInt64 50), .long (Int32.toInt64 0), .long (Int32.toInt64 x)]) (congrArg (fun z64 => Value.long z64 :: [.long (Int32.toInt64 0), .long (Int32.toInt64 x)]) (show (50 : Int64) = Int32.toInt64 50 by decide)) ?_
  refine V.callSp (As := [.long (Int32.toInt64 x), .long (Int32.toInt64 0), .long (Int32.toInt64 50)]) (rest := []) [] (c_M_in E l L _ x 0 50) rfl (by decide) mi_X11_in w_789 w_790 rfl rfl (Nat.le_of_ble_eq_true rfl) ⟨by decide, by decide⟩ ⟨by decide, by decide⟩ dX11_cold_6 (vw2 := fun _ => [(o, ob 10 [.ref mw, .ref mk, .ref mt, .ref mr, .ref mki, .ref mso, .ref mst, .ref mpr, .ref msh, .ref mwa, .ref mpu, .ref mtx, .int ts, .int ma, .int bg, .int wr, .int cl, .int um, .ref mor, .ref mbo, .int mn, .ref tO, .ref tVi, .ref tSm, .int tm])]) (st2 := fun _ => [.int (withinI x 0 50)]) (fun _ => rfl) (fun _ => rfl) (fun _ => rfl) (fun _ _ => ?_)
  refine V.topc (v := 0) (hx) ?_
  refine V.if_ne (tgt := 15) dX11_cold_9 (by decide) (fun hc => absurd (by decide) hc) (fun _ => ?_)
  refine V.bipush (v := (-3)) dX11_cold_12 (by decide) ?_
  exact V.iret rfl dX11_cold_14 (⟨(), rfl, rfl, rfl, trivial⟩)

set_option maxHeartbeats 4000000 in
set_option maxRecDepth 100000 in
theorem c_M_cold (E : vEnv) (l : Launch) (L : List Nat) (h : Nat → va_E) (o : Nat) (mw : Nat) (mk : Nat) (mt : Nat) (mr : Nat) (mki : Nat) (mso : Nat) (mst : Nat) (mpr : Nat) (msh : Nat) (mwa : Nat) (mpu : Nat) (mtx : Nat) (mor : Nat) (mbo : Nat) (tO : Nat) (tVi : Nat) (tSm : Nat) (ts : Int32) (ma : Int32) (bg : Int32) (wr : Int32) (cl : Int32) (mn : Int32) (tm : Int32) (ρ : Nat → MR) (pw : Nat → Int32) (s : NS) (u : Nat) (x : Int32) (hR : ρ 0 = (pw, s)) (hu : u ≤ 8) (hx : withinI x 0 50 = 1) : CT E l yX11_cold cX11_cold 3 (some (.int)) 2 0 0 L h [(o, ob 10 [.ref mw, .ref mk, .ref mt, .ref mr, .ref mki, .ref mso, .ref mst, .ref mpr, .ref msh, .ref mwa, .ref mpu, .ref mtx, .int ts, .int ma, .int bg, .int wr, .int cl, .int (nI u), .ref mor, .ref mbo, .int mn, .ref tO, .ref tVi, .ref tSm, .int tm]), (mw, aI E 192 (mW ρ))] [.ref o, .int x] (qP L h (fun (_ : Unit) => [(o, ob 10 [.ref mw, .ref mk, .ref mt, .ref mr, .ref mki, .ref mso, .ref mst, .ref mpr, .ref msh, .ref mwa, .ref mpu, .ref mtx, .int ts, .int ma, .int bg, .int wr, .int cl, .int (nI (min 8 (u + 1))), .ref mor, .ref mbo, .int mn, .ref tO, .ref tVi, .ref tSm, .int tm]), (mw, aI E 192 (mW (va_up (remR ρ u) 0 (pw, (coldN x s)))))]) (fun _ => some (.int s.2.2.2.1)) (fun _ => True)) := by
  refine CT.ofV (by decide +kernel) (Nat.le_of_ble_eq_true rfl) ?_
  refine V.locals2 (lv2 := [(0, .ref o), (1, .int x)]) rfl ?_
  refine V.iload_n dX11_cold_0 1 rfl ?_
  refine V.i2l dX11_cold_1 ?_
  refine V.lconst (v := 0) dX11_cold_2 (by decide) ?_
  refine V.stack (st2 := [.long (Int32.toInt64 0), .long (Int32.toInt64 x)]) (congrArg (fun z64 => Value.long z64 :: [.long (Int32.toInt64 x)]) (show (0 : Int64) = Int32.toInt64 0 by decide)) ?_
  refine V.ldc2 dX11_cold_3 w_924 ?_
  refine V.stack (st2 := [.long (Int32.toInt64 50), .long (Int32.toInt64 0), .long (Int32.toInt64 x)]) (congrArg (fun z64 => Value.long z64 :: [.long (Int32.toInt64 0), .long (Int32.toInt64 x)]) (show (50 : Int64) = Int32.toInt64 50 by decide)) ?_
  refine V.callSp (As := [.long (Int32.toInt64 x), .long (Int32.toInt64 0), .long (Int32.toInt64 50)]) (rest := []) [] (c_M_in E l L _ x 0 50) rfl (by decide) mi_X11_in w_789 w_790 rfl rfl (Nat.le_of_ble_eq_true rfl) ⟨by decide, by decide⟩ ⟨by decide, by decide⟩ dX11_cold_6 (vw2 := fun _ => [(o, ob 10 [.ref mw, .ref mk, .ref mt, .ref mr, .ref mki, .ref mso, .ref mst, .ref mpr, .ref msh, .ref mwa, .ref mpu, .ref mtx, .int ts, .int ma, .int bg, .int wr, .int cl, .int (nI u), .ref mor, .ref mbo, .int mn, .ref tO, .ref tVi, .ref tSm, .int tm]), (mw, aI E 192 (mW ρ))]) (st2 := fun _ => [.int (withinI x 0 50)]) (fun _ => rfl) (fun _ => rfl) (fun _ => rfl) (fun _ _ => ?_)
  refine V.topc (v := 1) (hx) ?_
  refine V.if_ne (tgt := 15) dX11_cold_9 (by decide) (fun _ => ?_) (fun hc => absurd hc (by decide))
  refine V.aload_n dX11_cold_15 0 rfl ?_
  refine V.callVp (As := []) (rest := []) [0, 1] (c_M_remember E l L _ o mw mk mt mr mki mso mst mpr msh mwa mpu mtx mor mbo tO tVi tSm ts ma bg wr cl mn tm ρ u (hu)) rfl (by decide) mi_X11_remember 0 rfl rfl w_895 w_897 wp_22 rfl rfl (Nat.le_of_ble_eq_true rfl) ⟨by decide, by decide⟩ ⟨by decide, by decide⟩ dX11_cold_16 (vw2 := fun _ => [(o, ob 10 [.ref mw, .ref mk, .ref mt, .ref mr, .ref mki, .ref mso, .ref mst, .ref mpr, .ref msh, .ref mwa, .ref mpu, .ref mtx, .int ts, .int ma, .int bg, .int wr, .int cl, .int (nI (min 8 (u + 1))), .ref mor, .ref mbo, .int mn, .ref tO, .ref tVi, .ref tSm, .int tm]), (mw, aI E 192 (mW (remR ρ u)))]) (st2 := fun _ => []) (fun _ => rfl) (fun _ => rfl) (fun _ => rfl) (fun _ _ => ?_)
  refine V.aload_n dX11_cold_19 0 rfl ?_
  refine V.getf 0 0 rfl fa_X11_7_10 rfl dX11_cold_20 ?_
  refine V.bipush (v := 14) dX11_cold_23 (by decide) ?_
  refine V.iald 1 rfl (vin rfl) dX11_cold_25 ?_
  refine V.topc (v := ((mW (remR ρ u)) 14)) (rfl) ?_
  refine V.topc (v := s.2.2.2.1) (mW_co (i := 0) ((remR_lo (by omega)).trans hR)) ?_
  refine V.istore_n (lv2 := [(2, .int s.2.2.2.1), (0, .ref o), (1, .int x)]) dX11_cold_26 rfl (by decide) rfl ?_
  refine V.aload_n dX11_cold_27 1 rfl ?_
  refine V.getf 0 0 rfl fa_X11_7_10 rfl dX11_cold_28 ?_
  refine V.bipush (v := 14) dX11_cold_31 (by decide) ?_
  refine V.iload_n dX11_cold_33 2 rfl ?_
  refine V.iast (vw2 := [(o, ob 10 [.ref mw, .ref mk, .ref mt, .ref mr, .ref mki, .ref mso, .ref mst, .ref mpr, .ref msh, .ref mwa, .ref mpu, .ref mtx, .int ts, .int ma, .int bg, .int wr, .int cl, .int (nI (min 8 (u + 1))), .ref mor, .ref mbo, .int mn, .ref tO, .ref tVi, .ref tSm, .int tm]), (mw, aI E 192 (upd (mW (remR ρ u)) 14 x))]) 1 rfl (vin rfl) (rfl) dX11_cold_34 ?_
  refine V.arrEq (vw2 := [(o, ob 10 [.ref mw, .ref mk, .ref mt, .ref mr, .ref mki, .ref mso, .ref mst, .ref mpr, .ref msh, .ref mwa, .ref mpu, .ref mtx, .int ts, .int ma, .int bg, .int wr, .int cl, .int (nI (min 8 (u + 1))), .ref mor, .ref mbo, .int mn, .ref tO, .ref tVi, .ref tSm, .int tm]), (mw, aI E 192 (mW (va_up (remR ρ u) 0 (pw, (coldN x s)))))]) 1 0 rfl (fun j _ => mW_upd (i := 0) (k := 14) ((remR_lo (by omega)).trans hR) (by decide) (by rfl) (row_but (by rfl) (by rfl) (by first | exact Or.inl rfl | exact Or.inr rfl) (by first | exact Or.inl rfl | exact Or.inr rfl) (by first | exact Or.inl rfl | exact Or.inr rfl) (by first | exact Or.inl rfl | exact Or.inr rfl) (by first | exact Or.inl rfl | exact Or.inr rfl) (by first | exact Or.inl rfl | exact Or.inr rfl)) j) rfl ?_
  refine V.iload_n dX11_cold_35 0 rfl ?_
  exact V.iret rfl dX11_cold_36 (⟨(), rfl, rfl, rfl, trivial⟩)

set_option maxHeartbeats 4000000 in
set_option maxRecDepth 100000 in
theorem c_M_undoN (E : vEnv) (l : Launch) (L : List Nat) (h : Nat → va_E) (o : Nat) (mw : Nat) (mk : Nat) (mt : Nat) (mr : Nat) (mki : Nat) (mso : Nat) (mst : Nat) (mpr : Nat) (msh : Nat) (mwa : Nat) (mpu : Nat) (mtx : Nat) (mor : Nat) (mbo : Nat) (tO : Nat) (tVi : Nat) (tSm : Nat) (ts : Int32) (ma : Int32) (bg : Int32) (wr : Int32) (cl : Int32) (mn : Int32) (tm : Int32) : CT E l yX11_undo cX11_undo 1 (some (.int)) 0 0 0 L h [(o, ob 10 [.ref mw, .ref mk, .ref mt, .ref mr, .ref mki, .ref mso, .ref mst, .ref mpr, .ref msh, .ref mwa, .ref mpu, .ref mtx, .int ts, .int ma, .int bg, .int wr, .int cl, .int 0, .ref mor, .ref mbo, .int mn, .ref tO, .ref tVi, .ref tSm, .int tm])] [.ref o] (qP L h (fun (_ : Unit) => [(o, ob 10 [.ref mw, .ref mk, .ref mt, .ref mr, .ref mki, .ref mso, .ref mst, .ref mpr, .ref msh, .ref mwa, .ref mpu, .ref mtx, .int ts, .int ma, .int bg, .int wr, .int cl, .int 0, .ref mor, .ref mbo, .int mn, .ref tO, .ref tVi, .ref tSm, .int tm])]) (fun _ => some (.int (-4))) (fun _ => True)) := by
  refine CT.ofV (by decide +kernel) (Nat.le_of_ble_eq_true rfl) ?_
  refine V.locals2 (lv2 := [(0, .ref o)]) rfl ?_
  refine V.aload_n dX11_undo_0 0 rfl ?_
  refine V.getf 0 17 rfl fa_X11_139_10 rfl dX11_undo_1 ?_
  refine V.if_ne (tgt := 10) dX11_undo_4 (by decide) (fun hc => absurd (by decide) hc) (fun _ => ?_)
  refine V.bipush (v := (-4)) dX11_undo_7 (by decide) ?_
  exact V.iret rfl dX11_undo_9 (⟨(), rfl, rfl, rfl, trivial⟩)

set_option maxHeartbeats 4000000 in
set_option maxRecDepth 100000 in
theorem c_M_undo (E : vEnv) (l : Launch) (L : List Nat) (h : Nat → va_E) (o : Nat) (mw : Nat) (mk : Nat) (mt : Nat) (mr : Nat) (mki : Nat) (mso : Nat) (mst : Nat) (mpr : Nat) (msh : Nat) (mwa : Nat) (mpu : Nat) (mtx : Nat) (mor : Nat) (mbo : Nat) (tO : Nat) (tVi : Nat) (tSm : Nat) (ts : Int32) (ma : Int32) (bg : Int32) (wr : Int32) (cl : Int32) (mn : Int32) (tm : Int32) (ρ : Nat → MR) (u : Nat) (hu : u < 8) : CT E l yX11_undo cX11_undo 1 (some (.int)) 1 0 0 L h [(o, ob 10 [.ref mw, .ref mk, .ref mt, .ref mr, .ref mki, .ref mso, .ref mst, .ref mpr, .ref msh, .ref mwa, .ref mpu, .ref mtx, .int ts, .int ma, .int bg, .int wr, .int cl, .int (nI (u + 1)), .ref mor, .ref mbo, .int mn, .ref tO, .ref tVi, .ref tSm, .int tm]), (mw, aI E 192 (mW ρ))] [.ref o] (qP L h (fun (_ : Unit) => [(o, ob 10 [.ref mw, .ref mk, .ref mt, .ref mr, .ref mki, .ref mso, .ref mst, .ref mpr, .ref msh, .ref mwa, .ref mpu, .ref mtx, .int ts, .int ma, .int bg, .int wr, .int cl, .int (nI u), .ref mor, .ref mbo, .int mn, .ref tO, .ref tVi, .ref tSm, .int tm]), (mw, aI E 192 (mW (va_up ρ 0 (ρ (4 + u)))))]) (fun _ => some (.int (nI u))) (fun _ => True)) := by
  refine CT.ofV (by decide +kernel) (Nat.le_of_ble_eq_true rfl) ?_
  refine V.locals2 (lv2 := [(0, .ref o)]) rfl ?_
  refine V.aload_n dX11_undo_0 0 rfl ?_
  refine V.getf 0 17 rfl fa_X11_139_10 rfl dX11_undo_1 ?_
  refine V.if_ne (tgt := 10) dX11_undo_4 (by decide) (fun _ => ?_) (fun hc => absurd hc (by rw [show (0 : Int32) = nI 0 from rfl]; intro hh; exact absurd ((nI_eq (by omega) (by omega)).mp hh) (by omega)))
  refine V.aload_n dX11_undo_10 0 rfl ?_
  refine V.dup dX11_undo_11 rfl ?_
  refine V.getf 0 17 rfl fa_X11_139_10 rfl dX11_undo_12 ?_
  refine V.iconst (v := 1) dX11_undo_15 (by decide) ?_
  refine V.isub dX11_undo_16 ?_
  refine V.topc (v := (nI u)) (nI_pred u) ?_
  refine V.putf 0 17 (vw2 := [(o, ob 10 [.ref mw, .ref mk, .ref mt, .ref mr, .ref mki, .ref mso, .ref mst, .ref mpr, .ref msh, .ref mwa, .ref mpu, .ref mtx, .int ts, .int ma, .int bg, .int wr, .int cl, .int (nI u), .ref mor, .ref mbo, .int mn, .ref tO, .ref tVi, .ref tSm, .int tm]), (mw, aI E 192 (mW ρ))]) rfl fp_X11_139_10 rfl rfl (Nat.le_of_ble_eq_true rfl) rfl dX11_undo_17 ?_
  refine V.aload_n dX11_undo_20 0 rfl ?_
  refine V.bipush (v := 64) dX11_undo_21 (by decide) ?_
  refine V.bipush (v := 16) dX11_undo_23 (by decide) ?_
  refine V.aload_n dX11_undo_25 0 rfl ?_
  refine V.getf 0 17 rfl fa_X11_139_10 rfl dX11_undo_26 ?_
  refine V.imul dX11_undo_29 ?_
  refine V.topc (v := (nI (16 * u))) (pk_mul 16 u) ?_
  refine V.iadd dX11_undo_30 ?_
  refine V.topc (v := (nI (16 * (4 + u)))) ((nI_add 64 (16 * u)).trans (by rw [show 64 + 16 * u = 16 * (4 + u) by omega])) ?_
  refine V.iconst (v := 0) dX11_undo_31 (by decide) ?_
  refine V.callVp (As := [.int (nI (16 * (4 + u))), .int 0]) (rest := []) [0, 1] (c_M_copy E l L _ o mw mk mt mr mki mso mst mpr msh mwa mpu mtx mor mbo tO tVi tSm ts ma bg wr cl ((nI u)) mn tm ρ ((4 + u)) 0 (by omega) (by omega) (by omega)) rfl (by decide) mi_X11_copy 0 rfl rfl w_879 w_881 wp_19 rfl rfl (Nat.le_of_ble_eq_true rfl) ⟨by decide, by decide⟩ ⟨by decide, by decide⟩ dX11_undo_32 (vw2 := fun _ => [(o, ob 10 [.ref mw, .ref mk, .ref mt, .ref mr, .ref mki, .ref mso, .ref mst, .ref mpr, .ref msh, .ref mwa, .ref mpu, .ref mtx, .int ts, .int ma, .int bg, .int wr, .int cl, .int (nI u), .ref mor, .ref mbo, .int mn, .ref tO, .ref tVi, .ref tSm, .int tm]), (mw, aI E 192 (mW (va_up ρ 0 (ρ (4 + u)))))]) (st2 := fun _ => []) (fun _ => rfl) (fun _ => rfl) (fun _ => rfl) (fun _ _ => ?_)
  refine V.aload_n dX11_undo_35 0 rfl ?_
  refine V.getf 0 17 rfl fa_X11_139_10 rfl dX11_undo_36 ?_
  exact V.iret rfl dX11_undo_39 (⟨(), rfl, rfl, rfl, trivial⟩)

set_option maxHeartbeats 4000000 in
set_option maxRecDepth 100000 in
theorem c_M_keepU (E : vEnv) (l : Launch) (L : List Nat) (h : Nat → va_E) (o : Nat) (mw : Nat) (mk : Nat) (mt : Nat) (mr : Nat) (mki : Nat) (mso : Nat) (mst : Nat) (mpr : Nat) (msh : Nat) (mwa : Nat) (mpu : Nat) (mtx : Nat) (mor : Nat) (mbo : Nat) (tO : Nat) (tVi : Nat) (tSm : Nat) (ts : Int32) (ma : Int32) (bg : Int32) (wr : Int32) (cl : Int32) (um : Int32) (mn : Int32) (tm : Int32) (x : Int32) (hx : withinI x 0 1 = 0) : CT E l yX11_keep cX11_keep 2 (some (.int)) 1 0 0 L h [(o, ob 10 [.ref mw, .ref mk, .ref mt, .ref mr, .ref mki, .ref mso, .ref mst, .ref mpr, .ref msh, .ref mwa, .ref mpu, .ref mtx, .int ts, .int ma, .int bg, .int wr, .int cl, .int um, .ref mor, .ref mbo, .int mn, .ref tO, .ref tVi, .ref tSm, .int tm])] [.ref o, .int x] (qP L h (fun (_ : Unit) => [(o, ob 10 [.ref mw, .ref mk, .ref mt, .ref mr, .ref mki, .ref mso, .ref mst, .ref mpr, .ref msh, .ref mwa, .ref mpu, .ref mtx, .int ts, .int ma, .int bg, .int wr, .int cl, .int um, .ref mor, .ref mbo, .int mn, .ref tO, .ref tVi, .ref tSm, .int tm])]) (fun _ => some (.int (-2))) (fun _ => True)) := by
  refine CT.ofV (by decide +kernel) (Nat.le_of_ble_eq_true rfl) ?_
  refine V.locals2 (lv2 := [(0, .ref o), (1, .int x)]) rfl ?_
  refine V.iload_n dX11_keep_0 1 rfl ?_
  refine V.i2l dX11_keep_1 ?_
  refine V.lconst (v := 0) dX11_keep_2 (by decide) ?_
  refine V.stack (st2 := [.long (Int32.toInt64 0), .long (Int32.toInt64 x)]) (congrArg (fun z64 => Value.long z64 :: [.long (Int32.toInt64 x)]) (show (0 : Int64) = Int32.toInt64 0 by decide)) ?_
  refine V.lconst (v := 1) dX11_keep_3 (by decide) ?_
  refine V.stack (st2 := [.long (Int32.toInt64 1), .long (Int32.toInt64 0), .long (Int32.toInt64 x)]) (congrArg (fun z64 => Value.long z64 :: [.long (Int32.toInt64 0), .long (Int32.toInt64 x)]) (show (1 : Int64) = Int32.toInt64 1 by decide)) ?_
  refine V.callSp (As := [.long (Int32.toInt64 x), .long (Int32.toInt64 0), .long (Int32.toInt64 1)]) (rest := []) [] (c_M_in E l L _ x 0 1) rfl (by decide) mi_X11_in w_789 w_790 rfl rfl (Nat.le_of_ble_eq_true rfl) ⟨by decide, by decide⟩ ⟨by decide, by decide⟩ dX11_keep_4 (vw2 := fun _ => [(o, ob 10 [.ref mw, .ref mk, .ref mt, .ref mr, .ref mki, .ref mso, .ref mst, .ref mpr, .ref msh, .ref mwa, .ref mpu, .ref mtx, .int ts, .int ma, .int bg, .int wr, .int cl, .int um, .ref mor, .ref mbo, .int mn, .ref tO, .ref tVi, .ref tSm, .int tm])]) (st2 := fun _ => [.int (withinI x 0 1)]) (fun _ => rfl) (fun _ => rfl) (fun _ => rfl) (fun _ _ => ?_)
  refine V.topc (v := 0) (hx) ?_
  refine V.if_ne (tgt := 13) dX11_keep_7 (by decide) (fun hc => absurd (by decide) hc) (fun _ => ?_)
  refine V.bipush (v := (-2)) dX11_keep_10 (by decide) ?_
  exact V.iret rfl dX11_keep_12 (⟨(), rfl, rfl, rfl, trivial⟩)

set_option maxHeartbeats 4000000 in
set_option maxRecDepth 100000 in
theorem c_M_backU (E : vEnv) (l : Launch) (L : List Nat) (h : Nat → va_E) (o : Nat) (mw : Nat) (mk : Nat) (mt : Nat) (mr : Nat) (mki : Nat) (mso : Nat) (mst : Nat) (mpr : Nat) (msh : Nat) (mwa : Nat) (mpu : Nat) (mtx : Nat) (mor : Nat) (mbo : Nat) (tO : Nat) (tVi : Nat) (tSm : Nat) (ts : Int32) (ma : Int32) (bg : Int32) (wr : Int32) (cl : Int32) (um : Int32) (mn : Int32) (tm : Int32) (x : Int32) (hx : withinI x 0 1 = 0) : CT E l yX11_back cX11_back 2 (some (.int)) 1 0 0 L h [(o, ob 10 [.ref mw, .ref mk, .ref mt, .ref mr, .ref mki, .ref mso, .ref mst, .ref mpr, .ref msh, .ref mwa, .ref mpu, .ref mtx, .int ts, .int ma, .int bg, .int wr, .int cl, .int um, .ref mor, .ref mbo, .int mn, .ref tO, .ref tVi, .ref tSm, .int tm])] [.ref o, .int x] (qP L h (fun (_ : Unit) => [(o, ob 10 [.ref mw, .ref mk, .ref mt, .ref mr, .ref mki, .ref mso, .ref mst, .ref mpr, .ref msh, .ref mwa, .ref mpu, .ref mtx, .int ts, .int ma, .int bg, .int wr, .int cl, .int um, .ref mor, .ref mbo, .int mn, .ref tO, .ref tVi, .ref tSm, .int tm])]) (fun _ => some (.int (-2))) (fun _ => True)) := by
  refine CT.ofV (by decide +kernel) (Nat.le_of_ble_eq_true rfl) ?_
  refine V.locals2 (lv2 := [(0, .ref o), (1, .int x)]) rfl ?_
  refine V.iload_n dX11_back_0 1 rfl ?_
  refine V.i2l dX11_back_1 ?_
  refine V.lconst (v := 0) dX11_back_2 (by decide) ?_
  refine V.stack (st2 := [.long (Int32.toInt64 0), .long (Int32.toInt64 x)]) (congrArg (fun z64 => Value.long z64 :: [.long (Int32.toInt64 x)]) (show (0 : Int64) = Int32.toInt64 0 by decide)) ?_
  refine V.lconst (v := 1) dX11_back_3 (by decide) ?_
  refine V.stack (st2 := [.long (Int32.toInt64 1), .long (Int32.toInt64 0), .long (Int32.toInt64 x)]) (congrArg (fun z64 => Value.long z64 :: [.long (Int32.toInt64 0), .long (Int32.toInt64 x)]) (show (1 : Int64) = Int32.toInt64 1 by decide)) ?_
  refine V.callSp (As := [.long (Int32.toInt64 x), .long (Int32.toInt64 0), .long (Int32.toInt64 1)]) (rest := []) [] (c_M_in E l L _ x 0 1) rfl (by decide) mi_X11_in w_789 w_790 rfl rfl (Nat.le_of_ble_eq_true rfl) ⟨by decide, by decide⟩ ⟨by decide, by decide⟩ dX11_back_4 (vw2 := fun _ => [(o, ob 10 [.ref mw, .ref mk, .ref mt, .ref mr, .ref mki, .ref mso, .ref mst, .ref mpr, .ref msh, .ref mwa, .ref mpu, .ref mtx, .int ts, .int ma, .int bg, .int wr, .int cl, .int um, .ref mor, .ref mbo, .int mn, .ref tO, .ref tVi, .ref tSm, .int tm])]) (st2 := fun _ => [.int (withinI x 0 1)]) (fun _ => rfl) (fun _ => rfl) (fun _ => rfl) (fun _ _ => ?_)
  refine V.topc (v := 0) (hx) ?_
  refine V.if_ne (tgt := 13) dX11_back_7 (by decide) (fun hc => absurd (by decide) hc) (fun _ => ?_)
  refine V.bipush (v := (-2)) dX11_back_10 (by decide) ?_
  exact V.iret rfl dX11_back_12 (⟨(), rfl, rfl, rfl, trivial⟩)

set_option maxHeartbeats 4000000 in
set_option maxRecDepth 100000 in
theorem c_M_keep (E : vEnv) (l : Launch) (L : List Nat) (h : Nat → va_E) (o : Nat) (mw : Nat) (mk : Nat) (mt : Nat) (mr : Nat) (mki : Nat) (mso : Nat) (mst : Nat) (mpr : Nat) (msh : Nat) (mwa : Nat) (mpu : Nat) (mtx : Nat) (mor : Nat) (mbo : Nat) (tO : Nat) (tVi : Nat) (tSm : Nat) (ts : Int32) (ma : Int32) (bg : Int32) (wr : Int32) (cl : Int32) (um : Int32) (mn : Int32) (tm : Int32) (ρ : Nat → MR) (pw : Nat → Int32) (s : NS) (zf : Nat → Int32) (k : Nat) (hR : ρ 0 = (pw, s)) (hk : k < 2) : CT E l yX11_keep cX11_keep 2 (some (.int)) 1 0 0 L h [(o, ob 10 [.ref mw, .ref mk, .ref mt, .ref mr, .ref mki, .ref mso, .ref mst, .ref mpr, .ref msh, .ref mwa, .ref mpu, .ref mtx, .int ts, .int ma, .int bg, .int wr, .int cl, .int um, .ref mor, .ref mbo, .int mn, .ref tO, .ref tVi, .ref tSm, .int tm]), (mw, aI E 192 (mW ρ)), (mk, aZ E 2 zf)] [.ref o, .int (nI k)] (qP L h (fun (_ : Unit) => [(o, ob 10 [.ref mw, .ref mk, .ref mt, .ref mr, .ref mki, .ref mso, .ref mst, .ref mpr, .ref msh, .ref mwa, .ref mpu, .ref mtx, .int ts, .int ma, .int bg, .int wr, .int cl, .int um, .ref mor, .ref mbo, .int mn, .ref tO, .ref tVi, .ref tSm, .int tm]), (mw, aI E 192 (mW (va_up ρ (2 + k) (ρ 0)))), (mk, aZ E 2 (upd zf k 1))]) (fun _ => some (.int s.2.2.1)) (fun _ => True)) := by
  refine CT.ofV (by decide +kernel) (Nat.le_of_ble_eq_true rfl) ?_
  refine V.locals2 (lv2 := [(0, .ref o), (1, .int (nI k))]) rfl ?_
  refine V.iload_n dX11_keep_0 1 rfl ?_
  refine V.i2l dX11_keep_1 ?_
  refine V.lconst (v := 0) dX11_keep_2 (by decide) ?_
  refine V.stack (st2 := [.long (Int32.toInt64 0), .long (Int32.toInt64 (nI k))]) (congrArg (fun z64 => Value.long z64 :: [.long (Int32.toInt64 (nI k))]) (show (0 : Int64) = Int32.toInt64 0 by decide)) ?_
  refine V.lconst (v := 1) dX11_keep_3 (by decide) ?_
  refine V.stack (st2 := [.long (Int32.toInt64 1), .long (Int32.toInt64 0), .long (Int32.toInt64 (nI k))]) (congrArg (fun z64 => Value.long z64 :: [.long (Int32.toInt64 0), .long (Int32.toInt64 (nI k))]) (show (1 : Int64) = Int32.toInt64 1 by decide)) ?_
  refine V.callSp (As := [.long (Int32.toInt64 (nI k)), .long (Int32.toInt64 0), .long (Int32.toInt64 1)]) (rest := []) [] (c_M_in E l L _ ((nI k)) 0 1) rfl (by decide) mi_X11_in w_789 w_790 rfl rfl (Nat.le_of_ble_eq_true rfl) ⟨by decide, by decide⟩ ⟨by decide, by decide⟩ dX11_keep_4 (vw2 := fun _ => [(o, ob 10 [.ref mw, .ref mk, .ref mt, .ref mr, .ref mki, .ref mso, .ref mst, .ref mpr, .ref msh, .ref mwa, .ref mpu, .ref mtx, .int ts, .int ma, .int bg, .int wr, .int cl, .int um, .ref mor, .ref mbo, .int mn, .ref tO, .ref tVi, .ref tSm, .int tm]), (mw, aI E 192 (mW ρ)), (mk, aZ E 2 zf)]) (st2 := fun _ => [.int (withinI (nI k) 0 1)]) (fun _ => rfl) (fun _ => rfl) (fun _ => rfl) (fun _ _ => ?_)
  refine V.topc (v := 1) (within_nI (m := 2) hk (by omega)) ?_
  refine V.if_ne (tgt := 13) dX11_keep_7 (by decide) (fun _ => ?_) (fun hc => absurd hc (by decide))
  refine V.aload_n dX11_keep_13 0 rfl ?_
  refine V.iconst (v := 0) dX11_keep_14 (by decide) ?_
  refine V.bipush (v := 32) dX11_keep_15 (by decide) ?_
  refine V.bipush (v := 16) dX11_keep_17 (by decide) ?_
  refine V.iload_n dX11_keep_19 1 rfl ?_
  refine V.imul dX11_keep_20 ?_
  refine V.topc (v := (nI (16 * k))) (pk_mul 16 k) ?_
  refine V.iadd dX11_keep_21 ?_
  refine V.topc (v := (nI (16 * (2 + k)))) ((nI_add 32 (16 * k)).trans (by rw [show 32 + 16 * k = 16 * (2 + k) by omega])) ?_
  refine V.callVp (As := [.int 0, .int (nI (16 * (2 + k)))]) (rest := []) [0, 1] (c_M_copy E l L _ o mw mk mt mr mki mso mst mpr msh mwa mpu mtx mor mbo tO tVi tSm ts ma bg wr cl um mn tm ρ 0 ((2 + k)) (by omega) (by omega) (by omega)) rfl (by decide) mi_X11_copy 0 rfl rfl w_879 w_881 wp_19 rfl rfl (Nat.le_of_ble_eq_true rfl) ⟨by decide, by decide⟩ ⟨by decide, by decide⟩ dX11_keep_22 (vw2 := fun _ => [(o, ob 10 [.ref mw, .ref mk, .ref mt, .ref mr, .ref mki, .ref mso, .ref mst, .ref mpr, .ref msh, .ref mwa, .ref mpu, .ref mtx, .int ts, .int ma, .int bg, .int wr, .int cl, .int um, .ref mor, .ref mbo, .int mn, .ref tO, .ref tVi, .ref tSm, .int tm]), (mw, aI E 192 (mW (va_up ρ (2 + k) (ρ 0)))), (mk, aZ E 2 zf)]) (st2 := fun _ => []) (fun _ => rfl) (fun _ => rfl) (fun _ => rfl) (fun _ _ => ?_)
  refine V.aload_n dX11_keep_25 0 rfl ?_
  refine V.getf 0 1 rfl fa_X11_13_10 rfl dX11_keep_26 ?_
  refine V.iload_n dX11_keep_29 1 rfl ?_
  refine V.iconst (v := 1) dX11_keep_30 (by decide) ?_
  refine V.zast (vw2 := [(o, ob 10 [.ref mw, .ref mk, .ref mt, .ref mr, .ref mki, .ref mso, .ref mst, .ref mpr, .ref msh, .ref mwa, .ref mpu, .ref mtx, .int ts, .int ma, .int bg, .int wr, .int cl, .int um, .ref mor, .ref mbo, .int mn, .ref tO, .ref tVi, .ref tSm, .int tm]), (mw, aI E 192 (mW (va_up ρ (2 + k) (ρ 0)))), (mk, aZ E 2 (upd zf k 1))]) 2 rfl (vinI (by omega)) (by rw [nI_clamp (by omega)] <;> rfl) dX11_keep_31 ?_
  refine V.aload_n dX11_keep_32 0 rfl ?_
  refine V.getf 0 0 rfl fa_X11_7_10 rfl dX11_keep_33 ?_
  refine V.bipush (v := 11) dX11_keep_36 (by decide) ?_
  refine V.iald 1 rfl (vin rfl) dX11_keep_38 ?_
  refine V.topc (v := ((mW (va_up ρ (2 + k) (ρ 0))) 11)) (rfl) ?_
  refine V.topc (v := s.2.2.1) (mW_st (i := 0) ((va_up_ne _ _ (by omega)).trans hR)) ?_
  exact V.iret rfl dX11_keep_39 (⟨(), rfl, rfl, rfl, trivial⟩)

set_option maxHeartbeats 4000000 in
set_option maxRecDepth 100000 in
theorem c_M_backN (E : vEnv) (l : Launch) (L : List Nat) (h : Nat → va_E) (o : Nat) (mw : Nat) (mk : Nat) (mt : Nat) (mr : Nat) (mki : Nat) (mso : Nat) (mst : Nat) (mpr : Nat) (msh : Nat) (mwa : Nat) (mpu : Nat) (mtx : Nat) (mor : Nat) (mbo : Nat) (tO : Nat) (tVi : Nat) (tSm : Nat) (ts : Int32) (ma : Int32) (bg : Int32) (wr : Int32) (cl : Int32) (um : Int32) (mn : Int32) (tm : Int32) (zf : Nat → Int32) (k : Nat) (hk : k < 2) (hz : zf k = 0) : CT E l yX11_back cX11_back 2 (some (.int)) 1 0 0 L h [(o, ob 10 [.ref mw, .ref mk, .ref mt, .ref mr, .ref mki, .ref mso, .ref mst, .ref mpr, .ref msh, .ref mwa, .ref mpu, .ref mtx, .int ts, .int ma, .int bg, .int wr, .int cl, .int um, .ref mor, .ref mbo, .int mn, .ref tO, .ref tVi, .ref tSm, .int tm]), (mk, aZ E 2 zf)] [.ref o, .int (nI k)] (qP L h (fun (_ : Unit) => [(o, ob 10 [.ref mw, .ref mk, .ref mt, .ref mr, .ref mki, .ref mso, .ref mst, .ref mpr, .ref msh, .ref mwa, .ref mpu, .ref mtx, .int ts, .int ma, .int bg, .int wr, .int cl, .int um, .ref mor, .ref mbo, .int mn, .ref tO, .ref tVi, .ref tSm, .int tm]), (mk, aZ E 2 zf)]) (fun _ => some (.int (-4))) (fun _ => True)) := by
  refine CT.ofV (by decide +kernel) (Nat.le_of_ble_eq_true rfl) ?_
  refine V.locals2 (lv2 := [(0, .ref o), (1, .int (nI k))]) rfl ?_
  refine V.iload_n dX11_back_0 1 rfl ?_
  refine V.i2l dX11_back_1 ?_
  refine V.lconst (v := 0) dX11_back_2 (by decide) ?_
  refine V.stack (st2 := [.long (Int32.toInt64 0), .long (Int32.toInt64 (nI k))]) (congrArg (fun z64 => Value.long z64 :: [.long (Int32.toInt64 (nI k))]) (show (0 : Int64) = Int32.toInt64 0 by decide)) ?_
  refine V.lconst (v := 1) dX11_back_3 (by decide) ?_
  refine V.stack (st2 := [.long (Int32.toInt64 1), .long (Int32.toInt64 0), .long (Int32.toInt64 (nI k))]) (congrArg (fun z64 => Value.long z64 :: [.long (Int32.toInt64 0), .long (Int32.toInt64 (nI k))]) (show (1 : Int64) = Int32.toInt64 1 by decide)) ?_
  refine V.callSp (As := [.long (Int32.toInt64 (nI k)), .long (Int32.toInt64 0), .long (Int32.toInt64 1)]) (rest := []) [] (c_M_in E l L _ ((nI k)) 0 1) rfl (by decide) mi_X11_in w_789 w_790 rfl rfl (Nat.le_of_ble_eq_true rfl) ⟨by decide, by decide⟩ ⟨by decide, by decide⟩ dX11_back_4 (vw2 := fun _ => [(o, ob 10 [.ref mw, .ref mk, .ref mt, .ref mr, .ref mki, .ref mso, .ref mst, .ref mpr, .ref msh, .ref mwa, .ref mpu, .ref mtx, .int ts, .int ma, .int bg, .int wr, .int cl, .int um, .ref mor, .ref mbo, .int mn, .ref tO, .ref tVi, .ref tSm, .int tm]), (mk, aZ E 2 zf)]) (st2 := fun _ => [.int (withinI (nI k) 0 1)]) (fun _ => rfl) (fun _ => rfl) (fun _ => rfl) (fun _ _ => ?_)
  refine V.topc (v := 1) (within_nI (m := 2) hk (by omega)) ?_
  refine V.if_ne (tgt := 13) dX11_back_7 (by decide) (fun _ => ?_) (fun hc => absurd hc (by decide))
  refine V.aload_n dX11_back_13 0 rfl ?_
  refine V.getf 0 1 rfl fa_X11_13_10 rfl dX11_back_14 ?_
  refine V.iload_n dX11_back_17 1 rfl ?_
  refine V.zald 1 rfl (vinI (by omega)) dX11_back_18 ?_
  refine V.topc (v := (zf k)) (by rw [nI_clamp (by omega)] <;> rfl) ?_
  refine V.topc (v := 0) (hz) ?_
  refine V.if_ne (tgt := 25) dX11_back_19 (by decide) (fun hc => absurd (by decide) hc) (fun _ => ?_)
  refine V.bipush (v := (-4)) dX11_back_22 (by decide) ?_
  exact V.iret rfl dX11_back_24 (⟨(), rfl, rfl, rfl, trivial⟩)

set_option maxHeartbeats 4000000 in
set_option maxRecDepth 100000 in
theorem c_M_back (E : vEnv) (l : Launch) (L : List Nat) (h : Nat → va_E) (o : Nat) (mw : Nat) (mk : Nat) (mt : Nat) (mr : Nat) (mki : Nat) (mso : Nat) (mst : Nat) (mpr : Nat) (msh : Nat) (mwa : Nat) (mpu : Nat) (mtx : Nat) (mor : Nat) (mbo : Nat) (tO : Nat) (tVi : Nat) (tSm : Nat) (ts : Int32) (ma : Int32) (bg : Int32) (wr : Int32) (cl : Int32) (um : Int32) (mn : Int32) (tm : Int32) (ρ : Nat → MR) (zf : Nat → Int32) (k : Nat) (hk : k < 2) (hz : zf k = 1) : CT E l yX11_back cX11_back 2 (some (.int)) 1 0 0 L h [(o, ob 10 [.ref mw, .ref mk, .ref mt, .ref mr, .ref mki, .ref mso, .ref mst, .ref mpr, .ref msh, .ref mwa, .ref mpu, .ref mtx, .int ts, .int ma, .int bg, .int wr, .int cl, .int um, .ref mor, .ref mbo, .int mn, .ref tO, .ref tVi, .ref tSm, .int tm]), (mw, aI E 192 (mW ρ)), (mk, aZ E 2 zf)] [.ref o, .int (nI k)] (qP L h (fun (_ : Unit) => [(o, ob 10 [.ref mw, .ref mk, .ref mt, .ref mr, .ref mki, .ref mso, .ref mst, .ref mpr, .ref msh, .ref mwa, .ref mpu, .ref mtx, .int ts, .int ma, .int bg, .int wr, .int cl, .int 0, .ref mor, .ref mbo, .int mn, .ref tO, .ref tVi, .ref tSm, .int tm]), (mw, aI E 192 (mW (va_up ρ 0 (ρ (2 + k))))), (mk, aZ E 2 zf)]) (fun _ => some (.int (ρ (2 + k)).2.2.2.1)) (fun _ => True)) := by
  refine CT.ofV (by decide +kernel) (Nat.le_of_ble_eq_true rfl) ?_
  refine V.locals2 (lv2 := [(0, .ref o), (1, .int (nI k))]) rfl ?_
  refine V.iload_n dX11_back_0 1 rfl ?_
  refine V.i2l dX11_back_1 ?_
  refine V.lconst (v := 0) dX11_back_2 (by decide) ?_
  refine V.stack (st2 := [.long (Int32.toInt64 0), .long (Int32.toInt64 (nI k))]) (congrArg (fun z64 => Value.long z64 :: [.long (Int32.toInt64 (nI k))]) (show (0 : Int64) = Int32.toInt64 0 by decide)) ?_
  refine V.lconst (v := 1) dX11_back_3 (by decide) ?_
  refine V.stack (st2 := [.long (Int32.toInt64 1), .long (Int32.toInt64 0), .long (Int32.toInt64 (nI k))]) (congrArg (fun z64 => Value.long z64 :: [.long (Int32.toInt64 0), .long (Int32.toInt64 (nI k))]) (show (1 : Int64) = Int32.toInt64 1 by decide)) ?_
  refine V.callSp (As := [.long (Int32.toInt64 (nI k)), .long (Int32.toInt64 0), .long (Int32.toInt64 1)]) (rest := []) [] (c_M_in E l L _ ((nI k)) 0 1) rfl (by decide) mi_X11_in w_789 w_790 rfl rfl (Nat.le_of_ble_eq_true rfl) ⟨by decide, by decide⟩ ⟨by decide, by decide⟩ dX11_back_4 (vw2 := fun _ => [(o, ob 10 [.ref mw, .ref mk, .ref mt, .ref mr, .ref mki, .ref mso, .ref mst, .ref mpr, .ref msh, .ref mwa, .ref mpu, .ref mtx, .int ts, .int ma, .int bg, .int wr, .int cl, .int um, .ref mor, .ref mbo, .int mn, .ref tO, .ref tVi, .ref tSm, .int tm]), (mw, aI E 192 (mW ρ)), (mk, aZ E 2 zf)]) (st2 := fun _ => [.int (withinI (nI k) 0 1)]) (fun _ => rfl) (fun _ => rfl) (fun _ => rfl) (fun _ _ => ?_)
  refine V.topc (v := 1) (within_nI (m := 2) hk (by omega)) ?_
  refine V.if_ne (tgt := 13) dX11_back_7 (by decide) (fun _ => ?_) (fun hc => absurd hc (by decide))
  refine V.aload_n dX11_back_13 0 rfl ?_
  refine V.getf 0 1 rfl fa_X11_13_10 rfl dX11_back_14 ?_
  refine V.iload_n dX11_back_17 1 rfl ?_
  refine V.zald 2 rfl (vinI (by omega)) dX11_back_18 ?_
  refine V.topc (v := (zf k)) (by rw [nI_clamp (by omega)] <;> rfl) ?_
  refine V.topc (v := 1) (hz) ?_
  refine V.if_ne (tgt := 25) dX11_back_19 (by decide) (fun _ => ?_) (fun hc => absurd hc (by decide))
  refine V.aload_n dX11_back_25 0 rfl ?_
  refine V.bipush (v := 32) dX11_back_26 (by decide) ?_
  refine V.bipush (v := 16) dX11_back_28 (by decide) ?_
  refine V.iload_n dX11_back_30 1 rfl ?_
  refine V.imul dX11_back_31 ?_
  refine V.topc (v := (nI (16 * k))) (pk_mul 16 k) ?_
  refine V.iadd dX11_back_32 ?_
  refine V.topc (v := (nI (16 * (2 + k)))) ((nI_add 32 (16 * k)).trans (by rw [show 32 + 16 * k = 16 * (2 + k) by omega])) ?_
  refine V.iconst (v := 0) dX11_back_33 (by decide) ?_
  refine V.callVp (As := [.int (nI (16 * (2 + k))), .int 0]) (rest := []) [0, 1] (c_M_copy E l L _ o mw mk mt mr mki mso mst mpr msh mwa mpu mtx mor mbo tO tVi tSm ts ma bg wr cl um mn tm ρ ((2 + k)) 0 (by omega) (by omega) (by omega)) rfl (by decide) mi_X11_copy 0 rfl rfl w_879 w_881 wp_19 rfl rfl (Nat.le_of_ble_eq_true rfl) ⟨by decide, by decide⟩ ⟨by decide, by decide⟩ dX11_back_34 (vw2 := fun _ => [(o, ob 10 [.ref mw, .ref mk, .ref mt, .ref mr, .ref mki, .ref mso, .ref mst, .ref mpr, .ref msh, .ref mwa, .ref mpu, .ref mtx, .int ts, .int ma, .int bg, .int wr, .int cl, .int um, .ref mor, .ref mbo, .int mn, .ref tO, .ref tVi, .ref tSm, .int tm]), (mw, aI E 192 (mW (va_up ρ 0 (ρ (2 + k))))), (mk, aZ E 2 zf)]) (st2 := fun _ => []) (fun _ => rfl) (fun _ => rfl) (fun _ => rfl) (fun _ _ => ?_)
  refine V.aload_n dX11_back_37 0 rfl ?_
  refine V.iconst (v := 0) dX11_back_38 (by decide) ?_
  refine V.putf 0 17 (vw2 := [(o, ob 10 [.ref mw, .ref mk, .ref mt, .ref mr, .ref mki, .ref mso, .ref mst, .ref mpr, .ref msh, .ref mwa, .ref mpu, .ref mtx, .int ts, .int ma, .int bg, .int wr, .int cl, .int 0, .ref mor, .ref mbo, .int mn, .ref tO, .ref tVi, .ref tSm, .int tm]), (mw, aI E 192 (mW (va_up ρ 0 (ρ (2 + k))))), (mk, aZ E 2 zf)]) rfl fp_X11_139_10 rfl rfl (Nat.le_of_ble_eq_true rfl) rfl dX11_back_39 ?_
  refine V.aload_n dX11_back_42 0 rfl ?_
  refine V.getf 0 0 rfl fa_X11_7_10 rfl dX11_back_43 ?_
  refine V.bipush (v := 11) dX11_back_46 (by decide) ?_
  refine V.iald 1 rfl (vin rfl) dX11_back_48 ?_
  refine V.topc (v := ((mW (va_up ρ 0 (ρ (2 + k)))) 11)) (rfl) ?_
  refine V.topc (v := (ρ (2 + k)).2.2.2.1) (mW_st (pl := (ρ (2 + k)).1) (i := 0) (va_up_self _ _ _)) ?_
  exact V.iret rfl dX11_back_49 (⟨(), rfl, rfl, rfl, trivial⟩)
