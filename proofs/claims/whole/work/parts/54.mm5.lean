set_option maxHeartbeats 4000000 in
set_option maxRecDepth 100000 in
theorem c_M_asU (E : vEnv) (l : Launch) (L : List Nat) (h : Nat → va_E) (o : Nat) (mw : Nat) (mk : Nat) (mt : Nat) (mr : Nat) (mki : Nat) (mso : Nat) (mst : Nat) (mpr : Nat) (msh : Nat) (mwa : Nat) (mpu : Nat) (mtx : Nat) (mor : Nat) (mbo : Nat) (tO : Nat) (tVi : Nat) (tSm : Nat) (ts : Int32) (ma : Int32) (bg : Int32) (wr : Int32) (cl : Int32) (um : Int32) (mn : Int32) (tm : Int32) (Sh : Nat → Int32) (m : Nat) (x : Int32) (y : Int32) (eM : Sh 0 = nI m) (hm : m ≤ 6) (hx : withinI x 0 (nI m - 1) = 0) : CT E l yX11_as cX11_as 5 (some (.int)) 2 0 0 L h [(o, ob 10 [.ref mw, .ref mk, .ref mt, .ref mr, .ref mki, .ref mso, .ref mst, .ref mpr, .ref msh, .ref mwa, .ref mpu, .ref mtx, .int ts, .int ma, .int bg, .int wr, .int cl, .int um, .ref mor, .ref mbo, .int mn, .ref tO, .ref tVi, .ref tSm, .int tm]), (msh, aI E 2 Sh)] [.ref o, .int x, .int y] (qP L h (fun (_ : Unit) => [(o, ob 10 [.ref mw, .ref mk, .ref mt, .ref mr, .ref mki, .ref mso, .ref mst, .ref mpr, .ref msh, .ref mwa, .ref mpu, .ref mtx, .int ts, .int ma, .int bg, .int wr, .int cl, .int um, .ref mor, .ref mbo, .int mn, .ref tO, .ref tVi, .ref tSm, .int tm]), (msh, aI E 2 Sh)]) (fun _ => some (.int (-2))) (fun _ => True)) := by
  refine CT.ofV (by decide +kernel) (Nat.le_of_ble_eq_true rfl) ?_
  refine V.locals2 (lv2 := [(0, .ref o), (1, .int x), (2, .int y)]) rfl ?_
  refine V.aload_n dX11_as_0 0 rfl ?_
  refine V.iload_n dX11_as_1 1 rfl ?_
  refine V.callVp (As := [.int x]) (rest := []) [0, 1] (c_M_isShop E l L _ o mw mk mt mr mki mso mst mpr msh mwa mpu mtx mor mbo tO tVi tSm ts ma bg wr cl um mn tm Sh m x (eM) (hm)) rfl (by decide) mi_X11_isShop 0 rfl rfl w_860 w_862 wp_17 rfl rfl (Nat.le_of_ble_eq_true rfl) ⟨by decide, by decide⟩ ⟨by decide, by decide⟩ dX11_as_2 (vw2 := fun _ => [(o, ob 10 [.ref mw, .ref mk, .ref mt, .ref mr, .ref mki, .ref mso, .ref mst, .ref mpr, .ref msh, .ref mwa, .ref mpu, .ref mtx, .int ts, .int ma, .int bg, .int wr, .int cl, .int um, .ref mor, .ref mbo, .int mn, .ref tO, .ref tVi, .ref tSm, .int tm]), (msh, aI E 2 Sh)]) (st2 := fun _ => [.int (withinI x 0 (nI m - 1))]) (fun _ => rfl) (fun _ => rfl) (fun _ => rfl) (fun _ _ => ?_)
  refine V.topc (v := 0) (hx) ?_
  refine V.if_ne (tgt := 11) dX11_as_5 (by decide) (fun hc => absurd (by decide) hc) (fun _ => ?_)
  refine V.bipush (v := (-2)) dX11_as_8 (by decide) ?_
  exact V.iret rfl dX11_as_10 (⟨(), rfl, rfl, rfl, trivial⟩)

set_option maxHeartbeats 4000000 in
set_option maxRecDepth 100000 in
theorem c_M_asO (E : vEnv) (l : Launch) (L : List Nat) (h : Nat → va_E) (o : Nat) (mw : Nat) (mk : Nat) (mt : Nat) (mr : Nat) (mki : Nat) (mso : Nat) (mst : Nat) (mpr : Nat) (msh : Nat) (mwa : Nat) (mpu : Nat) (mtx : Nat) (mor : Nat) (mbo : Nat) (tO : Nat) (tVi : Nat) (tSm : Nat) (ts : Int32) (ma : Int32) (bg : Int32) (wr : Int32) (cl : Int32) (um : Int32) (mn : Int32) (tm : Int32) (Sh : Nat → Int32) (m : Nat) (k : Nat) (y : Int32) (eM : Sh 0 = nI m) (hm : m ≤ 6) (hkm : k < m) (hy : withinI y 0 4 = 0) : CT E l yX11_as cX11_as 5 (some (.int)) 2 0 0 L h [(o, ob 10 [.ref mw, .ref mk, .ref mt, .ref mr, .ref mki, .ref mso, .ref mst, .ref mpr, .ref msh, .ref mwa, .ref mpu, .ref mtx, .int ts, .int ma, .int bg, .int wr, .int cl, .int um, .ref mor, .ref mbo, .int mn, .ref tO, .ref tVi, .ref tSm, .int tm]), (msh, aI E 2 Sh)] [.ref o, .int (nI k), .int y] (qP L h (fun (_ : Unit) => [(o, ob 10 [.ref mw, .ref mk, .ref mt, .ref mr, .ref mki, .ref mso, .ref mst, .ref mpr, .ref msh, .ref mwa, .ref mpu, .ref mtx, .int ts, .int ma, .int bg, .int wr, .int cl, .int um, .ref mor, .ref mbo, .int mn, .ref tO, .ref tVi, .ref tSm, .int tm]), (msh, aI E 2 Sh)]) (fun _ => some (.int (-3))) (fun _ => True)) := by
  refine CT.ofV (by decide +kernel) (Nat.le_of_ble_eq_true rfl) ?_
  refine V.locals2 (lv2 := [(0, .ref o), (1, .int (nI k)), (2, .int y)]) rfl ?_
  refine V.aload_n dX11_as_0 0 rfl ?_
  refine V.iload_n dX11_as_1 1 rfl ?_
  refine V.callVp (As := [.int (nI k)]) (rest := []) [0, 1] (c_M_isShop E l L _ o mw mk mt mr mki mso mst mpr msh mwa mpu mtx mor mbo tO tVi tSm ts ma bg wr cl um mn tm Sh m ((nI k)) (eM) (hm)) rfl (by decide) mi_X11_isShop 0 rfl rfl w_860 w_862 wp_17 rfl rfl (Nat.le_of_ble_eq_true rfl) ⟨by decide, by decide⟩ ⟨by decide, by decide⟩ dX11_as_2 (vw2 := fun _ => [(o, ob 10 [.ref mw, .ref mk, .ref mt, .ref mr, .ref mki, .ref mso, .ref mst, .ref mpr, .ref msh, .ref mwa, .ref mpu, .ref mtx, .int ts, .int ma, .int bg, .int wr, .int cl, .int um, .ref mor, .ref mbo, .int mn, .ref tO, .ref tVi, .ref tSm, .int tm]), (msh, aI E 2 Sh)]) (st2 := fun _ => [.int (withinI (nI k) 0 (nI m - 1))]) (fun _ => rfl) (fun _ => rfl) (fun _ => rfl) (fun _ _ => ?_)
  refine V.topc (v := 1) (within_nI hkm (by omega)) ?_
  refine V.if_ne (tgt := 11) dX11_as_5 (by decide) (fun _ => ?_) (fun hc => absurd hc (by decide))
  refine V.iload_n dX11_as_11 2 rfl ?_
  refine V.i2l dX11_as_12 ?_
  refine V.lconst (v := 0) dX11_as_13 (by decide) ?_
  refine V.stack (st2 := [.long (Int32.toInt64 0), .long (Int32.toInt64 y)]) (congrArg (fun z64 => Value.long z64 :: [.long (Int32.toInt64 y)]) (show (0 : Int64) = Int32.toInt64 0 by decide)) ?_
  refine V.ldc2 dX11_as_14 w_878 ?_
  refine V.stack (st2 := [.long (Int32.toInt64 4), .long (Int32.toInt64 0), .long (Int32.toInt64 y)]) (congrArg (fun z64 => Value.long z64 :: [.long (Int32.toInt64 0), .long (Int32.toInt64 y)]) (show (4 : Int64) = Int32.toInt64 4 by decide)) ?_
  refine V.callSp (As := [.long (Int32.toInt64 y), .long (Int32.toInt64 0), .long (Int32.toInt64 4)]) (rest := []) [] (c_M_in E l L _ y 0 4) rfl (by decide) mi_X11_in w_789 w_790 rfl rfl (Nat.le_of_ble_eq_true rfl) ⟨by decide, by decide⟩ ⟨by decide, by decide⟩ dX11_as_17 (vw2 := fun _ => [(o, ob 10 [.ref mw, .ref mk, .ref mt, .ref mr, .ref mki, .ref mso, .ref mst, .ref mpr, .ref msh, .ref mwa, .ref mpu, .ref mtx, .int ts, .int ma, .int bg, .int wr, .int cl, .int um, .ref mor, .ref mbo, .int mn, .ref tO, .ref tVi, .ref tSm, .int tm]), (msh, aI E 2 Sh)]) (st2 := fun _ => [.int (withinI y 0 4)]) (fun _ => rfl) (fun _ => rfl) (fun _ => rfl) (fun _ _ => ?_)
  refine V.topc (v := 0) (hy) ?_
  refine V.if_ne (tgt := 26) dX11_as_20 (by decide) (fun hc => absurd (by decide) hc) (fun _ => ?_)
  refine V.bipush (v := (-3)) dX11_as_23 (by decide) ?_
  exact V.iret rfl dX11_as_25 (⟨(), rfl, rfl, rfl, trivial⟩)

set_option maxHeartbeats 4000000 in
set_option maxRecDepth 100000 in
theorem c_M_as_0_0 (E : vEnv) (l : Launch) (L : List Nat) (h : Nat → va_E) (o : Nat) (mw : Nat) (mk : Nat) (mt : Nat) (mr : Nat) (mki : Nat) (mso : Nat) (mst : Nat) (mpr : Nat) (msh : Nat) (mwa : Nat) (mpu : Nat) (mtx : Nat) (mor : Nat) (mbo : Nat) (tO : Nat) (tVi : Nat) (tSm : Nat) (ts : Int32) (ma : Int32) (bg : Int32) (wr : Int32) (cl : Int32) (um : Int32) (mn : Int32) (tm : Int32) (Sh : Nat → Int32) (m : Nat) (ρ : Nat → MR) (pw : Nat → Int32) (s : NS) (Ti : Nat → Int32) (ti : Nat → Int32) (Ki : Nat → Int32) (So : Nat → Int32) (k : Nat) (so : Nat) (hR : ρ 0 = (pw, s)) (eM : Sh 0 = nI m) (hm : m ≤ 6) (hkm : k < m) (hso : so < 4) (hgT : gT s) (hgI : gI ti) (eI : ∀ j, j < 4 → Ti j = ti j) (eK : Ki k = 0) (eS : So k = nI so) : CT E l yX11_as cX11_as 5 (some (.int)) 2 0 0 L h [(o, ob 10 [.ref mw, .ref mk, .ref mt, .ref mr, .ref mki, .ref mso, .ref mst, .ref mpr, .ref msh, .ref mwa, .ref mpu, .ref mtx, .int ts, .int ma, .int bg, .int wr, .int cl, .int um, .ref mor, .ref mbo, .int mn, .ref tO, .ref tVi, .ref tSm, .int tm]), (msh, aI E 2 Sh), (mw, aI E 192 (mW ρ)), (mt, aI E 8 Ti), (mki, aI E 12 Ki), (mso, aI E 12 So)] [.ref o, .int (nI k), .int 0] (qP L h (fun (_ : Unit) => [(o, ob 10 [.ref mw, .ref mk, .ref mt, .ref mr, .ref mki, .ref mso, .ref mst, .ref mpr, .ref msh, .ref mwa, .ref mpu, .ref mtx, .int ts, .int ma, .int bg, .int wr, .int cl, .int um, .ref mor, .ref mbo, .int mn, .ref tO, .ref tVi, .ref tSm, .int tm]), (msh, aI E 2 Sh), (mw, aI E 192 (mW (va_up ρ 1 (pw, tireN 0 so ti s)))), (mt, aI E 8 Ti), (mki, aI E 12 Ki), (mso, aI E 12 So)]) (fun _ => some (.int (asI 0 so ti s))) (fun _ => True)) := by
  refine CT.ofV (by decide +kernel) (Nat.le_of_ble_eq_true rfl) ?_
  refine V.locals2 (lv2 := [(0, .ref o), (1, .int (nI k)), (2, .int 0)]) rfl ?_
  refine V.aload_n dX11_as_0 0 rfl ?_
  refine V.iload_n dX11_as_1 1 rfl ?_
  refine V.callVp (As := [.int (nI k)]) (rest := []) [0, 1] (c_M_isShop E l L _ o mw mk mt mr mki mso mst mpr msh mwa mpu mtx mor mbo tO tVi tSm ts ma bg wr cl um mn tm Sh m ((nI k)) (eM) (hm)) rfl (by decide) mi_X11_isShop 0 rfl rfl w_860 w_862 wp_17 rfl rfl (Nat.le_of_ble_eq_true rfl) ⟨by decide, by decide⟩ ⟨by decide, by decide⟩ dX11_as_2 (vw2 := fun _ => [(o, ob 10 [.ref mw, .ref mk, .ref mt, .ref mr, .ref mki, .ref mso, .ref mst, .ref mpr, .ref msh, .ref mwa, .ref mpu, .ref mtx, .int ts, .int ma, .int bg, .int wr, .int cl, .int um, .ref mor, .ref mbo, .int mn, .ref tO, .ref tVi, .ref tSm, .int tm]), (msh, aI E 2 Sh), (mw, aI E 192 (mW ρ)), (mt, aI E 8 Ti), (mki, aI E 12 Ki), (mso, aI E 12 So)]) (st2 := fun _ => [.int (withinI (nI k) 0 (nI m - 1))]) (fun _ => rfl) (fun _ => rfl) (fun _ => rfl) (fun _ _ => ?_)
  refine V.topc (v := 1) (within_nI hkm (by omega)) ?_
  refine V.if_ne (tgt := 11) dX11_as_5 (by decide) (fun _ => ?_) (fun hc => absurd hc (by decide))
  refine V.iload_n dX11_as_11 2 rfl ?_
  refine V.i2l dX11_as_12 ?_
  refine V.lconst (v := 0) dX11_as_13 (by decide) ?_
  refine V.stack (st2 := [.long (Int32.toInt64 0), .long (Int32.toInt64 0)]) (congrArg (fun z64 => Value.long z64 :: [.long (Int32.toInt64 0)]) (show (0 : Int64) = Int32.toInt64 0 by decide)) ?_
  refine V.ldc2 dX11_as_14 w_878 ?_
  refine V.stack (st2 := [.long (Int32.toInt64 4), .long (Int32.toInt64 0), .long (Int32.toInt64 0)]) (congrArg (fun z64 => Value.long z64 :: [.long (Int32.toInt64 0), .long (Int32.toInt64 0)]) (show (4 : Int64) = Int32.toInt64 4 by decide)) ?_
  refine V.callSp (As := [.long (Int32.toInt64 0), .long (Int32.toInt64 0), .long (Int32.toInt64 4)]) (rest := []) [] (c_M_in E l L _ 0 0 4) rfl (by decide) mi_X11_in w_789 w_790 rfl rfl (Nat.le_of_ble_eq_true rfl) ⟨by decide, by decide⟩ ⟨by decide, by decide⟩ dX11_as_17 (vw2 := fun _ => [(o, ob 10 [.ref mw, .ref mk, .ref mt, .ref mr, .ref mki, .ref mso, .ref mst, .ref mpr, .ref msh, .ref mwa, .ref mpu, .ref mtx, .int ts, .int ma, .int bg, .int wr, .int cl, .int um, .ref mor, .ref mbo, .int mn, .ref tO, .ref tVi, .ref tSm, .int tm]), (msh, aI E 2 Sh), (mw, aI E 192 (mW ρ)), (mt, aI E 8 Ti), (mki, aI E 12 Ki), (mso, aI E 12 So)]) (st2 := fun _ => [.int (withinI 0 0 4)]) (fun _ => rfl) (fun _ => rfl) (fun _ => rfl) (fun _ _ => ?_)
  refine V.topc (v := 1) (by decide) ?_
  refine V.if_ne (tgt := 26) dX11_as_20 (by decide) (fun _ => ?_) (fun hc => absurd hc (by decide))
  refine V.aload_n dX11_as_26 0 rfl ?_
  refine V.getf 0 4 rfl fa_X11_23_10 rfl dX11_as_27 ?_
  refine V.iload_n dX11_as_30 1 rfl ?_
  refine V.iald 4 rfl (vinI (by omega)) dX11_as_31 ?_
  refine V.topc (v := (Ki k)) (by rw [nI_clamp (by omega)] <;> rfl) ?_
  refine V.topc (v := 0) (eK) ?_
  refine V.istore_n (lv2 := [(3, .int 0), (0, .ref o), (1, .int (nI k)), (2, .int 0)]) dX11_as_32 rfl (by decide) rfl ?_
  refine V.iload_n dX11_as_33 3 rfl ?_
  refine V.if_eq (tgt := 59) dX11_as_34 (by decide) (fun _ => ?_) (fun hc => absurd (by decide) hc)
  refine V.iconst (v := 1) dX11_as_59 (by decide) ?_
  refine V.goto (tgt := 64) dX11_as_60 (by decide) ?_
  refine V.istore (lv2 := [(4, .int 1), (3, .int 0), (0, .ref o), (1, .int (nI k)), (2, .int 0)]) dX11_as_64 (by decide) rfl ?_
  refine V.iload dX11_as_66 0 rfl ?_
  refine V.if_ne (tgt := 74) dX11_as_68 (by decide) (fun _ => ?_) (fun hc => absurd hc (by decide))
  refine V.aload_n dX11_as_74 2 rfl ?_
  refine V.iconst (v := 0) dX11_as_75 (by decide) ?_
  refine V.bipush (v := 16) dX11_as_76 (by decide) ?_
  refine V.callVp (As := [.int 0, .int 16]) (rest := []) [0, 2] (c_M_copy E l L _ o mw mk mt mr mki mso mst mpr msh mwa mpu mtx mor mbo tO tVi tSm ts ma bg wr cl um mn tm ρ 0 1 (by decide) (by decide) (by decide)) rfl (by decide) mi_X11_copy 0 rfl rfl w_879 w_881 wp_19 rfl rfl (Nat.le_of_ble_eq_true rfl) ⟨by decide, by decide⟩ ⟨by decide, by decide⟩ dX11_as_78 (vw2 := fun _ => [(o, ob 10 [.ref mw, .ref mk, .ref mt, .ref mr, .ref mki, .ref mso, .ref mst, .ref mpr, .ref msh, .ref mwa, .ref mpu, .ref mtx, .int ts, .int ma, .int bg, .int wr, .int cl, .int um, .ref mor, .ref mbo, .int mn, .ref tO, .ref tVi, .ref tSm, .int tm]), (msh, aI E 2 Sh), (mw, aI E 192 (mW (va_up ρ 1 (ρ 0)))), (mt, aI E 8 Ti), (mki, aI E 12 Ki), (mso, aI E 12 So)]) (st2 := fun _ => []) (fun _ => rfl) (fun _ => rfl) (fun _ => rfl) (fun _ _ => ?_)
  refine V.arrEq (vw2 := [(o, ob 10 [.ref mw, .ref mk, .ref mt, .ref mr, .ref mki, .ref mso, .ref mst, .ref mpr, .ref msh, .ref mwa, .ref mpu, .ref mtx, .int ts, .int ma, .int bg, .int wr, .int cl, .int um, .ref mor, .ref mbo, .int mn, .ref tO, .ref tVi, .ref tSm, .int tm]), (msh, aI E 2 Sh), (mw, aI E 192 (mW (va_up ρ 1 (pw, s)))), (mt, aI E 8 Ti), (mki, aI E 12 Ki), (mso, aI E 12 So)]) 2 0 rfl (fun j _ => by rw [hR]) rfl ?_
  refine V.aload_n dX11_as_81 2 rfl ?_
  refine V.bipush (v := 16) dX11_as_82 (by decide) ?_
  refine V.iload_n dX11_as_84 1 rfl ?_
  refine V.aload_n dX11_as_85 2 rfl ?_
  refine V.getf 0 5 rfl fa_X11_26_10 rfl dX11_as_86 ?_
  refine V.iload_n dX11_as_89 3 rfl ?_
  refine V.iald 5 rfl (vinI (by omega)) dX11_as_90 ?_
  refine V.topc (v := (So k)) (by rw [nI_clamp (by omega)] <;> rfl) ?_
  refine V.topc (v := (nI so)) (eS) ?_
  refine V.callVp (As := [.int 16, .int 0, .int (nI so)]) (rest := []) [0, 2, 3] (c_M_tireAs_0 E l L _ o mw mk mt mr mki mso mst mpr msh mwa mpu mtx mor mbo tO tVi tSm ts ma bg wr cl um mn tm ((va_up ρ 1 (pw, s))) 1 pw s Ti ti so (by decide) (va_up_self _ _ _) (hso) (hgT) (hgI) (eI)) rfl (by decide) mi_X11_tireAs 0 rfl rfl w_883 w_885 wp_20 rfl rfl (Nat.le_of_ble_eq_true rfl) ⟨by decide, by decide⟩ ⟨by decide, by decide⟩ dX11_as_91 (vw2 := fun _ => [(o, ob 10 [.ref mw, .ref mk, .ref mt, .ref mr, .ref mki, .ref mso, .ref mst, .ref mpr, .ref msh, .ref mwa, .ref mpu, .ref mtx, .int ts, .int ma, .int bg, .int wr, .int cl, .int um, .ref mor, .ref mbo, .int mn, .ref tO, .ref tVi, .ref tSm, .int tm]), (msh, aI E 2 Sh), (mw, aI E 192 (mW (va_up (va_up ρ 1 (pw, s)) 1 (pw, (tireN 0 so ti s))))), (mt, aI E 8 Ti), (mki, aI E 12 Ki), (mso, aI E 12 So)]) (st2 := fun _ => []) (fun _ => rfl) (fun _ => rfl) (fun _ => rfl) (fun _ _ => ?_)
  refine V.arrEq (vw2 := [(o, ob 10 [.ref mw, .ref mk, .ref mt, .ref mr, .ref mki, .ref mso, .ref mst, .ref mpr, .ref msh, .ref mwa, .ref mpu, .ref mtx, .int ts, .int ma, .int bg, .int wr, .int cl, .int um, .ref mor, .ref mbo, .int mn, .ref tO, .ref tVi, .ref tSm, .int tm]), (msh, aI E 2 Sh), (mw, aI E 192 (mW (va_up ρ 1 (pw, tireN 0 so ti s)))), (mt, aI E 8 Ti), (mki, aI E 12 Ki), (mso, aI E 12 So)]) 2 0 rfl (fun j _ => mW_ups j) rfl ?_
  refine V.aload_n dX11_as_94 2 rfl ?_
  refine V.getf 0 0 rfl fa_X11_7_10 rfl dX11_as_95 ?_
  refine V.bipush (v := 22) dX11_as_98 (by decide) ?_
  refine V.aload_n dX11_as_100 2 rfl ?_
  refine V.getf 0 5 rfl fa_X11_26_10 rfl dX11_as_101 ?_
  refine V.iload_n dX11_as_104 3 rfl ?_
  refine V.iald 5 rfl (vinI (by omega)) dX11_as_105 ?_
  refine V.topc (v := (So k)) (by rw [nI_clamp (by omega)] <;> rfl) ?_
  refine V.topc (v := (nI so)) (eS) ?_
  refine V.iadd dX11_as_106 ?_
  refine V.topc (v := (nI (22 + so))) (nI_add 22 so) ?_
  refine V.iald 2 rfl (vinI (by omega)) dX11_as_107 ?_
  refine V.topc (v := ((mW (va_up ρ 1 (pw, tireN 0 so ti s))) ((22 + so)))) (by rw [nI_clamp (by omega)] <;> rfl) ?_
  refine V.topc (v := ((tireN 0 so ti s).1 so)) (mW_ti (i := 1) (va_up_self _ _ _) hso) ?_
  refine V.aload_n dX11_as_108 2 rfl ?_
  refine V.getf 0 0 rfl fa_X11_7_10 rfl dX11_as_109 ?_
  refine V.bipush (v := 6) dX11_as_112 (by decide) ?_
  refine V.aload_n dX11_as_114 2 rfl ?_
  refine V.getf 0 5 rfl fa_X11_26_10 rfl dX11_as_115 ?_
  refine V.iload_n dX11_as_118 3 rfl ?_
  refine V.iald 5 rfl (vinI (by omega)) dX11_as_119 ?_
  refine V.topc (v := (So k)) (by rw [nI_clamp (by omega)] <;> rfl) ?_
  refine V.topc (v := (nI so)) (eS) ?_
  refine V.iadd dX11_as_120 ?_
  refine V.topc (v := (nI (6 + so))) (nI_add 6 so) ?_
  refine V.iald 2 rfl (vinI (by omega)) dX11_as_121 ?_
  refine V.topc (v := ((mW (va_up ρ 1 (pw, tireN 0 so ti s))) ((6 + so)))) (by rw [nI_clamp (by omega)] <;> rfl) ?_
  refine V.topc (v := (s.1 so)) (mW_ti (i := 0) ((va_up_ne _ _ (by decide)).trans hR) hso) ?_
  refine V.isub dX11_as_122 ?_
  refine V.bipush (v := 99) dX11_as_123 (by decide) ?_
  refine V.iadd dX11_as_125 ?_
  exact V.iret rfl dX11_as_126 (⟨(), congrArg (fun z9 => some (Value.int z9)) (as_eq 0 so ti s), rfl, rfl, trivial⟩)

set_option maxHeartbeats 4000000 in
set_option maxRecDepth 100000 in
theorem c_M_as_0_1 (E : vEnv) (l : Launch) (L : List Nat) (h : Nat → va_E) (o : Nat) (mw : Nat) (mk : Nat) (mt : Nat) (mr : Nat) (mki : Nat) (mso : Nat) (mst : Nat) (mpr : Nat) (msh : Nat) (mwa : Nat) (mpu : Nat) (mtx : Nat) (mor : Nat) (mbo : Nat) (tO : Nat) (tVi : Nat) (tSm : Nat) (ts : Int32) (ma : Int32) (bg : Int32) (wr : Int32) (cl : Int32) (um : Int32) (mn : Int32) (tm : Int32) (Sh : Nat → Int32) (m : Nat) (ρ : Nat → MR) (pw : Nat → Int32) (s : NS) (Ti : Nat → Int32) (ti : Nat → Int32) (Ki : Nat → Int32) (So : Nat → Int32) (k : Nat) (so : Nat) (hR : ρ 0 = (pw, s)) (eM : Sh 0 = nI m) (hm : m ≤ 6) (hkm : k < m) (hso : so < 4) (hgT : gT s) (hgI : gI ti) (eI : ∀ j, j < 4 → Ti j = ti j) (eK : Ki k = 0) (eS : So k = nI so) : CT E l yX11_as cX11_as 5 (some (.int)) 2 0 0 L h [(o, ob 10 [.ref mw, .ref mk, .ref mt, .ref mr, .ref mki, .ref mso, .ref mst, .ref mpr, .ref msh, .ref mwa, .ref mpu, .ref mtx, .int ts, .int ma, .int bg, .int wr, .int cl, .int um, .ref mor, .ref mbo, .int mn, .ref tO, .ref tVi, .ref tSm, .int tm]), (msh, aI E 2 Sh), (mw, aI E 192 (mW ρ)), (mt, aI E 8 Ti), (mki, aI E 12 Ki), (mso, aI E 12 So)] [.ref o, .int (nI k), .int 1] (qP L h (fun (_ : Unit) => [(o, ob 10 [.ref mw, .ref mk, .ref mt, .ref mr, .ref mki, .ref mso, .ref mst, .ref mpr, .ref msh, .ref mwa, .ref mpu, .ref mtx, .int ts, .int ma, .int bg, .int wr, .int cl, .int um, .ref mor, .ref mbo, .int mn, .ref tO, .ref tVi, .ref tSm, .int tm]), (msh, aI E 2 Sh), (mw, aI E 192 (mW (va_up ρ 1 (pw, tireN 0 so ti s)))), (mt, aI E 8 Ti), (mki, aI E 12 Ki), (mso, aI E 12 So)]) (fun _ => some (.int (asI 0 so ti s))) (fun _ => True)) := by
  refine CT.ofV (by decide +kernel) (Nat.le_of_ble_eq_true rfl) ?_
  refine V.locals2 (lv2 := [(0, .ref o), (1, .int (nI k)), (2, .int 1)]) rfl ?_
  refine V.aload_n dX11_as_0 0 rfl ?_
  refine V.iload_n dX11_as_1 1 rfl ?_
  refine V.callVp (As := [.int (nI k)]) (rest := []) [0, 1] (c_M_isShop E l L _ o mw mk mt mr mki mso mst mpr msh mwa mpu mtx mor mbo tO tVi tSm ts ma bg wr cl um mn tm Sh m ((nI k)) (eM) (hm)) rfl (by decide) mi_X11_isShop 0 rfl rfl w_860 w_862 wp_17 rfl rfl (Nat.le_of_ble_eq_true rfl) ⟨by decide, by decide⟩ ⟨by decide, by decide⟩ dX11_as_2 (vw2 := fun _ => [(o, ob 10 [.ref mw, .ref mk, .ref mt, .ref mr, .ref mki, .ref mso, .ref mst, .ref mpr, .ref msh, .ref mwa, .ref mpu, .ref mtx, .int ts, .int ma, .int bg, .int wr, .int cl, .int um, .ref mor, .ref mbo, .int mn, .ref tO, .ref tVi, .ref tSm, .int tm]), (msh, aI E 2 Sh), (mw, aI E 192 (mW ρ)), (mt, aI E 8 Ti), (mki, aI E 12 Ki), (mso, aI E 12 So)]) (st2 := fun _ => [.int (withinI (nI k) 0 (nI m - 1))]) (fun _ => rfl) (fun _ => rfl) (fun _ => rfl) (fun _ _ => ?_)
  refine V.topc (v := 1) (within_nI hkm (by omega)) ?_
  refine V.if_ne (tgt := 11) dX11_as_5 (by decide) (fun _ => ?_) (fun hc => absurd hc (by decide))
  refine V.iload_n dX11_as_11 2 rfl ?_
  refine V.i2l dX11_as_12 ?_
  refine V.lconst (v := 0) dX11_as_13 (by decide) ?_
  refine V.stack (st2 := [.long (Int32.toInt64 0), .long (Int32.toInt64 1)]) (congrArg (fun z64 => Value.long z64 :: [.long (Int32.toInt64 1)]) (show (0 : Int64) = Int32.toInt64 0 by decide)) ?_
  refine V.ldc2 dX11_as_14 w_878 ?_
  refine V.stack (st2 := [.long (Int32.toInt64 4), .long (Int32.toInt64 0), .long (Int32.toInt64 1)]) (congrArg (fun z64 => Value.long z64 :: [.long (Int32.toInt64 0), .long (Int32.toInt64 1)]) (show (4 : Int64) = Int32.toInt64 4 by decide)) ?_
  refine V.callSp (As := [.long (Int32.toInt64 1), .long (Int32.toInt64 0), .long (Int32.toInt64 4)]) (rest := []) [] (c_M_in E l L _ 1 0 4) rfl (by decide) mi_X11_in w_789 w_790 rfl rfl (Nat.le_of_ble_eq_true rfl) ⟨by decide, by decide⟩ ⟨by decide, by decide⟩ dX11_as_17 (vw2 := fun _ => [(o, ob 10 [.ref mw, .ref mk, .ref mt, .ref mr, .ref mki, .ref mso, .ref mst, .ref mpr, .ref msh, .ref mwa, .ref mpu, .ref mtx, .int ts, .int ma, .int bg, .int wr, .int cl, .int um, .ref mor, .ref mbo, .int mn, .ref tO, .ref tVi, .ref tSm, .int tm]), (msh, aI E 2 Sh), (mw, aI E 192 (mW ρ)), (mt, aI E 8 Ti), (mki, aI E 12 Ki), (mso, aI E 12 So)]) (st2 := fun _ => [.int (withinI 1 0 4)]) (fun _ => rfl) (fun _ => rfl) (fun _ => rfl) (fun _ _ => ?_)
  refine V.topc (v := 1) (by decide) ?_
  refine V.if_ne (tgt := 26) dX11_as_20 (by decide) (fun _ => ?_) (fun hc => absurd hc (by decide))
  refine V.aload_n dX11_as_26 0 rfl ?_
  refine V.getf 0 4 rfl fa_X11_23_10 rfl dX11_as_27 ?_
  refine V.iload_n dX11_as_30 1 rfl ?_
  refine V.iald 4 rfl (vinI (by omega)) dX11_as_31 ?_
  refine V.topc (v := (Ki k)) (by rw [nI_clamp (by omega)] <;> rfl) ?_
  refine V.topc (v := 0) (eK) ?_
  refine V.istore_n (lv2 := [(3, .int 0), (0, .ref o), (1, .int (nI k)), (2, .int 1)]) dX11_as_32 rfl (by decide) rfl ?_
  refine V.iload_n dX11_as_33 3 rfl ?_
  refine V.if_eq (tgt := 59) dX11_as_34 (by decide) (fun hc => absurd hc (by decide)) (fun _ => ?_)
  refine V.iload_n dX11_as_37 3 rfl ?_
  refine V.iconst (v := 1) dX11_as_38 (by decide) ?_
  refine V.icmp_ne (tgt := 47) dX11_as_39 (by decide) (fun hc => absurd (by decide) hc) (fun _ => ?_)
  refine V.iload_n dX11_as_42 0 rfl ?_
  refine V.iconst (v := 2) dX11_as_43 (by decide) ?_
  refine V.icmp_lt (tgt := 59) dX11_as_44 (by decide) (fun _ => ?_) (fun hc => absurd (by decide) hc)
  refine V.iconst (v := 1) dX11_as_59 (by decide) ?_
  refine V.goto (tgt := 64) dX11_as_60 (by decide) ?_
  refine V.istore (lv2 := [(4, .int 1), (3, .int 0), (0, .ref o), (1, .int (nI k)), (2, .int 1)]) dX11_as_64 (by decide) rfl ?_
  refine V.iload dX11_as_66 0 rfl ?_
  refine V.if_ne (tgt := 74) dX11_as_68 (by decide) (fun _ => ?_) (fun hc => absurd hc (by decide))
  refine V.aload_n dX11_as_74 2 rfl ?_
  refine V.iconst (v := 0) dX11_as_75 (by decide) ?_
  refine V.bipush (v := 16) dX11_as_76 (by decide) ?_
  refine V.callVp (As := [.int 0, .int 16]) (rest := []) [0, 2] (c_M_copy E l L _ o mw mk mt mr mki mso mst mpr msh mwa mpu mtx mor mbo tO tVi tSm ts ma bg wr cl um mn tm ρ 0 1 (by decide) (by decide) (by decide)) rfl (by decide) mi_X11_copy 0 rfl rfl w_879 w_881 wp_19 rfl rfl (Nat.le_of_ble_eq_true rfl) ⟨by decide, by decide⟩ ⟨by decide, by decide⟩ dX11_as_78 (vw2 := fun _ => [(o, ob 10 [.ref mw, .ref mk, .ref mt, .ref mr, .ref mki, .ref mso, .ref mst, .ref mpr, .ref msh, .ref mwa, .ref mpu, .ref mtx, .int ts, .int ma, .int bg, .int wr, .int cl, .int um, .ref mor, .ref mbo, .int mn, .ref tO, .ref tVi, .ref tSm, .int tm]), (msh, aI E 2 Sh), (mw, aI E 192 (mW (va_up ρ 1 (ρ 0)))), (mt, aI E 8 Ti), (mki, aI E 12 Ki), (mso, aI E 12 So)]) (st2 := fun _ => []) (fun _ => rfl) (fun _ => rfl) (fun _ => rfl) (fun _ _ => ?_)
  refine V.arrEq (vw2 := [(o, ob 10 [.ref mw, .ref mk, .ref mt, .ref mr, .ref mki, .ref mso, .ref mst, .ref mpr, .ref msh, .ref mwa, .ref mpu, .ref mtx, .int ts, .int ma, .int bg, .int wr, .int cl, .int um, .ref mor, .ref mbo, .int mn, .ref tO, .ref tVi, .ref tSm, .int tm]), (msh, aI E 2 Sh), (mw, aI E 192 (mW (va_up ρ 1 (pw, s)))), (mt, aI E 8 Ti), (mki, aI E 12 Ki), (mso, aI E 12 So)]) 2 0 rfl (fun j _ => by rw [hR]) rfl ?_
  refine V.aload_n dX11_as_81 2 rfl ?_
  refine V.bipush (v := 16) dX11_as_82 (by decide) ?_
  refine V.iload_n dX11_as_84 1 rfl ?_
  refine V.aload_n dX11_as_85 2 rfl ?_
  refine V.getf 0 5 rfl fa_X11_26_10 rfl dX11_as_86 ?_
  refine V.iload_n dX11_as_89 3 rfl ?_
  refine V.iald 5 rfl (vinI (by omega)) dX11_as_90 ?_
  refine V.topc (v := (So k)) (by rw [nI_clamp (by omega)] <;> rfl) ?_
  refine V.topc (v := (nI so)) (eS) ?_
  refine V.callVp (As := [.int 16, .int 0, .int (nI so)]) (rest := []) [0, 2, 3] (c_M_tireAs_0 E l L _ o mw mk mt mr mki mso mst mpr msh mwa mpu mtx mor mbo tO tVi tSm ts ma bg wr cl um mn tm ((va_up ρ 1 (pw, s))) 1 pw s Ti ti so (by decide) (va_up_self _ _ _) (hso) (hgT) (hgI) (eI)) rfl (by decide) mi_X11_tireAs 0 rfl rfl w_883 w_885 wp_20 rfl rfl (Nat.le_of_ble_eq_true rfl) ⟨by decide, by decide⟩ ⟨by decide, by decide⟩ dX11_as_91 (vw2 := fun _ => [(o, ob 10 [.ref mw, .ref mk, .ref mt, .ref mr, .ref mki, .ref mso, .ref mst, .ref mpr, .ref msh, .ref mwa, .ref mpu, .ref mtx, .int ts, .int ma, .int bg, .int wr, .int cl, .int um, .ref mor, .ref mbo, .int mn, .ref tO, .ref tVi, .ref tSm, .int tm]), (msh, aI E 2 Sh), (mw, aI E 192 (mW (va_up (va_up ρ 1 (pw, s)) 1 (pw, (tireN 0 so ti s))))), (mt, aI E 8 Ti), (mki, aI E 12 Ki), (mso, aI E 12 So)]) (st2 := fun _ => []) (fun _ => rfl) (fun _ => rfl) (fun _ => rfl) (fun _ _ => ?_)
  refine V.arrEq (vw2 := [(o, ob 10 [.ref mw, .ref mk, .ref mt, .ref mr, .ref mki, .ref mso, .ref mst, .ref mpr, .ref msh, .ref mwa, .ref mpu, .ref mtx, .int ts, .int ma, .int bg, .int wr, .int cl, .int um, .ref mor, .ref mbo, .int mn, .ref tO, .ref tVi, .ref tSm, .int tm]), (msh, aI E 2 Sh), (mw, aI E 192 (mW (va_up ρ 1 (pw, tireN 0 so ti s)))), (mt, aI E 8 Ti), (mki, aI E 12 Ki), (mso, aI E 12 So)]) 2 0 rfl (fun j _ => mW_ups j) rfl ?_
  refine V.aload_n dX11_as_94 2 rfl ?_
  refine V.getf 0 0 rfl fa_X11_7_10 rfl dX11_as_95 ?_
  refine V.bipush (v := 22) dX11_as_98 (by decide) ?_
  refine V.aload_n dX11_as_100 2 rfl ?_
  refine V.getf 0 5 rfl fa_X11_26_10 rfl dX11_as_101 ?_
  refine V.iload_n dX11_as_104 3 rfl ?_
  refine V.iald 5 rfl (vinI (by omega)) dX11_as_105 ?_
  refine V.topc (v := (So k)) (by rw [nI_clamp (by omega)] <;> rfl) ?_
  refine V.topc (v := (nI so)) (eS) ?_
  refine V.iadd dX11_as_106 ?_
  refine V.topc (v := (nI (22 + so))) (nI_add 22 so) ?_
  refine V.iald 2 rfl (vinI (by omega)) dX11_as_107 ?_
  refine V.topc (v := ((mW (va_up ρ 1 (pw, tireN 0 so ti s))) ((22 + so)))) (by rw [nI_clamp (by omega)] <;> rfl) ?_
  refine V.topc (v := ((tireN 0 so ti s).1 so)) (mW_ti (i := 1) (va_up_self _ _ _) hso) ?_
  refine V.aload_n dX11_as_108 2 rfl ?_
  refine V.getf 0 0 rfl fa_X11_7_10 rfl dX11_as_109 ?_
  refine V.bipush (v := 6) dX11_as_112 (by decide) ?_
  refine V.aload_n dX11_as_114 2 rfl ?_
  refine V.getf 0 5 rfl fa_X11_26_10 rfl dX11_as_115 ?_
  refine V.iload_n dX11_as_118 3 rfl ?_
  refine V.iald 5 rfl (vinI (by omega)) dX11_as_119 ?_
  refine V.topc (v := (So k)) (by rw [nI_clamp (by omega)] <;> rfl) ?_
  refine V.topc (v := (nI so)) (eS) ?_
  refine V.iadd dX11_as_120 ?_
  refine V.topc (v := (nI (6 + so))) (nI_add 6 so) ?_
  refine V.iald 2 rfl (vinI (by omega)) dX11_as_121 ?_
  refine V.topc (v := ((mW (va_up ρ 1 (pw, tireN 0 so ti s))) ((6 + so)))) (by rw [nI_clamp (by omega)] <;> rfl) ?_
  refine V.topc (v := (s.1 so)) (mW_ti (i := 0) ((va_up_ne _ _ (by decide)).trans hR) hso) ?_
  refine V.isub dX11_as_122 ?_
  refine V.bipush (v := 99) dX11_as_123 (by decide) ?_
  refine V.iadd dX11_as_125 ?_
  exact V.iret rfl dX11_as_126 (⟨(), congrArg (fun z9 => some (Value.int z9)) (as_eq 0 so ti s), rfl, rfl, trivial⟩)

set_option maxHeartbeats 4000000 in
set_option maxRecDepth 100000 in
theorem c_M_as_0_2 (E : vEnv) (l : Launch) (L : List Nat) (h : Nat → va_E) (o : Nat) (mw : Nat) (mk : Nat) (mt : Nat) (mr : Nat) (mki : Nat) (mso : Nat) (mst : Nat) (mpr : Nat) (msh : Nat) (mwa : Nat) (mpu : Nat) (mtx : Nat) (mor : Nat) (mbo : Nat) (tO : Nat) (tVi : Nat) (tSm : Nat) (ts : Int32) (ma : Int32) (bg : Int32) (wr : Int32) (cl : Int32) (um : Int32) (mn : Int32) (tm : Int32) (Sh : Nat → Int32) (m : Nat) (ρ : Nat → MR) (pw : Nat → Int32) (s : NS) (Ti : Nat → Int32) (ti : Nat → Int32) (Ki : Nat → Int32) (So : Nat → Int32) (k : Nat) (so : Nat) (hR : ρ 0 = (pw, s)) (eM : Sh 0 = nI m) (hm : m ≤ 6) (hkm : k < m) (hso : so < 4) (hgT : gT s) (hgI : gI ti) (eI : ∀ j, j < 4 → Ti j = ti j) (eK : Ki k = 0) (eS : So k = nI so) : CT E l yX11_as cX11_as 5 (some (.int)) 2 0 0 L h [(o, ob 10 [.ref mw, .ref mk, .ref mt, .ref mr, .ref mki, .ref mso, .ref mst, .ref mpr, .ref msh, .ref mwa, .ref mpu, .ref mtx, .int ts, .int ma, .int bg, .int wr, .int cl, .int um, .ref mor, .ref mbo, .int mn, .ref tO, .ref tVi, .ref tSm, .int tm]), (msh, aI E 2 Sh), (mw, aI E 192 (mW ρ)), (mt, aI E 8 Ti), (mki, aI E 12 Ki), (mso, aI E 12 So)] [.ref o, .int (nI k), .int 2] (qP L h (fun (_ : Unit) => [(o, ob 10 [.ref mw, .ref mk, .ref mt, .ref mr, .ref mki, .ref mso, .ref mst, .ref mpr, .ref msh, .ref mwa, .ref mpu, .ref mtx, .int ts, .int ma, .int bg, .int wr, .int cl, .int um, .ref mor, .ref mbo, .int mn, .ref tO, .ref tVi, .ref tSm, .int tm]), (msh, aI E 2 Sh), (mw, aI E 192 (mW ρ)), (mt, aI E 8 Ti), (mki, aI E 12 Ki), (mso, aI E 12 So)]) (fun _ => some (.int (-4))) (fun _ => True)) := by
  refine CT.ofV (by decide +kernel) (Nat.le_of_ble_eq_true rfl) ?_
  refine V.locals2 (lv2 := [(0, .ref o), (1, .int (nI k)), (2, .int 2)]) rfl ?_
  refine V.aload_n dX11_as_0 0 rfl ?_
  refine V.iload_n dX11_as_1 1 rfl ?_
  refine V.callVp (As := [.int (nI k)]) (rest := []) [0, 1] (c_M_isShop E l L _ o mw mk mt mr mki mso mst mpr msh mwa mpu mtx mor mbo tO tVi tSm ts ma bg wr cl um mn tm Sh m ((nI k)) (eM) (hm)) rfl (by decide) mi_X11_isShop 0 rfl rfl w_860 w_862 wp_17 rfl rfl (Nat.le_of_ble_eq_true rfl) ⟨by decide, by decide⟩ ⟨by decide, by decide⟩ dX11_as_2 (vw2 := fun _ => [(o, ob 10 [.ref mw, .ref mk, .ref mt, .ref mr, .ref mki, .ref mso, .ref mst, .ref mpr, .ref msh, .ref mwa, .ref mpu, .ref mtx, .int ts, .int ma, .int bg, .int wr, .int cl, .int um, .ref mor, .ref mbo, .int mn, .ref tO, .ref tVi, .ref tSm, .int tm]), (msh, aI E 2 Sh), (mw, aI E 192 (mW ρ)), (mt, aI E 8 Ti), (mki, aI E 12 Ki), (mso, aI E 12 So)]) (st2 := fun _ => [.int (withinI (nI k) 0 (nI m - 1))]) (fun _ => rfl) (fun _ => rfl) (fun _ => rfl) (fun _ _ => ?_)
  refine V.topc (v := 1) (within_nI hkm (by omega)) ?_
  refine V.if_ne (tgt := 11) dX11_as_5 (by decide) (fun _ => ?_) (fun hc => absurd hc (by decide))
  refine V.iload_n dX11_as_11 2 rfl ?_
  refine V.i2l dX11_as_12 ?_
  refine V.lconst (v := 0) dX11_as_13 (by decide) ?_
  refine V.stack (st2 := [.long (Int32.toInt64 0), .long (Int32.toInt64 2)]) (congrArg (fun z64 => Value.long z64 :: [.long (Int32.toInt64 2)]) (show (0 : Int64) = Int32.toInt64 0 by decide)) ?_
  refine V.ldc2 dX11_as_14 w_878 ?_
  refine V.stack (st2 := [.long (Int32.toInt64 4), .long (Int32.toInt64 0), .long (Int32.toInt64 2)]) (congrArg (fun z64 => Value.long z64 :: [.long (Int32.toInt64 0), .long (Int32.toInt64 2)]) (show (4 : Int64) = Int32.toInt64 4 by decide)) ?_
  refine V.callSp (As := [.long (Int32.toInt64 2), .long (Int32.toInt64 0), .long (Int32.toInt64 4)]) (rest := []) [] (c_M_in E l L _ 2 0 4) rfl (by decide) mi_X11_in w_789 w_790 rfl rfl (Nat.le_of_ble_eq_true rfl) ⟨by decide, by decide⟩ ⟨by decide, by decide⟩ dX11_as_17 (vw2 := fun _ => [(o, ob 10 [.ref mw, .ref mk, .ref mt, .ref mr, .ref mki, .ref mso, .ref mst, .ref mpr, .ref msh, .ref mwa, .ref mpu, .ref mtx, .int ts, .int ma, .int bg, .int wr, .int cl, .int um, .ref mor, .ref mbo, .int mn, .ref tO, .ref tVi, .ref tSm, .int tm]), (msh, aI E 2 Sh), (mw, aI E 192 (mW ρ)), (mt, aI E 8 Ti), (mki, aI E 12 Ki), (mso, aI E 12 So)]) (st2 := fun _ => [.int (withinI 2 0 4)]) (fun _ => rfl) (fun _ => rfl) (fun _ => rfl) (fun _ _ => ?_)
  refine V.topc (v := 1) (by decide) ?_
  refine V.if_ne (tgt := 26) dX11_as_20 (by decide) (fun _ => ?_) (fun hc => absurd hc (by decide))
  refine V.aload_n dX11_as_26 0 rfl ?_
  refine V.getf 0 4 rfl fa_X11_23_10 rfl dX11_as_27 ?_
  refine V.iload_n dX11_as_30 1 rfl ?_
  refine V.iald 4 rfl (vinI (by omega)) dX11_as_31 ?_
  refine V.topc (v := (Ki k)) (by rw [nI_clamp (by omega)] <;> rfl) ?_
  refine V.topc (v := 0) (eK) ?_
  refine V.istore_n (lv2 := [(3, .int 0), (0, .ref o), (1, .int (nI k)), (2, .int 2)]) dX11_as_32 rfl (by decide) rfl ?_
  refine V.iload_n dX11_as_33 3 rfl ?_
  refine V.if_eq (tgt := 59) dX11_as_34 (by decide) (fun hc => absurd hc (by decide)) (fun _ => ?_)
  refine V.iload_n dX11_as_37 3 rfl ?_
  refine V.iconst (v := 1) dX11_as_38 (by decide) ?_
  refine V.icmp_ne (tgt := 47) dX11_as_39 (by decide) (fun _ => ?_) (fun hc => absurd hc (by decide))
  refine V.iload_n dX11_as_47 3 rfl ?_
  refine V.iconst (v := 1) dX11_as_48 (by decide) ?_
  refine V.icmp_le (tgt := 63) dX11_as_49 (by decide) (fun hc => absurd hc (by decide)) (fun _ => ?_)
  refine V.iload_n dX11_as_52 3 rfl ?_
  refine V.iload_n dX11_as_53 0 rfl ?_
  refine V.iconst (v := 1) dX11_as_54 (by decide) ?_
  refine V.iadd dX11_as_55 ?_
  refine V.topc (v := 1) (by decide) ?_
  refine V.icmp_ne (tgt := 63) dX11_as_56 (by decide) (fun _ => ?_) (fun hc => absurd hc (by decide))
  refine V.iconst (v := 0) dX11_as_63 (by decide) ?_
  refine V.istore (lv2 := [(4, .int 0), (3, .int 0), (0, .ref o), (1, .int (nI k)), (2, .int 2)]) dX11_as_64 (by decide) rfl ?_
  refine V.iload dX11_as_66 0 rfl ?_
  refine V.if_ne (tgt := 74) dX11_as_68 (by decide) (fun hc => absurd (by decide) hc) (fun _ => ?_)
  refine V.bipush (v := (-4)) dX11_as_71 (by decide) ?_
  exact V.iret rfl dX11_as_73 (⟨(), rfl, rfl, rfl, trivial⟩)

set_option maxHeartbeats 4000000 in
set_option maxRecDepth 100000 in
theorem c_M_as_0_3 (E : vEnv) (l : Launch) (L : List Nat) (h : Nat → va_E) (o : Nat) (mw : Nat) (mk : Nat) (mt : Nat) (mr : Nat) (mki : Nat) (mso : Nat) (mst : Nat) (mpr : Nat) (msh : Nat) (mwa : Nat) (mpu : Nat) (mtx : Nat) (mor : Nat) (mbo : Nat) (tO : Nat) (tVi : Nat) (tSm : Nat) (ts : Int32) (ma : Int32) (bg : Int32) (wr : Int32) (cl : Int32) (um : Int32) (mn : Int32) (tm : Int32) (Sh : Nat → Int32) (m : Nat) (ρ : Nat → MR) (pw : Nat → Int32) (s : NS) (Ti : Nat → Int32) (ti : Nat → Int32) (Ki : Nat → Int32) (So : Nat → Int32) (k : Nat) (so : Nat) (hR : ρ 0 = (pw, s)) (eM : Sh 0 = nI m) (hm : m ≤ 6) (hkm : k < m) (hso : so < 4) (hgT : gT s) (hgI : gI ti) (eI : ∀ j, j < 4 → Ti j = ti j) (eK : Ki k = 0) (eS : So k = nI so) : CT E l yX11_as cX11_as 5 (some (.int)) 2 0 0 L h [(o, ob 10 [.ref mw, .ref mk, .ref mt, .ref mr, .ref mki, .ref mso, .ref mst, .ref mpr, .ref msh, .ref mwa, .ref mpu, .ref mtx, .int ts, .int ma, .int bg, .int wr, .int cl, .int um, .ref mor, .ref mbo, .int mn, .ref tO, .ref tVi, .ref tSm, .int tm]), (msh, aI E 2 Sh), (mw, aI E 192 (mW ρ)), (mt, aI E 8 Ti), (mki, aI E 12 Ki), (mso, aI E 12 So)] [.ref o, .int (nI k), .int 3] (qP L h (fun (_ : Unit) => [(o, ob 10 [.ref mw, .ref mk, .ref mt, .ref mr, .ref mki, .ref mso, .ref mst, .ref mpr, .ref msh, .ref mwa, .ref mpu, .ref mtx, .int ts, .int ma, .int bg, .int wr, .int cl, .int um, .ref mor, .ref mbo, .int mn, .ref tO, .ref tVi, .ref tSm, .int tm]), (msh, aI E 2 Sh), (mw, aI E 192 (mW ρ)), (mt, aI E 8 Ti), (mki, aI E 12 Ki), (mso, aI E 12 So)]) (fun _ => some (.int (-4))) (fun _ => True)) := by
  refine CT.ofV (by decide +kernel) (Nat.le_of_ble_eq_true rfl) ?_
  refine V.locals2 (lv2 := [(0, .ref o), (1, .int (nI k)), (2, .int 3)]) rfl ?_
  refine V.aload_n dX11_as_0 0 rfl ?_
  refine V.iload_n dX11_as_1 1 rfl ?_
  refine V.callVp (As := [.int (nI k)]) (rest := []) [0, 1] (c_M_isShop E l L _ o mw mk mt mr mki mso mst mpr msh mwa mpu mtx mor mbo tO tVi tSm ts ma bg wr cl um mn tm Sh m ((nI k)) (eM) (hm)) rfl (by decide) mi_X11_isShop 0 rfl rfl w_860 w_862 wp_17 rfl rfl (Nat.le_of_ble_eq_true rfl) ⟨by decide, by decide⟩ ⟨by decide, by decide⟩ dX11_as_2 (vw2 := fun _ => [(o, ob 10 [.ref mw, .ref mk, .ref mt, .ref mr, .ref mki, .ref mso, .ref mst, .ref mpr, .ref msh, .ref mwa, .ref mpu, .ref mtx, .int ts, .int ma, .int bg, .int wr, .int cl, .int um, .ref mor, .ref mbo, .int mn, .ref tO, .ref tVi, .ref tSm, .int tm]), (msh, aI E 2 Sh), (mw, aI E 192 (mW ρ)), (mt, aI E 8 Ti), (mki, aI E 12 Ki), (mso, aI E 12 So)]) (st2 := fun _ => [.int (withinI (nI k) 0 (nI m - 1))]) (fun _ => rfl) (fun _ => rfl) (fun _ => rfl) (fun _ _ => ?_)
  refine V.topc (v := 1) (within_nI hkm (by omega)) ?_
  refine V.if_ne (tgt := 11) dX11_as_5 (by decide) (fun _ => ?_) (fun hc => absurd hc (by decide))
  refine V.iload_n dX11_as_11 2 rfl ?_
  refine V.i2l dX11_as_12 ?_
  refine V.lconst (v := 0) dX11_as_13 (by decide) ?_
  refine V.stack (st2 := [.long (Int32.toInt64 0), .long (Int32.toInt64 3)]) (congrArg (fun z64 => Value.long z64 :: [.long (Int32.toInt64 3)]) (show (0 : Int64) = Int32.toInt64 0 by decide)) ?_
  refine V.ldc2 dX11_as_14 w_878 ?_
  refine V.stack (st2 := [.long (Int32.toInt64 4), .long (Int32.toInt64 0), .long (Int32.toInt64 3)]) (congrArg (fun z64 => Value.long z64 :: [.long (Int32.toInt64 0), .long (Int32.toInt64 3)]) (show (4 : Int64) = Int32.toInt64 4 by decide)) ?_
  refine V.callSp (As := [.long (Int32.toInt64 3), .long (Int32.toInt64 0), .long (Int32.toInt64 4)]) (rest := []) [] (c_M_in E l L _ 3 0 4) rfl (by decide) mi_X11_in w_789 w_790 rfl rfl (Nat.le_of_ble_eq_true rfl) ⟨by decide, by decide⟩ ⟨by decide, by decide⟩ dX11_as_17 (vw2 := fun _ => [(o, ob 10 [.ref mw, .ref mk, .ref mt, .ref mr, .ref mki, .ref mso, .ref mst, .ref mpr, .ref msh, .ref mwa, .ref mpu, .ref mtx, .int ts, .int ma, .int bg, .int wr, .int cl, .int um, .ref mor, .ref mbo, .int mn, .ref tO, .ref tVi, .ref tSm, .int tm]), (msh, aI E 2 Sh), (mw, aI E 192 (mW ρ)), (mt, aI E 8 Ti), (mki, aI E 12 Ki), (mso, aI E 12 So)]) (st2 := fun _ => [.int (withinI 3 0 4)]) (fun _ => rfl) (fun _ => rfl) (fun _ => rfl) (fun _ _ => ?_)
  refine V.topc (v := 1) (by decide) ?_
  refine V.if_ne (tgt := 26) dX11_as_20 (by decide) (fun _ => ?_) (fun hc => absurd hc (by decide))
  refine V.aload_n dX11_as_26 0 rfl ?_
  refine V.getf 0 4 rfl fa_X11_23_10 rfl dX11_as_27 ?_
  refine V.iload_n dX11_as_30 1 rfl ?_
  refine V.iald 4 rfl (vinI (by omega)) dX11_as_31 ?_
  refine V.topc (v := (Ki k)) (by rw [nI_clamp (by omega)] <;> rfl) ?_
  refine V.topc (v := 0) (eK) ?_
  refine V.istore_n (lv2 := [(3, .int 0), (0, .ref o), (1, .int (nI k)), (2, .int 3)]) dX11_as_32 rfl (by decide) rfl ?_
  refine V.iload_n dX11_as_33 3 rfl ?_
  refine V.if_eq (tgt := 59) dX11_as_34 (by decide) (fun hc => absurd hc (by decide)) (fun _ => ?_)
  refine V.iload_n dX11_as_37 3 rfl ?_
  refine V.iconst (v := 1) dX11_as_38 (by decide) ?_
  refine V.icmp_ne (tgt := 47) dX11_as_39 (by decide) (fun _ => ?_) (fun hc => absurd hc (by decide))
  refine V.iload_n dX11_as_47 3 rfl ?_
  refine V.iconst (v := 1) dX11_as_48 (by decide) ?_
  refine V.icmp_le (tgt := 63) dX11_as_49 (by decide) (fun hc => absurd hc (by decide)) (fun _ => ?_)
  refine V.iload_n dX11_as_52 3 rfl ?_
  refine V.iload_n dX11_as_53 0 rfl ?_
  refine V.iconst (v := 1) dX11_as_54 (by decide) ?_
  refine V.iadd dX11_as_55 ?_
  refine V.topc (v := 1) (by decide) ?_
  refine V.icmp_ne (tgt := 63) dX11_as_56 (by decide) (fun _ => ?_) (fun hc => absurd hc (by decide))
  refine V.iconst (v := 0) dX11_as_63 (by decide) ?_
  refine V.istore (lv2 := [(4, .int 0), (3, .int 0), (0, .ref o), (1, .int (nI k)), (2, .int 3)]) dX11_as_64 (by decide) rfl ?_
  refine V.iload dX11_as_66 0 rfl ?_
  refine V.if_ne (tgt := 74) dX11_as_68 (by decide) (fun hc => absurd (by decide) hc) (fun _ => ?_)
  refine V.bipush (v := (-4)) dX11_as_71 (by decide) ?_
  exact V.iret rfl dX11_as_73 (⟨(), rfl, rfl, rfl, trivial⟩)

set_option maxHeartbeats 4000000 in
set_option maxRecDepth 100000 in
theorem c_M_as_0_4 (E : vEnv) (l : Launch) (L : List Nat) (h : Nat → va_E) (o : Nat) (mw : Nat) (mk : Nat) (mt : Nat) (mr : Nat) (mki : Nat) (mso : Nat) (mst : Nat) (mpr : Nat) (msh : Nat) (mwa : Nat) (mpu : Nat) (mtx : Nat) (mor : Nat) (mbo : Nat) (tO : Nat) (tVi : Nat) (tSm : Nat) (ts : Int32) (ma : Int32) (bg : Int32) (wr : Int32) (cl : Int32) (um : Int32) (mn : Int32) (tm : Int32) (Sh : Nat → Int32) (m : Nat) (ρ : Nat → MR) (pw : Nat → Int32) (s : NS) (Ti : Nat → Int32) (ti : Nat → Int32) (Ki : Nat → Int32) (So : Nat → Int32) (k : Nat) (so : Nat) (hR : ρ 0 = (pw, s)) (eM : Sh 0 = nI m) (hm : m ≤ 6) (hkm : k < m) (hso : so < 4) (hgT : gT s) (hgI : gI ti) (eI : ∀ j, j < 4 → Ti j = ti j) (eK : Ki k = 0) (eS : So k = nI so) : CT E l yX11_as cX11_as 5 (some (.int)) 2 0 0 L h [(o, ob 10 [.ref mw, .ref mk, .ref mt, .ref mr, .ref mki, .ref mso, .ref mst, .ref mpr, .ref msh, .ref mwa, .ref mpu, .ref mtx, .int ts, .int ma, .int bg, .int wr, .int cl, .int um, .ref mor, .ref mbo, .int mn, .ref tO, .ref tVi, .ref tSm, .int tm]), (msh, aI E 2 Sh), (mw, aI E 192 (mW ρ)), (mt, aI E 8 Ti), (mki, aI E 12 Ki), (mso, aI E 12 So)] [.ref o, .int (nI k), .int 4] (qP L h (fun (_ : Unit) => [(o, ob 10 [.ref mw, .ref mk, .ref mt, .ref mr, .ref mki, .ref mso, .ref mst, .ref mpr, .ref msh, .ref mwa, .ref mpu, .ref mtx, .int ts, .int ma, .int bg, .int wr, .int cl, .int um, .ref mor, .ref mbo, .int mn, .ref tO, .ref tVi, .ref tSm, .int tm]), (msh, aI E 2 Sh), (mw, aI E 192 (mW ρ)), (mt, aI E 8 Ti), (mki, aI E 12 Ki), (mso, aI E 12 So)]) (fun _ => some (.int (-4))) (fun _ => True)) := by
  refine CT.ofV (by decide +kernel) (Nat.le_of_ble_eq_true rfl) ?_
  refine V.locals2 (lv2 := [(0, .ref o), (1, .int (nI k)), (2, .int 4)]) rfl ?_
  refine V.aload_n dX11_as_0 0 rfl ?_
  refine V.iload_n dX11_as_1 1 rfl ?_
  refine V.callVp (As := [.int (nI k)]) (rest := []) [0, 1] (c_M_isShop E l L _ o mw mk mt mr mki mso mst mpr msh mwa mpu mtx mor mbo tO tVi tSm ts ma bg wr cl um mn tm Sh m ((nI k)) (eM) (hm)) rfl (by decide) mi_X11_isShop 0 rfl rfl w_860 w_862 wp_17 rfl rfl (Nat.le_of_ble_eq_true rfl) ⟨by decide, by decide⟩ ⟨by decide, by decide⟩ dX11_as_2 (vw2 := fun _ => [(o, ob 10 [.ref mw, .ref mk, .ref mt, .ref mr, .ref mki, .ref mso, .ref mst, .ref mpr, .ref msh, .ref mwa, .ref mpu, .ref mtx, .int ts, .int ma, .int bg, .int wr, .int cl, .int um, .ref mor, .ref mbo, .int mn, .ref tO, .ref tVi, .ref tSm, .int tm]), (msh, aI E 2 Sh), (mw, aI E 192 (mW ρ)), (mt, aI E 8 Ti), (mki, aI E 12 Ki), (mso, aI E 12 So)]) (st2 := fun _ => [.int (withinI (nI k) 0 (nI m - 1))]) (fun _ => rfl) (fun _ => rfl) (fun _ => rfl) (fun _ _ => ?_)
  refine V.topc (v := 1) (within_nI hkm (by omega)) ?_
  refine V.if_ne (tgt := 11) dX11_as_5 (by decide) (fun _ => ?_) (fun hc => absurd hc (by decide))
  refine V.iload_n dX11_as_11 2 rfl ?_
  refine V.i2l dX11_as_12 ?_
  refine V.lconst (v := 0) dX11_as_13 (by decide) ?_
  refine V.stack (st2 := [.long (Int32.toInt64 0), .long (Int32.toInt64 4)]) (congrArg (fun z64 => Value.long z64 :: [.long (Int32.toInt64 4)]) (show (0 : Int64) = Int32.toInt64 0 by decide)) ?_
  refine V.ldc2 dX11_as_14 w_878 ?_
  refine V.stack (st2 := [.long (Int32.toInt64 4), .long (Int32.toInt64 0), .long (Int32.toInt64 4)]) (congrArg (fun z64 => Value.long z64 :: [.long (Int32.toInt64 0), .long (Int32.toInt64 4)]) (show (4 : Int64) = Int32.toInt64 4 by decide)) ?_
  refine V.callSp (As := [.long (Int32.toInt64 4), .long (Int32.toInt64 0), .long (Int32.toInt64 4)]) (rest := []) [] (c_M_in E l L _ 4 0 4) rfl (by decide) mi_X11_in w_789 w_790 rfl rfl (Nat.le_of_ble_eq_true rfl) ⟨by decide, by decide⟩ ⟨by decide, by decide⟩ dX11_as_17 (vw2 := fun _ => [(o, ob 10 [.ref mw, .ref mk, .ref mt, .ref mr, .ref mki, .ref mso, .ref mst, .ref mpr, .ref msh, .ref mwa, .ref mpu, .ref mtx, .int ts, .int ma, .int bg, .int wr, .int cl, .int um, .ref mor, .ref mbo, .int mn, .ref tO, .ref tVi, .ref tSm, .int tm]), (msh, aI E 2 Sh), (mw, aI E 192 (mW ρ)), (mt, aI E 8 Ti), (mki, aI E 12 Ki), (mso, aI E 12 So)]) (st2 := fun _ => [.int (withinI 4 0 4)]) (fun _ => rfl) (fun _ => rfl) (fun _ => rfl) (fun _ _ => ?_)
  refine V.topc (v := 1) (by decide) ?_
  refine V.if_ne (tgt := 26) dX11_as_20 (by decide) (fun _ => ?_) (fun hc => absurd hc (by decide))
  refine V.aload_n dX11_as_26 0 rfl ?_
  refine V.getf 0 4 rfl fa_X11_23_10 rfl dX11_as_27 ?_
  refine V.iload_n dX11_as_30 1 rfl ?_
  refine V.iald 4 rfl (vinI (by omega)) dX11_as_31 ?_
  refine V.topc (v := (Ki k)) (by rw [nI_clamp (by omega)] <;> rfl) ?_
  refine V.topc (v := 0) (eK) ?_
  refine V.istore_n (lv2 := [(3, .int 0), (0, .ref o), (1, .int (nI k)), (2, .int 4)]) dX11_as_32 rfl (by decide) rfl ?_
  refine V.iload_n dX11_as_33 3 rfl ?_
  refine V.if_eq (tgt := 59) dX11_as_34 (by decide) (fun hc => absurd hc (by decide)) (fun _ => ?_)
  refine V.iload_n dX11_as_37 3 rfl ?_
  refine V.iconst (v := 1) dX11_as_38 (by decide) ?_
  refine V.icmp_ne (tgt := 47) dX11_as_39 (by decide) (fun _ => ?_) (fun hc => absurd hc (by decide))
  refine V.iload_n dX11_as_47 3 rfl ?_
  refine V.iconst (v := 1) dX11_as_48 (by decide) ?_
  refine V.icmp_le (tgt := 63) dX11_as_49 (by decide) (fun hc => absurd hc (by decide)) (fun _ => ?_)
  refine V.iload_n dX11_as_52 3 rfl ?_
  refine V.iload_n dX11_as_53 0 rfl ?_
  refine V.iconst (v := 1) dX11_as_54 (by decide) ?_
  refine V.iadd dX11_as_55 ?_
  refine V.topc (v := 1) (by decide) ?_
  refine V.icmp_ne (tgt := 63) dX11_as_56 (by decide) (fun _ => ?_) (fun hc => absurd hc (by decide))
  refine V.iconst (v := 0) dX11_as_63 (by decide) ?_
  refine V.istore (lv2 := [(4, .int 0), (3, .int 0), (0, .ref o), (1, .int (nI k)), (2, .int 4)]) dX11_as_64 (by decide) rfl ?_
  refine V.iload dX11_as_66 0 rfl ?_
  refine V.if_ne (tgt := 74) dX11_as_68 (by decide) (fun hc => absurd (by decide) hc) (fun _ => ?_)
  refine V.bipush (v := (-4)) dX11_as_71 (by decide) ?_
  exact V.iret rfl dX11_as_73 (⟨(), rfl, rfl, rfl, trivial⟩)

set_option maxHeartbeats 4000000 in
set_option maxRecDepth 100000 in
theorem c_M_as_1_0 (E : vEnv) (l : Launch) (L : List Nat) (h : Nat → va_E) (o : Nat) (mw : Nat) (mk : Nat) (mt : Nat) (mr : Nat) (mki : Nat) (mso : Nat) (mst : Nat) (mpr : Nat) (msh : Nat) (mwa : Nat) (mpu : Nat) (mtx : Nat) (mor : Nat) (mbo : Nat) (tO : Nat) (tVi : Nat) (tSm : Nat) (ts : Int32) (ma : Int32) (bg : Int32) (wr : Int32) (cl : Int32) (um : Int32) (mn : Int32) (tm : Int32) (Sh : Nat → Int32) (m : Nat) (ρ : Nat → MR) (pw : Nat → Int32) (s : NS) (Ti : Nat → Int32) (ti : Nat → Int32) (Ki : Nat → Int32) (So : Nat → Int32) (k : Nat) (so : Nat) (hR : ρ 0 = (pw, s)) (eM : Sh 0 = nI m) (hm : m ≤ 6) (hkm : k < m) (hso : so < 4) (hgT : gT s) (hgI : gI ti) (eI : ∀ j, j < 4 → Ti j = ti j) (eK : Ki k = 1) (eS : So k = nI so) : CT E l yX11_as cX11_as 5 (some (.int)) 2 0 0 L h [(o, ob 10 [.ref mw, .ref mk, .ref mt, .ref mr, .ref mki, .ref mso, .ref mst, .ref mpr, .ref msh, .ref mwa, .ref mpu, .ref mtx, .int ts, .int ma, .int bg, .int wr, .int cl, .int um, .ref mor, .ref mbo, .int mn, .ref tO, .ref tVi, .ref tSm, .int tm]), (msh, aI E 2 Sh), (mw, aI E 192 (mW ρ)), (mt, aI E 8 Ti), (mki, aI E 12 Ki), (mso, aI E 12 So)] [.ref o, .int (nI k), .int 0] (qP L h (fun (_ : Unit) => [(o, ob 10 [.ref mw, .ref mk, .ref mt, .ref mr, .ref mki, .ref mso, .ref mst, .ref mpr, .ref msh, .ref mwa, .ref mpu, .ref mtx, .int ts, .int ma, .int bg, .int wr, .int cl, .int um, .ref mor, .ref mbo, .int mn, .ref tO, .ref tVi, .ref tSm, .int tm]), (msh, aI E 2 Sh), (mw, aI E 192 (mW (va_up ρ 1 (pw, tireN 1 so ti s)))), (mt, aI E 8 Ti), (mki, aI E 12 Ki), (mso, aI E 12 So)]) (fun _ => some (.int (asI 1 so ti s))) (fun _ => True)) := by
  refine CT.ofV (by decide +kernel) (Nat.le_of_ble_eq_true rfl) ?_
  refine V.locals2 (lv2 := [(0, .ref o), (1, .int (nI k)), (2, .int 0)]) rfl ?_
  refine V.aload_n dX11_as_0 0 rfl ?_
  refine V.iload_n dX11_as_1 1 rfl ?_
  refine V.callVp (As := [.int (nI k)]) (rest := []) [0, 1] (c_M_isShop E l L _ o mw mk mt mr mki mso mst mpr msh mwa mpu mtx mor mbo tO tVi tSm ts ma bg wr cl um mn tm Sh m ((nI k)) (eM) (hm)) rfl (by decide) mi_X11_isShop 0 rfl rfl w_860 w_862 wp_17 rfl rfl (Nat.le_of_ble_eq_true rfl) ⟨by decide, by decide⟩ ⟨by decide, by decide⟩ dX11_as_2 (vw2 := fun _ => [(o, ob 10 [.ref mw, .ref mk, .ref mt, .ref mr, .ref mki, .ref mso, .ref mst, .ref mpr, .ref msh, .ref mwa, .ref mpu, .ref mtx, .int ts, .int ma, .int bg, .int wr, .int cl, .int um, .ref mor, .ref mbo, .int mn, .ref tO, .ref tVi, .ref tSm, .int tm]), (msh, aI E 2 Sh), (mw, aI E 192 (mW ρ)), (mt, aI E 8 Ti), (mki, aI E 12 Ki), (mso, aI E 12 So)]) (st2 := fun _ => [.int (withinI (nI k) 0 (nI m - 1))]) (fun _ => rfl) (fun _ => rfl) (fun _ => rfl) (fun _ _ => ?_)
  refine V.topc (v := 1) (within_nI hkm (by omega)) ?_
  refine V.if_ne (tgt := 11) dX11_as_5 (by decide) (fun _ => ?_) (fun hc => absurd hc (by decide))
  refine V.iload_n dX11_as_11 2 rfl ?_
  refine V.i2l dX11_as_12 ?_
  refine V.lconst (v := 0) dX11_as_13 (by decide) ?_
  refine V.stack (st2 := [.long (Int32.toInt64 0), .long (Int32.toInt64 0)]) (congrArg (fun z64 => Value.long z64 :: [.long (Int32.toInt64 0)]) (show (0 : Int64) = Int32.toInt64 0 by decide)) ?_
  refine V.ldc2 dX11_as_14 w_878 ?_
  refine V.stack (st2 := [.long (Int32.toInt64 4), .long (Int32.toInt64 0), .long (Int32.toInt64 0)]) (congrArg (fun z64 => Value.long z64 :: [.long (Int32.toInt64 0), .long (Int32.toInt64 0)]) (show (4 : Int64) = Int32.toInt64 4 by decide)) ?_
  refine V.callSp (As := [.long (Int32.toInt64 0), .long (Int32.toInt64 0), .long (Int32.toInt64 4)]) (rest := []) [] (c_M_in E l L _ 0 0 4) rfl (by decide) mi_X11_in w_789 w_790 rfl rfl (Nat.le_of_ble_eq_true rfl) ⟨by decide, by decide⟩ ⟨by decide, by decide⟩ dX11_as_17 (vw2 := fun _ => [(o, ob 10 [.ref mw, .ref mk, .ref mt, .ref mr, .ref mki, .ref mso, .ref mst, .ref mpr, .ref msh, .ref mwa, .ref mpu, .ref mtx, .int ts, .int ma, .int bg, .int wr, .int cl, .int um, .ref mor, .ref mbo, .int mn, .ref tO, .ref tVi, .ref tSm, .int tm]), (msh, aI E 2 Sh), (mw, aI E 192 (mW ρ)), (mt, aI E 8 Ti), (mki, aI E 12 Ki), (mso, aI E 12 So)]) (st2 := fun _ => [.int (withinI 0 0 4)]) (fun _ => rfl) (fun _ => rfl) (fun _ => rfl) (fun _ _ => ?_)
  refine V.topc (v := 1) (by decide) ?_
  refine V.if_ne (tgt := 26) dX11_as_20 (by decide) (fun _ => ?_) (fun hc => absurd hc (by decide))
  refine V.aload_n dX11_as_26 0 rfl ?_
  refine V.getf 0 4 rfl fa_X11_23_10 rfl dX11_as_27 ?_
  refine V.iload_n dX11_as_30 1 rfl ?_
  refine V.iald 4 rfl (vinI (by omega)) dX11_as_31 ?_
  refine V.topc (v := (Ki k)) (by rw [nI_clamp (by omega)] <;> rfl) ?_
  refine V.topc (v := 1) (eK) ?_
  refine V.istore_n (lv2 := [(3, .int 1), (0, .ref o), (1, .int (nI k)), (2, .int 0)]) dX11_as_32 rfl (by decide) rfl ?_
  refine V.iload_n dX11_as_33 3 rfl ?_
  refine V.if_eq (tgt := 59) dX11_as_34 (by decide) (fun _ => ?_) (fun hc => absurd (by decide) hc)
  refine V.iconst (v := 1) dX11_as_59 (by decide) ?_
  refine V.goto (tgt := 64) dX11_as_60 (by decide) ?_
  refine V.istore (lv2 := [(4, .int 1), (3, .int 1), (0, .ref o), (1, .int (nI k)), (2, .int 0)]) dX11_as_64 (by decide) rfl ?_
  refine V.iload dX11_as_66 0 rfl ?_
  refine V.if_ne (tgt := 74) dX11_as_68 (by decide) (fun _ => ?_) (fun hc => absurd hc (by decide))
  refine V.aload_n dX11_as_74 2 rfl ?_
  refine V.iconst (v := 0) dX11_as_75 (by decide) ?_
  refine V.bipush (v := 16) dX11_as_76 (by decide) ?_
  refine V.callVp (As := [.int 0, .int 16]) (rest := []) [0, 2] (c_M_copy E l L _ o mw mk mt mr mki mso mst mpr msh mwa mpu mtx mor mbo tO tVi tSm ts ma bg wr cl um mn tm ρ 0 1 (by decide) (by decide) (by decide)) rfl (by decide) mi_X11_copy 0 rfl rfl w_879 w_881 wp_19 rfl rfl (Nat.le_of_ble_eq_true rfl) ⟨by decide, by decide⟩ ⟨by decide, by decide⟩ dX11_as_78 (vw2 := fun _ => [(o, ob 10 [.ref mw, .ref mk, .ref mt, .ref mr, .ref mki, .ref mso, .ref mst, .ref mpr, .ref msh, .ref mwa, .ref mpu, .ref mtx, .int ts, .int ma, .int bg, .int wr, .int cl, .int um, .ref mor, .ref mbo, .int mn, .ref tO, .ref tVi, .ref tSm, .int tm]), (msh, aI E 2 Sh), (mw, aI E 192 (mW (va_up ρ 1 (ρ 0)))), (mt, aI E 8 Ti), (mki, aI E 12 Ki), (mso, aI E 12 So)]) (st2 := fun _ => []) (fun _ => rfl) (fun _ => rfl) (fun _ => rfl) (fun _ _ => ?_)
  refine V.arrEq (vw2 := [(o, ob 10 [.ref mw, .ref mk, .ref mt, .ref mr, .ref mki, .ref mso, .ref mst, .ref mpr, .ref msh, .ref mwa, .ref mpu, .ref mtx, .int ts, .int ma, .int bg, .int wr, .int cl, .int um, .ref mor, .ref mbo, .int mn, .ref tO, .ref tVi, .ref tSm, .int tm]), (msh, aI E 2 Sh), (mw, aI E 192 (mW (va_up ρ 1 (pw, s)))), (mt, aI E 8 Ti), (mki, aI E 12 Ki), (mso, aI E 12 So)]) 2 0 rfl (fun j _ => by rw [hR]) rfl ?_
  refine V.aload_n dX11_as_81 2 rfl ?_
  refine V.bipush (v := 16) dX11_as_82 (by decide) ?_
  refine V.iload_n dX11_as_84 1 rfl ?_
  refine V.aload_n dX11_as_85 2 rfl ?_
  refine V.getf 0 5 rfl fa_X11_26_10 rfl dX11_as_86 ?_
  refine V.iload_n dX11_as_89 3 rfl ?_
  refine V.iald 5 rfl (vinI (by omega)) dX11_as_90 ?_
  refine V.topc (v := (So k)) (by rw [nI_clamp (by omega)] <;> rfl) ?_
  refine V.topc (v := (nI so)) (eS) ?_
  refine V.callVp (As := [.int 16, .int 1, .int (nI so)]) (rest := []) [0, 2, 3] (c_M_tireAs_1 E l L _ o mw mk mt mr mki mso mst mpr msh mwa mpu mtx mor mbo tO tVi tSm ts ma bg wr cl um mn tm ((va_up ρ 1 (pw, s))) 1 pw s Ti ti so (by decide) (va_up_self _ _ _) (hso) (hgT) (hgI) (eI)) rfl (by decide) mi_X11_tireAs 0 rfl rfl w_883 w_885 wp_20 rfl rfl (Nat.le_of_ble_eq_true rfl) ⟨by decide, by decide⟩ ⟨by decide, by decide⟩ dX11_as_91 (vw2 := fun _ => [(o, ob 10 [.ref mw, .ref mk, .ref mt, .ref mr, .ref mki, .ref mso, .ref mst, .ref mpr, .ref msh, .ref mwa, .ref mpu, .ref mtx, .int ts, .int ma, .int bg, .int wr, .int cl, .int um, .ref mor, .ref mbo, .int mn, .ref tO, .ref tVi, .ref tSm, .int tm]), (msh, aI E 2 Sh), (mw, aI E 192 (mW (va_up (va_up ρ 1 (pw, s)) 1 (pw, (tireN 1 so ti s))))), (mt, aI E 8 Ti), (mki, aI E 12 Ki), (mso, aI E 12 So)]) (st2 := fun _ => []) (fun _ => rfl) (fun _ => rfl) (fun _ => rfl) (fun _ _ => ?_)
  refine V.arrEq (vw2 := [(o, ob 10 [.ref mw, .ref mk, .ref mt, .ref mr, .ref mki, .ref mso, .ref mst, .ref mpr, .ref msh, .ref mwa, .ref mpu, .ref mtx, .int ts, .int ma, .int bg, .int wr, .int cl, .int um, .ref mor, .ref mbo, .int mn, .ref tO, .ref tVi, .ref tSm, .int tm]), (msh, aI E 2 Sh), (mw, aI E 192 (mW (va_up ρ 1 (pw, tireN 1 so ti s)))), (mt, aI E 8 Ti), (mki, aI E 12 Ki), (mso, aI E 12 So)]) 2 0 rfl (fun j _ => mW_ups j) rfl ?_
  refine V.aload_n dX11_as_94 2 rfl ?_
  refine V.getf 0 0 rfl fa_X11_7_10 rfl dX11_as_95 ?_
  refine V.bipush (v := 22) dX11_as_98 (by decide) ?_
  refine V.aload_n dX11_as_100 2 rfl ?_
  refine V.getf 0 5 rfl fa_X11_26_10 rfl dX11_as_101 ?_
  refine V.iload_n dX11_as_104 3 rfl ?_
  refine V.iald 5 rfl (vinI (by omega)) dX11_as_105 ?_
  refine V.topc (v := (So k)) (by rw [nI_clamp (by omega)] <;> rfl) ?_
  refine V.topc (v := (nI so)) (eS) ?_
  refine V.iadd dX11_as_106 ?_
  refine V.topc (v := (nI (22 + so))) (nI_add 22 so) ?_
  refine V.iald 2 rfl (vinI (by omega)) dX11_as_107 ?_
  refine V.topc (v := ((mW (va_up ρ 1 (pw, tireN 1 so ti s))) ((22 + so)))) (by rw [nI_clamp (by omega)] <;> rfl) ?_
  refine V.topc (v := ((tireN 1 so ti s).1 so)) (mW_ti (i := 1) (va_up_self _ _ _) hso) ?_
  refine V.aload_n dX11_as_108 2 rfl ?_
  refine V.getf 0 0 rfl fa_X11_7_10 rfl dX11_as_109 ?_
  refine V.bipush (v := 6) dX11_as_112 (by decide) ?_
  refine V.aload_n dX11_as_114 2 rfl ?_
  refine V.getf 0 5 rfl fa_X11_26_10 rfl dX11_as_115 ?_
  refine V.iload_n dX11_as_118 3 rfl ?_
  refine V.iald 5 rfl (vinI (by omega)) dX11_as_119 ?_
  refine V.topc (v := (So k)) (by rw [nI_clamp (by omega)] <;> rfl) ?_
  refine V.topc (v := (nI so)) (eS) ?_
  refine V.iadd dX11_as_120 ?_
  refine V.topc (v := (nI (6 + so))) (nI_add 6 so) ?_
  refine V.iald 2 rfl (vinI (by omega)) dX11_as_121 ?_
  refine V.topc (v := ((mW (va_up ρ 1 (pw, tireN 1 so ti s))) ((6 + so)))) (by rw [nI_clamp (by omega)] <;> rfl) ?_
  refine V.topc (v := (s.1 so)) (mW_ti (i := 0) ((va_up_ne _ _ (by decide)).trans hR) hso) ?_
  refine V.isub dX11_as_122 ?_
  refine V.bipush (v := 99) dX11_as_123 (by decide) ?_
  refine V.iadd dX11_as_125 ?_
  exact V.iret rfl dX11_as_126 (⟨(), congrArg (fun z9 => some (Value.int z9)) (as_eq 1 so ti s), rfl, rfl, trivial⟩)

set_option maxHeartbeats 4000000 in
set_option maxRecDepth 100000 in
theorem c_M_as_1_1 (E : vEnv) (l : Launch) (L : List Nat) (h : Nat → va_E) (o : Nat) (mw : Nat) (mk : Nat) (mt : Nat) (mr : Nat) (mki : Nat) (mso : Nat) (mst : Nat) (mpr : Nat) (msh : Nat) (mwa : Nat) (mpu : Nat) (mtx : Nat) (mor : Nat) (mbo : Nat) (tO : Nat) (tVi : Nat) (tSm : Nat) (ts : Int32) (ma : Int32) (bg : Int32) (wr : Int32) (cl : Int32) (um : Int32) (mn : Int32) (tm : Int32) (Sh : Nat → Int32) (m : Nat) (ρ : Nat → MR) (pw : Nat → Int32) (s : NS) (Ti : Nat → Int32) (ti : Nat → Int32) (Ki : Nat → Int32) (So : Nat → Int32) (k : Nat) (so : Nat) (hR : ρ 0 = (pw, s)) (eM : Sh 0 = nI m) (hm : m ≤ 6) (hkm : k < m) (hso : so < 4) (hgT : gT s) (hgI : gI ti) (eI : ∀ j, j < 4 → Ti j = ti j) (eK : Ki k = 1) (eS : So k = nI so) : CT E l yX11_as cX11_as 5 (some (.int)) 2 0 0 L h [(o, ob 10 [.ref mw, .ref mk, .ref mt, .ref mr, .ref mki, .ref mso, .ref mst, .ref mpr, .ref msh, .ref mwa, .ref mpu, .ref mtx, .int ts, .int ma, .int bg, .int wr, .int cl, .int um, .ref mor, .ref mbo, .int mn, .ref tO, .ref tVi, .ref tSm, .int tm]), (msh, aI E 2 Sh), (mw, aI E 192 (mW ρ)), (mt, aI E 8 Ti), (mki, aI E 12 Ki), (mso, aI E 12 So)] [.ref o, .int (nI k), .int 1] (qP L h (fun (_ : Unit) => [(o, ob 10 [.ref mw, .ref mk, .ref mt, .ref mr, .ref mki, .ref mso, .ref mst, .ref mpr, .ref msh, .ref mwa, .ref mpu, .ref mtx, .int ts, .int ma, .int bg, .int wr, .int cl, .int um, .ref mor, .ref mbo, .int mn, .ref tO, .ref tVi, .ref tSm, .int tm]), (msh, aI E 2 Sh), (mw, aI E 192 (mW (va_up ρ 1 (pw, tireN 1 so ti s)))), (mt, aI E 8 Ti), (mki, aI E 12 Ki), (mso, aI E 12 So)]) (fun _ => some (.int (asI 1 so ti s))) (fun _ => True)) := by
  refine CT.ofV (by decide +kernel) (Nat.le_of_ble_eq_true rfl) ?_
  refine V.locals2 (lv2 := [(0, .ref o), (1, .int (nI k)), (2, .int 1)]) rfl ?_
  refine V.aload_n dX11_as_0 0 rfl ?_
  refine V.iload_n dX11_as_1 1 rfl ?_
  refine V.callVp (As := [.int (nI k)]) (rest := []) [0, 1] (c_M_isShop E l L _ o mw mk mt mr mki mso mst mpr msh mwa mpu mtx mor mbo tO tVi tSm ts ma bg wr cl um mn tm Sh m ((nI k)) (eM) (hm)) rfl (by decide) mi_X11_isShop 0 rfl rfl w_860 w_862 wp_17 rfl rfl (Nat.le_of_ble_eq_true rfl) ⟨by decide, by decide⟩ ⟨by decide, by decide⟩ dX11_as_2 (vw2 := fun _ => [(o, ob 10 [.ref mw, .ref mk, .ref mt, .ref mr, .ref mki, .ref mso, .ref mst, .ref mpr, .ref msh, .ref mwa, .ref mpu, .ref mtx, .int ts, .int ma, .int bg, .int wr, .int cl, .int um, .ref mor, .ref mbo, .int mn, .ref tO, .ref tVi, .ref tSm, .int tm]), (msh, aI E 2 Sh), (mw, aI E 192 (mW ρ)), (mt, aI E 8 Ti), (mki, aI E 12 Ki), (mso, aI E 12 So)]) (st2 := fun _ => [.int (withinI (nI k) 0 (nI m - 1))]) (fun _ => rfl) (fun _ => rfl) (fun _ => rfl) (fun _ _ => ?_)
  refine V.topc (v := 1) (within_nI hkm (by omega)) ?_
  refine V.if_ne (tgt := 11) dX11_as_5 (by decide) (fun _ => ?_) (fun hc => absurd hc (by decide))
  refine V.iload_n dX11_as_11 2 rfl ?_
  refine V.i2l dX11_as_12 ?_
  refine V.lconst (v := 0) dX11_as_13 (by decide) ?_
  refine V.stack (st2 := [.long (Int32.toInt64 0), .long (Int32.toInt64 1)]) (congrArg (fun z64 => Value.long z64 :: [.long (Int32.toInt64 1)]) (show (0 : Int64) = Int32.toInt64 0 by decide)) ?_
  refine V.ldc2 dX11_as_14 w_878 ?_
  refine V.stack (st2 := [.long (Int32.toInt64 4), .long (Int32.toInt64 0), .long (Int32.toInt64 1)]) (congrArg (fun z64 => Value.long z64 :: [.long (Int32.toInt64 0), .long (Int32.toInt64 1)]) (show (4 : Int64) = Int32.toInt64 4 by decide)) ?_
  refine V.callSp (As := [.long (Int32.toInt64 1), .long (Int32.toInt64 0), .long (Int32.toInt64 4)]) (rest := []) [] (c_M_in E l L _ 1 0 4) rfl (by decide) mi_X11_in w_789 w_790 rfl rfl (Nat.le_of_ble_eq_true rfl) ⟨by decide, by decide⟩ ⟨by decide, by decide⟩ dX11_as_17 (vw2 := fun _ => [(o, ob 10 [.ref mw, .ref mk, .ref mt, .ref mr, .ref mki, .ref mso, .ref mst, .ref mpr, .ref msh, .ref mwa, .ref mpu, .ref mtx, .int ts, .int ma, .int bg, .int wr, .int cl, .int um, .ref mor, .ref mbo, .int mn, .ref tO, .ref tVi, .ref tSm, .int tm]), (msh, aI E 2 Sh), (mw, aI E 192 (mW ρ)), (mt, aI E 8 Ti), (mki, aI E 12 Ki), (mso, aI E 12 So)]) (st2 := fun _ => [.int (withinI 1 0 4)]) (fun _ => rfl) (fun _ => rfl) (fun _ => rfl) (fun _ _ => ?_)
  refine V.topc (v := 1) (by decide) ?_
  refine V.if_ne (tgt := 26) dX11_as_20 (by decide) (fun _ => ?_) (fun hc => absurd hc (by decide))
  refine V.aload_n dX11_as_26 0 rfl ?_
  refine V.getf 0 4 rfl fa_X11_23_10 rfl dX11_as_27 ?_
  refine V.iload_n dX11_as_30 1 rfl ?_
  refine V.iald 4 rfl (vinI (by omega)) dX11_as_31 ?_
  refine V.topc (v := (Ki k)) (by rw [nI_clamp (by omega)] <;> rfl) ?_
  refine V.topc (v := 1) (eK) ?_
  refine V.istore_n (lv2 := [(3, .int 1), (0, .ref o), (1, .int (nI k)), (2, .int 1)]) dX11_as_32 rfl (by decide) rfl ?_
  refine V.iload_n dX11_as_33 3 rfl ?_
  refine V.if_eq (tgt := 59) dX11_as_34 (by decide) (fun hc => absurd hc (by decide)) (fun _ => ?_)
  refine V.iload_n dX11_as_37 3 rfl ?_
  refine V.iconst (v := 1) dX11_as_38 (by decide) ?_
  refine V.icmp_ne (tgt := 47) dX11_as_39 (by decide) (fun hc => absurd (by decide) hc) (fun _ => ?_)
  refine V.iload_n dX11_as_42 0 rfl ?_
  refine V.iconst (v := 2) dX11_as_43 (by decide) ?_
  refine V.icmp_lt (tgt := 59) dX11_as_44 (by decide) (fun _ => ?_) (fun hc => absurd (by decide) hc)
  refine V.iconst (v := 1) dX11_as_59 (by decide) ?_
  refine V.goto (tgt := 64) dX11_as_60 (by decide) ?_
  refine V.istore (lv2 := [(4, .int 1), (3, .int 1), (0, .ref o), (1, .int (nI k)), (2, .int 1)]) dX11_as_64 (by decide) rfl ?_
  refine V.iload dX11_as_66 0 rfl ?_
  refine V.if_ne (tgt := 74) dX11_as_68 (by decide) (fun _ => ?_) (fun hc => absurd hc (by decide))
  refine V.aload_n dX11_as_74 2 rfl ?_
  refine V.iconst (v := 0) dX11_as_75 (by decide) ?_
  refine V.bipush (v := 16) dX11_as_76 (by decide) ?_
  refine V.callVp (As := [.int 0, .int 16]) (rest := []) [0, 2] (c_M_copy E l L _ o mw mk mt mr mki mso mst mpr msh mwa mpu mtx mor mbo tO tVi tSm ts ma bg wr cl um mn tm ρ 0 1 (by decide) (by decide) (by decide)) rfl (by decide) mi_X11_copy 0 rfl rfl w_879 w_881 wp_19 rfl rfl (Nat.le_of_ble_eq_true rfl) ⟨by decide, by decide⟩ ⟨by decide, by decide⟩ dX11_as_78 (vw2 := fun _ => [(o, ob 10 [.ref mw, .ref mk, .ref mt, .ref mr, .ref mki, .ref mso, .ref mst, .ref mpr, .ref msh, .ref mwa, .ref mpu, .ref mtx, .int ts, .int ma, .int bg, .int wr, .int cl, .int um, .ref mor, .ref mbo, .int mn, .ref tO, .ref tVi, .ref tSm, .int tm]), (msh, aI E 2 Sh), (mw, aI E 192 (mW (va_up ρ 1 (ρ 0)))), (mt, aI E 8 Ti), (mki, aI E 12 Ki), (mso, aI E 12 So)]) (st2 := fun _ => []) (fun _ => rfl) (fun _ => rfl) (fun _ => rfl) (fun _ _ => ?_)
  refine V.arrEq (vw2 := [(o, ob 10 [.ref mw, .ref mk, .ref mt, .ref mr, .ref mki, .ref mso, .ref mst, .ref mpr, .ref msh, .ref mwa, .ref mpu, .ref mtx, .int ts, .int ma, .int bg, .int wr, .int cl, .int um, .ref mor, .ref mbo, .int mn, .ref tO, .ref tVi, .ref tSm, .int tm]), (msh, aI E 2 Sh), (mw, aI E 192 (mW (va_up ρ 1 (pw, s)))), (mt, aI E 8 Ti), (mki, aI E 12 Ki), (mso, aI E 12 So)]) 2 0 rfl (fun j _ => by rw [hR]) rfl ?_
  refine V.aload_n dX11_as_81 2 rfl ?_
  refine V.bipush (v := 16) dX11_as_82 (by decide) ?_
  refine V.iload_n dX11_as_84 1 rfl ?_
  refine V.aload_n dX11_as_85 2 rfl ?_
  refine V.getf 0 5 rfl fa_X11_26_10 rfl dX11_as_86 ?_
  refine V.iload_n dX11_as_89 3 rfl ?_
  refine V.iald 5 rfl (vinI (by omega)) dX11_as_90 ?_
  refine V.topc (v := (So k)) (by rw [nI_clamp (by omega)] <;> rfl) ?_
  refine V.topc (v := (nI so)) (eS) ?_
  refine V.callVp (As := [.int 16, .int 1, .int (nI so)]) (rest := []) [0, 2, 3] (c_M_tireAs_1 E l L _ o mw mk mt mr mki mso mst mpr msh mwa mpu mtx mor mbo tO tVi tSm ts ma bg wr cl um mn tm ((va_up ρ 1 (pw, s))) 1 pw s Ti ti so (by decide) (va_up_self _ _ _) (hso) (hgT) (hgI) (eI)) rfl (by decide) mi_X11_tireAs 0 rfl rfl w_883 w_885 wp_20 rfl rfl (Nat.le_of_ble_eq_true rfl) ⟨by decide, by decide⟩ ⟨by decide, by decide⟩ dX11_as_91 (vw2 := fun _ => [(o, ob 10 [.ref mw, .ref mk, .ref mt, .ref mr, .ref mki, .ref mso, .ref mst, .ref mpr, .ref msh, .ref mwa, .ref mpu, .ref mtx, .int ts, .int ma, .int bg, .int wr, .int cl, .int um, .ref mor, .ref mbo, .int mn, .ref tO, .ref tVi, .ref tSm, .int tm]), (msh, aI E 2 Sh), (mw, aI E 192 (mW (va_up (va_up ρ 1 (pw, s)) 1 (pw, (tireN 1 so ti s))))), (mt, aI E 8 Ti), (mki, aI E 12 Ki), (mso, aI E 12 So)]) (st2 := fun _ => []) (fun _ => rfl) (fun _ => rfl) (fun _ => rfl) (fun _ _ => ?_)
  refine V.arrEq (vw2 := [(o, ob 10 [.ref mw, .ref mk, .ref mt, .ref mr, .ref mki, .ref mso, .ref mst, .ref mpr, .ref msh, .ref mwa, .ref mpu, .ref mtx, .int ts, .int ma, .int bg, .int wr, .int cl, .int um, .ref mor, .ref mbo, .int mn, .ref tO, .ref tVi, .ref tSm, .int tm]), (msh, aI E 2 Sh), (mw, aI E 192 (mW (va_up ρ 1 (pw, tireN 1 so ti s)))), (mt, aI E 8 Ti), (mki, aI E 12 Ki), (mso, aI E 12 So)]) 2 0 rfl (fun j _ => mW_ups j) rfl ?_
  refine V.aload_n dX11_as_94 2 rfl ?_
  refine V.getf 0 0 rfl fa_X11_7_10 rfl dX11_as_95 ?_
  refine V.bipush (v := 22) dX11_as_98 (by decide) ?_
  refine V.aload_n dX11_as_100 2 rfl ?_
  refine V.getf 0 5 rfl fa_X11_26_10 rfl dX11_as_101 ?_
  refine V.iload_n dX11_as_104 3 rfl ?_
  refine V.iald 5 rfl (vinI (by omega)) dX11_as_105 ?_
  refine V.topc (v := (So k)) (by rw [nI_clamp (by omega)] <;> rfl) ?_
  refine V.topc (v := (nI so)) (eS) ?_
  refine V.iadd dX11_as_106 ?_
  refine V.topc (v := (nI (22 + so))) (nI_add 22 so) ?_
  refine V.iald 2 rfl (vinI (by omega)) dX11_as_107 ?_
  refine V.topc (v := ((mW (va_up ρ 1 (pw, tireN 1 so ti s))) ((22 + so)))) (by rw [nI_clamp (by omega)] <;> rfl) ?_
  refine V.topc (v := ((tireN 1 so ti s).1 so)) (mW_ti (i := 1) (va_up_self _ _ _) hso) ?_
  refine V.aload_n dX11_as_108 2 rfl ?_
  refine V.getf 0 0 rfl fa_X11_7_10 rfl dX11_as_109 ?_
  refine V.bipush (v := 6) dX11_as_112 (by decide) ?_
  refine V.aload_n dX11_as_114 2 rfl ?_
  refine V.getf 0 5 rfl fa_X11_26_10 rfl dX11_as_115 ?_
  refine V.iload_n dX11_as_118 3 rfl ?_
  refine V.iald 5 rfl (vinI (by omega)) dX11_as_119 ?_
  refine V.topc (v := (So k)) (by rw [nI_clamp (by omega)] <;> rfl) ?_
  refine V.topc (v := (nI so)) (eS) ?_
  refine V.iadd dX11_as_120 ?_
  refine V.topc (v := (nI (6 + so))) (nI_add 6 so) ?_
  refine V.iald 2 rfl (vinI (by omega)) dX11_as_121 ?_
  refine V.topc (v := ((mW (va_up ρ 1 (pw, tireN 1 so ti s))) ((6 + so)))) (by rw [nI_clamp (by omega)] <;> rfl) ?_
  refine V.topc (v := (s.1 so)) (mW_ti (i := 0) ((va_up_ne _ _ (by decide)).trans hR) hso) ?_
  refine V.isub dX11_as_122 ?_
  refine V.bipush (v := 99) dX11_as_123 (by decide) ?_
  refine V.iadd dX11_as_125 ?_
  exact V.iret rfl dX11_as_126 (⟨(), congrArg (fun z9 => some (Value.int z9)) (as_eq 1 so ti s), rfl, rfl, trivial⟩)

set_option maxHeartbeats 4000000 in
set_option maxRecDepth 100000 in
theorem c_M_as_1_2 (E : vEnv) (l : Launch) (L : List Nat) (h : Nat → va_E) (o : Nat) (mw : Nat) (mk : Nat) (mt : Nat) (mr : Nat) (mki : Nat) (mso : Nat) (mst : Nat) (mpr : Nat) (msh : Nat) (mwa : Nat) (mpu : Nat) (mtx : Nat) (mor : Nat) (mbo : Nat) (tO : Nat) (tVi : Nat) (tSm : Nat) (ts : Int32) (ma : Int32) (bg : Int32) (wr : Int32) (cl : Int32) (um : Int32) (mn : Int32) (tm : Int32) (Sh : Nat → Int32) (m : Nat) (ρ : Nat → MR) (pw : Nat → Int32) (s : NS) (Ti : Nat → Int32) (ti : Nat → Int32) (Ki : Nat → Int32) (So : Nat → Int32) (k : Nat) (so : Nat) (hR : ρ 0 = (pw, s)) (eM : Sh 0 = nI m) (hm : m ≤ 6) (hkm : k < m) (hso : so < 4) (hgT : gT s) (hgI : gI ti) (eI : ∀ j, j < 4 → Ti j = ti j) (eK : Ki k = 1) (eS : So k = nI so) : CT E l yX11_as cX11_as 5 (some (.int)) 2 0 0 L h [(o, ob 10 [.ref mw, .ref mk, .ref mt, .ref mr, .ref mki, .ref mso, .ref mst, .ref mpr, .ref msh, .ref mwa, .ref mpu, .ref mtx, .int ts, .int ma, .int bg, .int wr, .int cl, .int um, .ref mor, .ref mbo, .int mn, .ref tO, .ref tVi, .ref tSm, .int tm]), (msh, aI E 2 Sh), (mw, aI E 192 (mW ρ)), (mt, aI E 8 Ti), (mki, aI E 12 Ki), (mso, aI E 12 So)] [.ref o, .int (nI k), .int 2] (qP L h (fun (_ : Unit) => [(o, ob 10 [.ref mw, .ref mk, .ref mt, .ref mr, .ref mki, .ref mso, .ref mst, .ref mpr, .ref msh, .ref mwa, .ref mpu, .ref mtx, .int ts, .int ma, .int bg, .int wr, .int cl, .int um, .ref mor, .ref mbo, .int mn, .ref tO, .ref tVi, .ref tSm, .int tm]), (msh, aI E 2 Sh), (mw, aI E 192 (mW (va_up ρ 1 (pw, tireN 1 so ti s)))), (mt, aI E 8 Ti), (mki, aI E 12 Ki), (mso, aI E 12 So)]) (fun _ => some (.int (asI 1 so ti s))) (fun _ => True)) := by
  refine CT.ofV (by decide +kernel) (Nat.le_of_ble_eq_true rfl) ?_
  refine V.locals2 (lv2 := [(0, .ref o), (1, .int (nI k)), (2, .int 2)]) rfl ?_
  refine V.aload_n dX11_as_0 0 rfl ?_
  refine V.iload_n dX11_as_1 1 rfl ?_
  refine V.callVp (As := [.int (nI k)]) (rest := []) [0, 1] (c_M_isShop E l L _ o mw mk mt mr mki mso mst mpr msh mwa mpu mtx mor mbo tO tVi tSm ts ma bg wr cl um mn tm Sh m ((nI k)) (eM) (hm)) rfl (by decide) mi_X11_isShop 0 rfl rfl w_860 w_862 wp_17 rfl rfl (Nat.le_of_ble_eq_true rfl) ⟨by decide, by decide⟩ ⟨by decide, by decide⟩ dX11_as_2 (vw2 := fun _ => [(o, ob 10 [.ref mw, .ref mk, .ref mt, .ref mr, .ref mki, .ref mso, .ref mst, .ref mpr, .ref msh, .ref mwa, .ref mpu, .ref mtx, .int ts, .int ma, .int bg, .int wr, .int cl, .int um, .ref mor, .ref mbo, .int mn, .ref tO, .ref tVi, .ref tSm, .int tm]), (msh, aI E 2 Sh), (mw, aI E 192 (mW ρ)), (mt, aI E 8 Ti), (mki, aI E 12 Ki), (mso, aI E 12 So)]) (st2 := fun _ => [.int (withinI (nI k) 0 (nI m - 1))]) (fun _ => rfl) (fun _ => rfl) (fun _ => rfl) (fun _ _ => ?_)
  refine V.topc (v := 1) (within_nI hkm (by omega)) ?_
  refine V.if_ne (tgt := 11) dX11_as_5 (by decide) (fun _ => ?_) (fun hc => absurd hc (by decide))
  refine V.iload_n dX11_as_11 2 rfl ?_
  refine V.i2l dX11_as_12 ?_
  refine V.lconst (v := 0) dX11_as_13 (by decide) ?_
  refine V.stack (st2 := [.long (Int32.toInt64 0), .long (Int32.toInt64 2)]) (congrArg (fun z64 => Value.long z64 :: [.long (Int32.toInt64 2)]) (show (0 : Int64) = Int32.toInt64 0 by decide)) ?_
  refine V.ldc2 dX11_as_14 w_878 ?_
  refine V.stack (st2 := [.long (Int32.toInt64 4), .long (Int32.toInt64 0), .long (Int32.toInt64 2)]) (congrArg (fun z64 => Value.long z64 :: [.long (Int32.toInt64 0), .long (Int32.toInt64 2)]) (show (4 : Int64) = Int32.toInt64 4 by decide)) ?_
  refine V.callSp (As := [.long (Int32.toInt64 2), .long (Int32.toInt64 0), .long (Int32.toInt64 4)]) (rest := []) [] (c_M_in E l L _ 2 0 4) rfl (by decide) mi_X11_in w_789 w_790 rfl rfl (Nat.le_of_ble_eq_true rfl) ⟨by decide, by decide⟩ ⟨by decide, by decide⟩ dX11_as_17 (vw2 := fun _ => [(o, ob 10 [.ref mw, .ref mk, .ref mt, .ref mr, .ref mki, .ref mso, .ref mst, .ref mpr, .ref msh, .ref mwa, .ref mpu, .ref mtx, .int ts, .int ma, .int bg, .int wr, .int cl, .int um, .ref mor, .ref mbo, .int mn, .ref tO, .ref tVi, .ref tSm, .int tm]), (msh, aI E 2 Sh), (mw, aI E 192 (mW ρ)), (mt, aI E 8 Ti), (mki, aI E 12 Ki), (mso, aI E 12 So)]) (st2 := fun _ => [.int (withinI 2 0 4)]) (fun _ => rfl) (fun _ => rfl) (fun _ => rfl) (fun _ _ => ?_)
  refine V.topc (v := 1) (by decide) ?_
  refine V.if_ne (tgt := 26) dX11_as_20 (by decide) (fun _ => ?_) (fun hc => absurd hc (by decide))
  refine V.aload_n dX11_as_26 0 rfl ?_
  refine V.getf 0 4 rfl fa_X11_23_10 rfl dX11_as_27 ?_
  refine V.iload_n dX11_as_30 1 rfl ?_
  refine V.iald 4 rfl (vinI (by omega)) dX11_as_31 ?_
  refine V.topc (v := (Ki k)) (by rw [nI_clamp (by omega)] <;> rfl) ?_
  refine V.topc (v := 1) (eK) ?_
  refine V.istore_n (lv2 := [(3, .int 1), (0, .ref o), (1, .int (nI k)), (2, .int 2)]) dX11_as_32 rfl (by decide) rfl ?_
  refine V.iload_n dX11_as_33 3 rfl ?_
  refine V.if_eq (tgt := 59) dX11_as_34 (by decide) (fun hc => absurd hc (by decide)) (fun _ => ?_)
  refine V.iload_n dX11_as_37 3 rfl ?_
  refine V.iconst (v := 1) dX11_as_38 (by decide) ?_
  refine V.icmp_ne (tgt := 47) dX11_as_39 (by decide) (fun _ => ?_) (fun hc => absurd hc (by decide))
  refine V.iload_n dX11_as_47 3 rfl ?_
  refine V.iconst (v := 1) dX11_as_48 (by decide) ?_
  refine V.icmp_le (tgt := 63) dX11_as_49 (by decide) (fun hc => absurd hc (by decide)) (fun _ => ?_)
  refine V.iload_n dX11_as_52 3 rfl ?_
  refine V.iload_n dX11_as_53 0 rfl ?_
  refine V.iconst (v := 1) dX11_as_54 (by decide) ?_
  refine V.iadd dX11_as_55 ?_
  refine V.topc (v := 2) (by decide) ?_
  refine V.icmp_ne (tgt := 63) dX11_as_56 (by decide) (fun hc => absurd (by decide) hc) (fun _ => ?_)
  refine V.iconst (v := 1) dX11_as_59 (by decide) ?_
  refine V.goto (tgt := 64) dX11_as_60 (by decide) ?_
  refine V.istore (lv2 := [(4, .int 1), (3, .int 1), (0, .ref o), (1, .int (nI k)), (2, .int 2)]) dX11_as_64 (by decide) rfl ?_
  refine V.iload dX11_as_66 0 rfl ?_
  refine V.if_ne (tgt := 74) dX11_as_68 (by decide) (fun _ => ?_) (fun hc => absurd hc (by decide))
  refine V.aload_n dX11_as_74 2 rfl ?_
  refine V.iconst (v := 0) dX11_as_75 (by decide) ?_
  refine V.bipush (v := 16) dX11_as_76 (by decide) ?_
  refine V.callVp (As := [.int 0, .int 16]) (rest := []) [0, 2] (c_M_copy E l L _ o mw mk mt mr mki mso mst mpr msh mwa mpu mtx mor mbo tO tVi tSm ts ma bg wr cl um mn tm ρ 0 1 (by decide) (by decide) (by decide)) rfl (by decide) mi_X11_copy 0 rfl rfl w_879 w_881 wp_19 rfl rfl (Nat.le_of_ble_eq_true rfl) ⟨by decide, by decide⟩ ⟨by decide, by decide⟩ dX11_as_78 (vw2 := fun _ => [(o, ob 10 [.ref mw, .ref mk, .ref mt, .ref mr, .ref mki, .ref mso, .ref mst, .ref mpr, .ref msh, .ref mwa, .ref mpu, .ref mtx, .int ts, .int ma, .int bg, .int wr, .int cl, .int um, .ref mor, .ref mbo, .int mn, .ref tO, .ref tVi, .ref tSm, .int tm]), (msh, aI E 2 Sh), (mw, aI E 192 (mW (va_up ρ 1 (ρ 0)))), (mt, aI E 8 Ti), (mki, aI E 12 Ki), (mso, aI E 12 So)]) (st2 := fun _ => []) (fun _ => rfl) (fun _ => rfl) (fun _ => rfl) (fun _ _ => ?_)
  refine V.arrEq (vw2 := [(o, ob 10 [.ref mw, .ref mk, .ref mt, .ref mr, .ref mki, .ref mso, .ref mst, .ref mpr, .ref msh, .ref mwa, .ref mpu, .ref mtx, .int ts, .int ma, .int bg, .int wr, .int cl, .int um, .ref mor, .ref mbo, .int mn, .ref tO, .ref tVi, .ref tSm, .int tm]), (msh, aI E 2 Sh), (mw, aI E 192 (mW (va_up ρ 1 (pw, s)))), (mt, aI E 8 Ti), (mki, aI E 12 Ki), (mso, aI E 12 So)]) 2 0 rfl (fun j _ => by rw [hR]) rfl ?_
  refine V.aload_n dX11_as_81 2 rfl ?_
  refine V.bipush (v := 16) dX11_as_82 (by decide) ?_
  refine V.iload_n dX11_as_84 1 rfl ?_
  refine V.aload_n dX11_as_85 2 rfl ?_
  refine V.getf 0 5 rfl fa_X11_26_10 rfl dX11_as_86 ?_
  refine V.iload_n dX11_as_89 3 rfl ?_
  refine V.iald 5 rfl (vinI (by omega)) dX11_as_90 ?_
  refine V.topc (v := (So k)) (by rw [nI_clamp (by omega)] <;> rfl) ?_
  refine V.topc (v := (nI so)) (eS) ?_
  refine V.callVp (As := [.int 16, .int 1, .int (nI so)]) (rest := []) [0, 2, 3] (c_M_tireAs_1 E l L _ o mw mk mt mr mki mso mst mpr msh mwa mpu mtx mor mbo tO tVi tSm ts ma bg wr cl um mn tm ((va_up ρ 1 (pw, s))) 1 pw s Ti ti so (by decide) (va_up_self _ _ _) (hso) (hgT) (hgI) (eI)) rfl (by decide) mi_X11_tireAs 0 rfl rfl w_883 w_885 wp_20 rfl rfl (Nat.le_of_ble_eq_true rfl) ⟨by decide, by decide⟩ ⟨by decide, by decide⟩ dX11_as_91 (vw2 := fun _ => [(o, ob 10 [.ref mw, .ref mk, .ref mt, .ref mr, .ref mki, .ref mso, .ref mst, .ref mpr, .ref msh, .ref mwa, .ref mpu, .ref mtx, .int ts, .int ma, .int bg, .int wr, .int cl, .int um, .ref mor, .ref mbo, .int mn, .ref tO, .ref tVi, .ref tSm, .int tm]), (msh, aI E 2 Sh), (mw, aI E 192 (mW (va_up (va_up ρ 1 (pw, s)) 1 (pw, (tireN 1 so ti s))))), (mt, aI E 8 Ti), (mki, aI E 12 Ki), (mso, aI E 12 So)]) (st2 := fun _ => []) (fun _ => rfl) (fun _ => rfl) (fun _ => rfl) (fun _ _ => ?_)
  refine V.arrEq (vw2 := [(o, ob 10 [.ref mw, .ref mk, .ref mt, .ref mr, .ref mki, .ref mso, .ref mst, .ref mpr, .ref msh, .ref mwa, .ref mpu, .ref mtx, .int ts, .int ma, .int bg, .int wr, .int cl, .int um, .ref mor, .ref mbo, .int mn, .ref tO, .ref tVi, .ref tSm, .int tm]), (msh, aI E 2 Sh), (mw, aI E 192 (mW (va_up ρ 1 (pw, tireN 1 so ti s)))), (mt, aI E 8 Ti), (mki, aI E 12 Ki), (mso, aI E 12 So)]) 2 0 rfl (fun j _ => mW_ups j) rfl ?_
  refine V.aload_n dX11_as_94 2 rfl ?_
  refine V.getf 0 0 rfl fa_X11_7_10 rfl dX11_as_95 ?_
  refine V.bipush (v := 22) dX11_as_98 (by decide) ?_
  refine V.aload_n dX11_as_100 2 rfl ?_
  refine V.getf 0 5 rfl fa_X11_26_10 rfl dX11_as_101 ?_
  refine V.iload_n dX11_as_104 3 rfl ?_
  refine V.iald 5 rfl (vinI (by omega)) dX11_as_105 ?_
  refine V.topc (v := (So k)) (by rw [nI_clamp (by omega)] <;> rfl) ?_
  refine V.topc (v := (nI so)) (eS) ?_
  refine V.iadd dX11_as_106 ?_
  refine V.topc (v := (nI (22 + so))) (nI_add 22 so) ?_
  refine V.iald 2 rfl (vinI (by omega)) dX11_as_107 ?_
  refine V.topc (v := ((mW (va_up ρ 1 (pw, tireN 1 so ti s))) ((22 + so)))) (by rw [nI_clamp (by omega)] <;> rfl) ?_
  refine V.topc (v := ((tireN 1 so ti s).1 so)) (mW_ti (i := 1) (va_up_self _ _ _) hso) ?_
  refine V.aload_n dX11_as_108 2 rfl ?_
  refine V.getf 0 0 rfl fa_X11_7_10 rfl dX11_as_109 ?_
  refine V.bipush (v := 6) dX11_as_112 (by decide) ?_
  refine V.aload_n dX11_as_114 2 rfl ?_
  refine V.getf 0 5 rfl fa_X11_26_10 rfl dX11_as_115 ?_
  refine V.iload_n dX11_as_118 3 rfl ?_
  refine V.iald 5 rfl (vinI (by omega)) dX11_as_119 ?_
  refine V.topc (v := (So k)) (by rw [nI_clamp (by omega)] <;> rfl) ?_
  refine V.topc (v := (nI so)) (eS) ?_
  refine V.iadd dX11_as_120 ?_
  refine V.topc (v := (nI (6 + so))) (nI_add 6 so) ?_
  refine V.iald 2 rfl (vinI (by omega)) dX11_as_121 ?_
  refine V.topc (v := ((mW (va_up ρ 1 (pw, tireN 1 so ti s))) ((6 + so)))) (by rw [nI_clamp (by omega)] <;> rfl) ?_
  refine V.topc (v := (s.1 so)) (mW_ti (i := 0) ((va_up_ne _ _ (by decide)).trans hR) hso) ?_
  refine V.isub dX11_as_122 ?_
  refine V.bipush (v := 99) dX11_as_123 (by decide) ?_
  refine V.iadd dX11_as_125 ?_
  exact V.iret rfl dX11_as_126 (⟨(), congrArg (fun z9 => some (Value.int z9)) (as_eq 1 so ti s), rfl, rfl, trivial⟩)

set_option maxHeartbeats 4000000 in
set_option maxRecDepth 100000 in
theorem c_M_as_1_3 (E : vEnv) (l : Launch) (L : List Nat) (h : Nat → va_E) (o : Nat) (mw : Nat) (mk : Nat) (mt : Nat) (mr : Nat) (mki : Nat) (mso : Nat) (mst : Nat) (mpr : Nat) (msh : Nat) (mwa : Nat) (mpu : Nat) (mtx : Nat) (mor : Nat) (mbo : Nat) (tO : Nat) (tVi : Nat) (tSm : Nat) (ts : Int32) (ma : Int32) (bg : Int32) (wr : Int32) (cl : Int32) (um : Int32) (mn : Int32) (tm : Int32) (Sh : Nat → Int32) (m : Nat) (ρ : Nat → MR) (pw : Nat → Int32) (s : NS) (Ti : Nat → Int32) (ti : Nat → Int32) (Ki : Nat → Int32) (So : Nat → Int32) (k : Nat) (so : Nat) (hR : ρ 0 = (pw, s)) (eM : Sh 0 = nI m) (hm : m ≤ 6) (hkm : k < m) (hso : so < 4) (hgT : gT s) (hgI : gI ti) (eI : ∀ j, j < 4 → Ti j = ti j) (eK : Ki k = 1) (eS : So k = nI so) : CT E l yX11_as cX11_as 5 (some (.int)) 2 0 0 L h [(o, ob 10 [.ref mw, .ref mk, .ref mt, .ref mr, .ref mki, .ref mso, .ref mst, .ref mpr, .ref msh, .ref mwa, .ref mpu, .ref mtx, .int ts, .int ma, .int bg, .int wr, .int cl, .int um, .ref mor, .ref mbo, .int mn, .ref tO, .ref tVi, .ref tSm, .int tm]), (msh, aI E 2 Sh), (mw, aI E 192 (mW ρ)), (mt, aI E 8 Ti), (mki, aI E 12 Ki), (mso, aI E 12 So)] [.ref o, .int (nI k), .int 3] (qP L h (fun (_ : Unit) => [(o, ob 10 [.ref mw, .ref mk, .ref mt, .ref mr, .ref mki, .ref mso, .ref mst, .ref mpr, .ref msh, .ref mwa, .ref mpu, .ref mtx, .int ts, .int ma, .int bg, .int wr, .int cl, .int um, .ref mor, .ref mbo, .int mn, .ref tO, .ref tVi, .ref tSm, .int tm]), (msh, aI E 2 Sh), (mw, aI E 192 (mW ρ)), (mt, aI E 8 Ti), (mki, aI E 12 Ki), (mso, aI E 12 So)]) (fun _ => some (.int (-4))) (fun _ => True)) := by
  refine CT.ofV (by decide +kernel) (Nat.le_of_ble_eq_true rfl) ?_
  refine V.locals2 (lv2 := [(0, .ref o), (1, .int (nI k)), (2, .int 3)]) rfl ?_
  refine V.aload_n dX11_as_0 0 rfl ?_
  refine V.iload_n dX11_as_1 1 rfl ?_
  refine V.callVp (As := [.int (nI k)]) (rest := []) [0, 1] (c_M_isShop E l L _ o mw mk mt mr mki mso mst mpr msh mwa mpu mtx mor mbo tO tVi tSm ts ma bg wr cl um mn tm Sh m ((nI k)) (eM) (hm)) rfl (by decide) mi_X11_isShop 0 rfl rfl w_860 w_862 wp_17 rfl rfl (Nat.le_of_ble_eq_true rfl) ⟨by decide, by decide⟩ ⟨by decide, by decide⟩ dX11_as_2 (vw2 := fun _ => [(o, ob 10 [.ref mw, .ref mk, .ref mt, .ref mr, .ref mki, .ref mso, .ref mst, .ref mpr, .ref msh, .ref mwa, .ref mpu, .ref mtx, .int ts, .int ma, .int bg, .int wr, .int cl, .int um, .ref mor, .ref mbo, .int mn, .ref tO, .ref tVi, .ref tSm, .int tm]), (msh, aI E 2 Sh), (mw, aI E 192 (mW ρ)), (mt, aI E 8 Ti), (mki, aI E 12 Ki), (mso, aI E 12 So)]) (st2 := fun _ => [.int (withinI (nI k) 0 (nI m - 1))]) (fun _ => rfl) (fun _ => rfl) (fun _ => rfl) (fun _ _ => ?_)
  refine V.topc (v := 1) (within_nI hkm (by omega)) ?_
  refine V.if_ne (tgt := 11) dX11_as_5 (by decide) (fun _ => ?_) (fun hc => absurd hc (by decide))
  refine V.iload_n dX11_as_11 2 rfl ?_
  refine V.i2l dX11_as_12 ?_
  refine V.lconst (v := 0) dX11_as_13 (by decide) ?_
  refine V.stack (st2 := [.long (Int32.toInt64 0), .long (Int32.toInt64 3)]) (congrArg (fun z64 => Value.long z64 :: [.long (Int32.toInt64 3)]) (show (0 : Int64) = Int32.toInt64 0 by decide)) ?_
  refine V.ldc2 dX11_as_14 w_878 ?_
  refine V.stack (st2 := [.long (Int32.toInt64 4), .long (Int32.toInt64 0), .long (Int32.toInt64 3)]) (congrArg (fun z64 => Value.long z64 :: [.long (Int32.toInt64 0), .long (Int32.toInt64 3)]) (show (4 : Int64) = Int32.toInt64 4 by decide)) ?_
  refine V.callSp (As := [.long (Int32.toInt64 3), .long (Int32.toInt64 0), .long (Int32.toInt64 4)]) (rest := []) [] (c_M_in E l L _ 3 0 4) rfl (by decide) mi_X11_in w_789 w_790 rfl rfl (Nat.le_of_ble_eq_true rfl) ⟨by decide, by decide⟩ ⟨by decide, by decide⟩ dX11_as_17 (vw2 := fun _ => [(o, ob 10 [.ref mw, .ref mk, .ref mt, .ref mr, .ref mki, .ref mso, .ref mst, .ref mpr, .ref msh, .ref mwa, .ref mpu, .ref mtx, .int ts, .int ma, .int bg, .int wr, .int cl, .int um, .ref mor, .ref mbo, .int mn, .ref tO, .ref tVi, .ref tSm, .int tm]), (msh, aI E 2 Sh), (mw, aI E 192 (mW ρ)), (mt, aI E 8 Ti), (mki, aI E 12 Ki), (mso, aI E 12 So)]) (st2 := fun _ => [.int (withinI 3 0 4)]) (fun _ => rfl) (fun _ => rfl) (fun _ => rfl) (fun _ _ => ?_)
  refine V.topc (v := 1) (by decide) ?_
  refine V.if_ne (tgt := 26) dX11_as_20 (by decide) (fun _ => ?_) (fun hc => absurd hc (by decide))
  refine V.aload_n dX11_as_26 0 rfl ?_
  refine V.getf 0 4 rfl fa_X11_23_10 rfl dX11_as_27 ?_
  refine V.iload_n dX11_as_30 1 rfl ?_
  refine V.iald 4 rfl (vinI (by omega)) dX11_as_31 ?_
  refine V.topc (v := (Ki k)) (by rw [nI_clamp (by omega)] <;> rfl) ?_
  refine V.topc (v := 1) (eK) ?_
  refine V.istore_n (lv2 := [(3, .int 1), (0, .ref o), (1, .int (nI k)), (2, .int 3)]) dX11_as_32 rfl (by decide) rfl ?_
  refine V.iload_n dX11_as_33 3 rfl ?_
  refine V.if_eq (tgt := 59) dX11_as_34 (by decide) (fun hc => absurd hc (by decide)) (fun _ => ?_)
  refine V.iload_n dX11_as_37 3 rfl ?_
  refine V.iconst (v := 1) dX11_as_38 (by decide) ?_
  refine V.icmp_ne (tgt := 47) dX11_as_39 (by decide) (fun _ => ?_) (fun hc => absurd hc (by decide))
  refine V.iload_n dX11_as_47 3 rfl ?_
  refine V.iconst (v := 1) dX11_as_48 (by decide) ?_
  refine V.icmp_le (tgt := 63) dX11_as_49 (by decide) (fun hc => absurd hc (by decide)) (fun _ => ?_)
  refine V.iload_n dX11_as_52 3 rfl ?_
  refine V.iload_n dX11_as_53 0 rfl ?_
  refine V.iconst (v := 1) dX11_as_54 (by decide) ?_
  refine V.iadd dX11_as_55 ?_
  refine V.topc (v := 2) (by decide) ?_
  refine V.icmp_ne (tgt := 63) dX11_as_56 (by decide) (fun _ => ?_) (fun hc => absurd hc (by decide))
  refine V.iconst (v := 0) dX11_as_63 (by decide) ?_
  refine V.istore (lv2 := [(4, .int 0), (3, .int 1), (0, .ref o), (1, .int (nI k)), (2, .int 3)]) dX11_as_64 (by decide) rfl ?_
  refine V.iload dX11_as_66 0 rfl ?_
  refine V.if_ne (tgt := 74) dX11_as_68 (by decide) (fun hc => absurd (by decide) hc) (fun _ => ?_)
  refine V.bipush (v := (-4)) dX11_as_71 (by decide) ?_
  exact V.iret rfl dX11_as_73 (⟨(), rfl, rfl, rfl, trivial⟩)

set_option maxHeartbeats 4000000 in
set_option maxRecDepth 100000 in
theorem c_M_as_1_4 (E : vEnv) (l : Launch) (L : List Nat) (h : Nat → va_E) (o : Nat) (mw : Nat) (mk : Nat) (mt : Nat) (mr : Nat) (mki : Nat) (mso : Nat) (mst : Nat) (mpr : Nat) (msh : Nat) (mwa : Nat) (mpu : Nat) (mtx : Nat) (mor : Nat) (mbo : Nat) (tO : Nat) (tVi : Nat) (tSm : Nat) (ts : Int32) (ma : Int32) (bg : Int32) (wr : Int32) (cl : Int32) (um : Int32) (mn : Int32) (tm : Int32) (Sh : Nat → Int32) (m : Nat) (ρ : Nat → MR) (pw : Nat → Int32) (s : NS) (Ti : Nat → Int32) (ti : Nat → Int32) (Ki : Nat → Int32) (So : Nat → Int32) (k : Nat) (so : Nat) (hR : ρ 0 = (pw, s)) (eM : Sh 0 = nI m) (hm : m ≤ 6) (hkm : k < m) (hso : so < 4) (hgT : gT s) (hgI : gI ti) (eI : ∀ j, j < 4 → Ti j = ti j) (eK : Ki k = 1) (eS : So k = nI so) : CT E l yX11_as cX11_as 5 (some (.int)) 2 0 0 L h [(o, ob 10 [.ref mw, .ref mk, .ref mt, .ref mr, .ref mki, .ref mso, .ref mst, .ref mpr, .ref msh, .ref mwa, .ref mpu, .ref mtx, .int ts, .int ma, .int bg, .int wr, .int cl, .int um, .ref mor, .ref mbo, .int mn, .ref tO, .ref tVi, .ref tSm, .int tm]), (msh, aI E 2 Sh), (mw, aI E 192 (mW ρ)), (mt, aI E 8 Ti), (mki, aI E 12 Ki), (mso, aI E 12 So)] [.ref o, .int (nI k), .int 4] (qP L h (fun (_ : Unit) => [(o, ob 10 [.ref mw, .ref mk, .ref mt, .ref mr, .ref mki, .ref mso, .ref mst, .ref mpr, .ref msh, .ref mwa, .ref mpu, .ref mtx, .int ts, .int ma, .int bg, .int wr, .int cl, .int um, .ref mor, .ref mbo, .int mn, .ref tO, .ref tVi, .ref tSm, .int tm]), (msh, aI E 2 Sh), (mw, aI E 192 (mW ρ)), (mt, aI E 8 Ti), (mki, aI E 12 Ki), (mso, aI E 12 So)]) (fun _ => some (.int (-4))) (fun _ => True)) := by
  refine CT.ofV (by decide +kernel) (Nat.le_of_ble_eq_true rfl) ?_
  refine V.locals2 (lv2 := [(0, .ref o), (1, .int (nI k)), (2, .int 4)]) rfl ?_
  refine V.aload_n dX11_as_0 0 rfl ?_
  refine V.iload_n dX11_as_1 1 rfl ?_
  refine V.callVp (As := [.int (nI k)]) (rest := []) [0, 1] (c_M_isShop E l L _ o mw mk mt mr mki mso mst mpr msh mwa mpu mtx mor mbo tO tVi tSm ts ma bg wr cl um mn tm Sh m ((nI k)) (eM) (hm)) rfl (by decide) mi_X11_isShop 0 rfl rfl w_860 w_862 wp_17 rfl rfl (Nat.le_of_ble_eq_true rfl) ⟨by decide, by decide⟩ ⟨by decide, by decide⟩ dX11_as_2 (vw2 := fun _ => [(o, ob 10 [.ref mw, .ref mk, .ref mt, .ref mr, .ref mki, .ref mso, .ref mst, .ref mpr, .ref msh, .ref mwa, .ref mpu, .ref mtx, .int ts, .int ma, .int bg, .int wr, .int cl, .int um, .ref mor, .ref mbo, .int mn, .ref tO, .ref tVi, .ref tSm, .int tm]), (msh, aI E 2 Sh), (mw, aI E 192 (mW ρ)), (mt, aI E 8 Ti), (mki, aI E 12 Ki), (mso, aI E 12 So)]) (st2 := fun _ => [.int (withinI (nI k) 0 (nI m - 1))]) (fun _ => rfl) (fun _ => rfl) (fun _ => rfl) (fun _ _ => ?_)
  refine V.topc (v := 1) (within_nI hkm (by omega)) ?_
  refine V.if_ne (tgt := 11) dX11_as_5 (by decide) (fun _ => ?_) (fun hc => absurd hc (by decide))
  refine V.iload_n dX11_as_11 2 rfl ?_
  refine V.i2l dX11_as_12 ?_
  refine V.lconst (v := 0) dX11_as_13 (by decide) ?_
  refine V.stack (st2 := [.long (Int32.toInt64 0), .long (Int32.toInt64 4)]) (congrArg (fun z64 => Value.long z64 :: [.long (Int32.toInt64 4)]) (show (0 : Int64) = Int32.toInt64 0 by decide)) ?_
  refine V.ldc2 dX11_as_14 w_878 ?_
  refine V.stack (st2 := [.long (Int32.toInt64 4), .long (Int32.toInt64 0), .long (Int32.toInt64 4)]) (congrArg (fun z64 => Value.long z64 :: [.long (Int32.toInt64 0), .long (Int32.toInt64 4)]) (show (4 : Int64) = Int32.toInt64 4 by decide)) ?_
  refine V.callSp (As := [.long (Int32.toInt64 4), .long (Int32.toInt64 0), .long (Int32.toInt64 4)]) (rest := []) [] (c_M_in E l L _ 4 0 4) rfl (by decide) mi_X11_in w_789 w_790 rfl rfl (Nat.le_of_ble_eq_true rfl) ⟨by decide, by decide⟩ ⟨by decide, by decide⟩ dX11_as_17 (vw2 := fun _ => [(o, ob 10 [.ref mw, .ref mk, .ref mt, .ref mr, .ref mki, .ref mso, .ref mst, .ref mpr, .ref msh, .ref mwa, .ref mpu, .ref mtx, .int ts, .int ma, .int bg, .int wr, .int cl, .int um, .ref mor, .ref mbo, .int mn, .ref tO, .ref tVi, .ref tSm, .int tm]), (msh, aI E 2 Sh), (mw, aI E 192 (mW ρ)), (mt, aI E 8 Ti), (mki, aI E 12 Ki), (mso, aI E 12 So)]) (st2 := fun _ => [.int (withinI 4 0 4)]) (fun _ => rfl) (fun _ => rfl) (fun _ => rfl) (fun _ _ => ?_)
  refine V.topc (v := 1) (by decide) ?_
  refine V.if_ne (tgt := 26) dX11_as_20 (by decide) (fun _ => ?_) (fun hc => absurd hc (by decide))
  refine V.aload_n dX11_as_26 0 rfl ?_
  refine V.getf 0 4 rfl fa_X11_23_10 rfl dX11_as_27 ?_
  refine V.iload_n dX11_as_30 1 rfl ?_
  refine V.iald 4 rfl (vinI (by omega)) dX11_as_31 ?_
  refine V.topc (v := (Ki k)) (by rw [nI_clamp (by omega)] <;> rfl) ?_
  refine V.topc (v := 1) (eK) ?_
  refine V.istore_n (lv2 := [(3, .int 1), (0, .ref o), (1, .int (nI k)), (2, .int 4)]) dX11_as_32 rfl (by decide) rfl ?_
  refine V.iload_n dX11_as_33 3 rfl ?_
  refine V.if_eq (tgt := 59) dX11_as_34 (by decide) (fun hc => absurd hc (by decide)) (fun _ => ?_)
  refine V.iload_n dX11_as_37 3 rfl ?_
  refine V.iconst (v := 1) dX11_as_38 (by decide) ?_
  refine V.icmp_ne (tgt := 47) dX11_as_39 (by decide) (fun _ => ?_) (fun hc => absurd hc (by decide))
  refine V.iload_n dX11_as_47 3 rfl ?_
  refine V.iconst (v := 1) dX11_as_48 (by decide) ?_
  refine V.icmp_le (tgt := 63) dX11_as_49 (by decide) (fun hc => absurd hc (by decide)) (fun _ => ?_)
  refine V.iload_n dX11_as_52 3 rfl ?_
  refine V.iload_n dX11_as_53 0 rfl ?_
  refine V.iconst (v := 1) dX11_as_54 (by decide) ?_
  refine V.iadd dX11_as_55 ?_
  refine V.topc (v := 2) (by decide) ?_
  refine V.icmp_ne (tgt := 63) dX11_as_56 (by decide) (fun _ => ?_) (fun hc => absurd hc (by decide))
  refine V.iconst (v := 0) dX11_as_63 (by decide) ?_
  refine V.istore (lv2 := [(4, .int 0), (3, .int 1), (0, .ref o), (1, .int (nI k)), (2, .int 4)]) dX11_as_64 (by decide) rfl ?_
  refine V.iload dX11_as_66 0 rfl ?_
  refine V.if_ne (tgt := 74) dX11_as_68 (by decide) (fun hc => absurd (by decide) hc) (fun _ => ?_)
  refine V.bipush (v := (-4)) dX11_as_71 (by decide) ?_
  exact V.iret rfl dX11_as_73 (⟨(), rfl, rfl, rfl, trivial⟩)

set_option maxHeartbeats 4000000 in
set_option maxRecDepth 100000 in
theorem c_M_as_2_0 (E : vEnv) (l : Launch) (L : List Nat) (h : Nat → va_E) (o : Nat) (mw : Nat) (mk : Nat) (mt : Nat) (mr : Nat) (mki : Nat) (mso : Nat) (mst : Nat) (mpr : Nat) (msh : Nat) (mwa : Nat) (mpu : Nat) (mtx : Nat) (mor : Nat) (mbo : Nat) (tO : Nat) (tVi : Nat) (tSm : Nat) (ts : Int32) (ma : Int32) (bg : Int32) (wr : Int32) (cl : Int32) (um : Int32) (mn : Int32) (tm : Int32) (Sh : Nat → Int32) (m : Nat) (ρ : Nat → MR) (pw : Nat → Int32) (s : NS) (Ti : Nat → Int32) (ti : Nat → Int32) (Ki : Nat → Int32) (So : Nat → Int32) (k : Nat) (so : Nat) (hR : ρ 0 = (pw, s)) (eM : Sh 0 = nI m) (hm : m ≤ 6) (hkm : k < m) (hso : so < 4) (hgT : gT s) (hgI : gI ti) (eI : ∀ j, j < 4 → Ti j = ti j) (eK : Ki k = 2) (eS : So k = nI so) : CT E l yX11_as cX11_as 5 (some (.int)) 2 0 0 L h [(o, ob 10 [.ref mw, .ref mk, .ref mt, .ref mr, .ref mki, .ref mso, .ref mst, .ref mpr, .ref msh, .ref mwa, .ref mpu, .ref mtx, .int ts, .int ma, .int bg, .int wr, .int cl, .int um, .ref mor, .ref mbo, .int mn, .ref tO, .ref tVi, .ref tSm, .int tm]), (msh, aI E 2 Sh), (mw, aI E 192 (mW ρ)), (mt, aI E 8 Ti), (mki, aI E 12 Ki), (mso, aI E 12 So)] [.ref o, .int (nI k), .int 0] (qP L h (fun (_ : Unit) => [(o, ob 10 [.ref mw, .ref mk, .ref mt, .ref mr, .ref mki, .ref mso, .ref mst, .ref mpr, .ref msh, .ref mwa, .ref mpu, .ref mtx, .int ts, .int ma, .int bg, .int wr, .int cl, .int um, .ref mor, .ref mbo, .int mn, .ref tO, .ref tVi, .ref tSm, .int tm]), (msh, aI E 2 Sh), (mw, aI E 192 (mW (va_up ρ 1 (pw, tireN 2 so ti s)))), (mt, aI E 8 Ti), (mki, aI E 12 Ki), (mso, aI E 12 So)]) (fun _ => some (.int (asI 2 so ti s))) (fun _ => True)) := by
  refine CT.ofV (by decide +kernel) (Nat.le_of_ble_eq_true rfl) ?_
  refine V.locals2 (lv2 := [(0, .ref o), (1, .int (nI k)), (2, .int 0)]) rfl ?_
  refine V.aload_n dX11_as_0 0 rfl ?_
  refine V.iload_n dX11_as_1 1 rfl ?_
  refine V.callVp (As := [.int (nI k)]) (rest := []) [0, 1] (c_M_isShop E l L _ o mw mk mt mr mki mso mst mpr msh mwa mpu mtx mor mbo tO tVi tSm ts ma bg wr cl um mn tm Sh m ((nI k)) (eM) (hm)) rfl (by decide) mi_X11_isShop 0 rfl rfl w_860 w_862 wp_17 rfl rfl (Nat.le_of_ble_eq_true rfl) ⟨by decide, by decide⟩ ⟨by decide, by decide⟩ dX11_as_2 (vw2 := fun _ => [(o, ob 10 [.ref mw, .ref mk, .ref mt, .ref mr, .ref mki, .ref mso, .ref mst, .ref mpr, .ref msh, .ref mwa, .ref mpu, .ref mtx, .int ts, .int ma, .int bg, .int wr, .int cl, .int um, .ref mor, .ref mbo, .int mn, .ref tO, .ref tVi, .ref tSm, .int tm]), (msh, aI E 2 Sh), (mw, aI E 192 (mW ρ)), (mt, aI E 8 Ti), (mki, aI E 12 Ki), (mso, aI E 12 So)]) (st2 := fun _ => [.int (withinI (nI k) 0 (nI m - 1))]) (fun _ => rfl) (fun _ => rfl) (fun _ => rfl) (fun _ _ => ?_)
  refine V.topc (v := 1) (within_nI hkm (by omega)) ?_
  refine V.if_ne (tgt := 11) dX11_as_5 (by decide) (fun _ => ?_) (fun hc => absurd hc (by decide))
  refine V.iload_n dX11_as_11 2 rfl ?_
  refine V.i2l dX11_as_12 ?_
  refine V.lconst (v := 0) dX11_as_13 (by decide) ?_
  refine V.stack (st2 := [.long (Int32.toInt64 0), .long (Int32.toInt64 0)]) (congrArg (fun z64 => Value.long z64 :: [.long (Int32.toInt64 0)]) (show (0 : Int64) = Int32.toInt64 0 by decide)) ?_
  refine V.ldc2 dX11_as_14 w_878 ?_
  refine V.stack (st2 := [.long (Int32.toInt64 4), .long (Int32.toInt64 0), .long (Int32.toInt64 0)]) (congrArg (fun z64 => Value.long z64 :: [.long (Int32.toInt64 0), .long (Int32.toInt64 0)]) (show (4 : Int64) = Int32.toInt64 4 by decide)) ?_
  refine V.callSp (As := [.long (Int32.toInt64 0), .long (Int32.toInt64 0), .long (Int32.toInt64 4)]) (rest := []) [] (c_M_in E l L _ 0 0 4) rfl (by decide) mi_X11_in w_789 w_790 rfl rfl (Nat.le_of_ble_eq_true rfl) ⟨by decide, by decide⟩ ⟨by decide, by decide⟩ dX11_as_17 (vw2 := fun _ => [(o, ob 10 [.ref mw, .ref mk, .ref mt, .ref mr, .ref mki, .ref mso, .ref mst, .ref mpr, .ref msh, .ref mwa, .ref mpu, .ref mtx, .int ts, .int ma, .int bg, .int wr, .int cl, .int um, .ref mor, .ref mbo, .int mn, .ref tO, .ref tVi, .ref tSm, .int tm]), (msh, aI E 2 Sh), (mw, aI E 192 (mW ρ)), (mt, aI E 8 Ti), (mki, aI E 12 Ki), (mso, aI E 12 So)]) (st2 := fun _ => [.int (withinI 0 0 4)]) (fun _ => rfl) (fun _ => rfl) (fun _ => rfl) (fun _ _ => ?_)
  refine V.topc (v := 1) (by decide) ?_
  refine V.if_ne (tgt := 26) dX11_as_20 (by decide) (fun _ => ?_) (fun hc => absurd hc (by decide))
  refine V.aload_n dX11_as_26 0 rfl ?_
  refine V.getf 0 4 rfl fa_X11_23_10 rfl dX11_as_27 ?_
  refine V.iload_n dX11_as_30 1 rfl ?_
  refine V.iald 4 rfl (vinI (by omega)) dX11_as_31 ?_
  refine V.topc (v := (Ki k)) (by rw [nI_clamp (by omega)] <;> rfl) ?_
  refine V.topc (v := 2) (eK) ?_
  refine V.istore_n (lv2 := [(3, .int 2), (0, .ref o), (1, .int (nI k)), (2, .int 0)]) dX11_as_32 rfl (by decide) rfl ?_
  refine V.iload_n dX11_as_33 3 rfl ?_
  refine V.if_eq (tgt := 59) dX11_as_34 (by decide) (fun _ => ?_) (fun hc => absurd (by decide) hc)
  refine V.iconst (v := 1) dX11_as_59 (by decide) ?_
  refine V.goto (tgt := 64) dX11_as_60 (by decide) ?_
  refine V.istore (lv2 := [(4, .int 1), (3, .int 2), (0, .ref o), (1, .int (nI k)), (2, .int 0)]) dX11_as_64 (by decide) rfl ?_
  refine V.iload dX11_as_66 0 rfl ?_
  refine V.if_ne (tgt := 74) dX11_as_68 (by decide) (fun _ => ?_) (fun hc => absurd hc (by decide))
  refine V.aload_n dX11_as_74 2 rfl ?_
  refine V.iconst (v := 0) dX11_as_75 (by decide) ?_
  refine V.bipush (v := 16) dX11_as_76 (by decide) ?_
  refine V.callVp (As := [.int 0, .int 16]) (rest := []) [0, 2] (c_M_copy E l L _ o mw mk mt mr mki mso mst mpr msh mwa mpu mtx mor mbo tO tVi tSm ts ma bg wr cl um mn tm ρ 0 1 (by decide) (by decide) (by decide)) rfl (by decide) mi_X11_copy 0 rfl rfl w_879 w_881 wp_19 rfl rfl (Nat.le_of_ble_eq_true rfl) ⟨by decide, by decide⟩ ⟨by decide, by decide⟩ dX11_as_78 (vw2 := fun _ => [(o, ob 10 [.ref mw, .ref mk, .ref mt, .ref mr, .ref mki, .ref mso, .ref mst, .ref mpr, .ref msh, .ref mwa, .ref mpu, .ref mtx, .int ts, .int ma, .int bg, .int wr, .int cl, .int um, .ref mor, .ref mbo, .int mn, .ref tO, .ref tVi, .ref tSm, .int tm]), (msh, aI E 2 Sh), (mw, aI E 192 (mW (va_up ρ 1 (ρ 0)))), (mt, aI E 8 Ti), (mki, aI E 12 Ki), (mso, aI E 12 So)]) (st2 := fun _ => []) (fun _ => rfl) (fun _ => rfl) (fun _ => rfl) (fun _ _ => ?_)
  refine V.arrEq (vw2 := [(o, ob 10 [.ref mw, .ref mk, .ref mt, .ref mr, .ref mki, .ref mso, .ref mst, .ref mpr, .ref msh, .ref mwa, .ref mpu, .ref mtx, .int ts, .int ma, .int bg, .int wr, .int cl, .int um, .ref mor, .ref mbo, .int mn, .ref tO, .ref tVi, .ref tSm, .int tm]), (msh, aI E 2 Sh), (mw, aI E 192 (mW (va_up ρ 1 (pw, s)))), (mt, aI E 8 Ti), (mki, aI E 12 Ki), (mso, aI E 12 So)]) 2 0 rfl (fun j _ => by rw [hR]) rfl ?_
  refine V.aload_n dX11_as_81 2 rfl ?_
  refine V.bipush (v := 16) dX11_as_82 (by decide) ?_
  refine V.iload_n dX11_as_84 1 rfl ?_
  refine V.aload_n dX11_as_85 2 rfl ?_
  refine V.getf 0 5 rfl fa_X11_26_10 rfl dX11_as_86 ?_
  refine V.iload_n dX11_as_89 3 rfl ?_
  refine V.iald 5 rfl (vinI (by omega)) dX11_as_90 ?_
  refine V.topc (v := (So k)) (by rw [nI_clamp (by omega)] <;> rfl) ?_
  refine V.topc (v := (nI so)) (eS) ?_
  refine V.callVp (As := [.int 16, .int 2, .int (nI so)]) (rest := []) [0, 2, 3] (c_M_tireAs_2 E l L _ o mw mk mt mr mki mso mst mpr msh mwa mpu mtx mor mbo tO tVi tSm ts ma bg wr cl um mn tm ((va_up ρ 1 (pw, s))) 1 pw s Ti ti so (by decide) (va_up_self _ _ _) (hso) (hgT) (hgI) (eI)) rfl (by decide) mi_X11_tireAs 0 rfl rfl w_883 w_885 wp_20 rfl rfl (Nat.le_of_ble_eq_true rfl) ⟨by decide, by decide⟩ ⟨by decide, by decide⟩ dX11_as_91 (vw2 := fun _ => [(o, ob 10 [.ref mw, .ref mk, .ref mt, .ref mr, .ref mki, .ref mso, .ref mst, .ref mpr, .ref msh, .ref mwa, .ref mpu, .ref mtx, .int ts, .int ma, .int bg, .int wr, .int cl, .int um, .ref mor, .ref mbo, .int mn, .ref tO, .ref tVi, .ref tSm, .int tm]), (msh, aI E 2 Sh), (mw, aI E 192 (mW (va_up (va_up ρ 1 (pw, s)) 1 (pw, (tireN 2 so ti s))))), (mt, aI E 8 Ti), (mki, aI E 12 Ki), (mso, aI E 12 So)]) (st2 := fun _ => []) (fun _ => rfl) (fun _ => rfl) (fun _ => rfl) (fun _ _ => ?_)
  refine V.arrEq (vw2 := [(o, ob 10 [.ref mw, .ref mk, .ref mt, .ref mr, .ref mki, .ref mso, .ref mst, .ref mpr, .ref msh, .ref mwa, .ref mpu, .ref mtx, .int ts, .int ma, .int bg, .int wr, .int cl, .int um, .ref mor, .ref mbo, .int mn, .ref tO, .ref tVi, .ref tSm, .int tm]), (msh, aI E 2 Sh), (mw, aI E 192 (mW (va_up ρ 1 (pw, tireN 2 so ti s)))), (mt, aI E 8 Ti), (mki, aI E 12 Ki), (mso, aI E 12 So)]) 2 0 rfl (fun j _ => mW_ups j) rfl ?_
  refine V.aload_n dX11_as_94 2 rfl ?_
  refine V.getf 0 0 rfl fa_X11_7_10 rfl dX11_as_95 ?_
  refine V.bipush (v := 22) dX11_as_98 (by decide) ?_
  refine V.aload_n dX11_as_100 2 rfl ?_
  refine V.getf 0 5 rfl fa_X11_26_10 rfl dX11_as_101 ?_
  refine V.iload_n dX11_as_104 3 rfl ?_
  refine V.iald 5 rfl (vinI (by omega)) dX11_as_105 ?_
  refine V.topc (v := (So k)) (by rw [nI_clamp (by omega)] <;> rfl) ?_
  refine V.topc (v := (nI so)) (eS) ?_
  refine V.iadd dX11_as_106 ?_
  refine V.topc (v := (nI (22 + so))) (nI_add 22 so) ?_
  refine V.iald 2 rfl (vinI (by omega)) dX11_as_107 ?_
  refine V.topc (v := ((mW (va_up ρ 1 (pw, tireN 2 so ti s))) ((22 + so)))) (by rw [nI_clamp (by omega)] <;> rfl) ?_
  refine V.topc (v := ((tireN 2 so ti s).1 so)) (mW_ti (i := 1) (va_up_self _ _ _) hso) ?_
  refine V.aload_n dX11_as_108 2 rfl ?_
  refine V.getf 0 0 rfl fa_X11_7_10 rfl dX11_as_109 ?_
  refine V.bipush (v := 6) dX11_as_112 (by decide) ?_
  refine V.aload_n dX11_as_114 2 rfl ?_
  refine V.getf 0 5 rfl fa_X11_26_10 rfl dX11_as_115 ?_
  refine V.iload_n dX11_as_118 3 rfl ?_
  refine V.iald 5 rfl (vinI (by omega)) dX11_as_119 ?_
  refine V.topc (v := (So k)) (by rw [nI_clamp (by omega)] <;> rfl) ?_
  refine V.topc (v := (nI so)) (eS) ?_
  refine V.iadd dX11_as_120 ?_
  refine V.topc (v := (nI (6 + so))) (nI_add 6 so) ?_
  refine V.iald 2 rfl (vinI (by omega)) dX11_as_121 ?_
  refine V.topc (v := ((mW (va_up ρ 1 (pw, tireN 2 so ti s))) ((6 + so)))) (by rw [nI_clamp (by omega)] <;> rfl) ?_
  refine V.topc (v := (s.1 so)) (mW_ti (i := 0) ((va_up_ne _ _ (by decide)).trans hR) hso) ?_
  refine V.isub dX11_as_122 ?_
  refine V.bipush (v := 99) dX11_as_123 (by decide) ?_
  refine V.iadd dX11_as_125 ?_
  exact V.iret rfl dX11_as_126 (⟨(), congrArg (fun z9 => some (Value.int z9)) (as_eq 2 so ti s), rfl, rfl, trivial⟩)

set_option maxHeartbeats 4000000 in
set_option maxRecDepth 100000 in
theorem c_M_as_2_1 (E : vEnv) (l : Launch) (L : List Nat) (h : Nat → va_E) (o : Nat) (mw : Nat) (mk : Nat) (mt : Nat) (mr : Nat) (mki : Nat) (mso : Nat) (mst : Nat) (mpr : Nat) (msh : Nat) (mwa : Nat) (mpu : Nat) (mtx : Nat) (mor : Nat) (mbo : Nat) (tO : Nat) (tVi : Nat) (tSm : Nat) (ts : Int32) (ma : Int32) (bg : Int32) (wr : Int32) (cl : Int32) (um : Int32) (mn : Int32) (tm : Int32) (Sh : Nat → Int32) (m : Nat) (ρ : Nat → MR) (pw : Nat → Int32) (s : NS) (Ti : Nat → Int32) (ti : Nat → Int32) (Ki : Nat → Int32) (So : Nat → Int32) (k : Nat) (so : Nat) (hR : ρ 0 = (pw, s)) (eM : Sh 0 = nI m) (hm : m ≤ 6) (hkm : k < m) (hso : so < 4) (hgT : gT s) (hgI : gI ti) (eI : ∀ j, j < 4 → Ti j = ti j) (eK : Ki k = 2) (eS : So k = nI so) : CT E l yX11_as cX11_as 5 (some (.int)) 2 0 0 L h [(o, ob 10 [.ref mw, .ref mk, .ref mt, .ref mr, .ref mki, .ref mso, .ref mst, .ref mpr, .ref msh, .ref mwa, .ref mpu, .ref mtx, .int ts, .int ma, .int bg, .int wr, .int cl, .int um, .ref mor, .ref mbo, .int mn, .ref tO, .ref tVi, .ref tSm, .int tm]), (msh, aI E 2 Sh), (mw, aI E 192 (mW ρ)), (mt, aI E 8 Ti), (mki, aI E 12 Ki), (mso, aI E 12 So)] [.ref o, .int (nI k), .int 1] (qP L h (fun (_ : Unit) => [(o, ob 10 [.ref mw, .ref mk, .ref mt, .ref mr, .ref mki, .ref mso, .ref mst, .ref mpr, .ref msh, .ref mwa, .ref mpu, .ref mtx, .int ts, .int ma, .int bg, .int wr, .int cl, .int um, .ref mor, .ref mbo, .int mn, .ref tO, .ref tVi, .ref tSm, .int tm]), (msh, aI E 2 Sh), (mw, aI E 192 (mW ρ)), (mt, aI E 8 Ti), (mki, aI E 12 Ki), (mso, aI E 12 So)]) (fun _ => some (.int (-4))) (fun _ => True)) := by
  refine CT.ofV (by decide +kernel) (Nat.le_of_ble_eq_true rfl) ?_
  refine V.locals2 (lv2 := [(0, .ref o), (1, .int (nI k)), (2, .int 1)]) rfl ?_
  refine V.aload_n dX11_as_0 0 rfl ?_
  refine V.iload_n dX11_as_1 1 rfl ?_
  refine V.callVp (As := [.int (nI k)]) (rest := []) [0, 1] (c_M_isShop E l L _ o mw mk mt mr mki mso mst mpr msh mwa mpu mtx mor mbo tO tVi tSm ts ma bg wr cl um mn tm Sh m ((nI k)) (eM) (hm)) rfl (by decide) mi_X11_isShop 0 rfl rfl w_860 w_862 wp_17 rfl rfl (Nat.le_of_ble_eq_true rfl) ⟨by decide, by decide⟩ ⟨by decide, by decide⟩ dX11_as_2 (vw2 := fun _ => [(o, ob 10 [.ref mw, .ref mk, .ref mt, .ref mr, .ref mki, .ref mso, .ref mst, .ref mpr, .ref msh, .ref mwa, .ref mpu, .ref mtx, .int ts, .int ma, .int bg, .int wr, .int cl, .int um, .ref mor, .ref mbo, .int mn, .ref tO, .ref tVi, .ref tSm, .int tm]), (msh, aI E 2 Sh), (mw, aI E 192 (mW ρ)), (mt, aI E 8 Ti), (mki, aI E 12 Ki), (mso, aI E 12 So)]) (st2 := fun _ => [.int (withinI (nI k) 0 (nI m - 1))]) (fun _ => rfl) (fun _ => rfl) (fun _ => rfl) (fun _ _ => ?_)
  refine V.topc (v := 1) (within_nI hkm (by omega)) ?_
  refine V.if_ne (tgt := 11) dX11_as_5 (by decide) (fun _ => ?_) (fun hc => absurd hc (by decide))
  refine V.iload_n dX11_as_11 2 rfl ?_
  refine V.i2l dX11_as_12 ?_
  refine V.lconst (v := 0) dX11_as_13 (by decide) ?_
  refine V.stack (st2 := [.long (Int32.toInt64 0), .long (Int32.toInt64 1)]) (congrArg (fun z64 => Value.long z64 :: [.long (Int32.toInt64 1)]) (show (0 : Int64) = Int32.toInt64 0 by decide)) ?_
  refine V.ldc2 dX11_as_14 w_878 ?_
  refine V.stack (st2 := [.long (Int32.toInt64 4), .long (Int32.toInt64 0), .long (Int32.toInt64 1)]) (congrArg (fun z64 => Value.long z64 :: [.long (Int32.toInt64 0), .long (Int32.toInt64 1)]) (show (4 : Int64) = Int32.toInt64 4 by decide)) ?_
  refine V.callSp (As := [.long (Int32.toInt64 1), .long (Int32.toInt64 0), .long (Int32.toInt64 4)]) (rest := []) [] (c_M_in E l L _ 1 0 4) rfl (by decide) mi_X11_in w_789 w_790 rfl rfl (Nat.le_of_ble_eq_true rfl) ⟨by decide, by decide⟩ ⟨by decide, by decide⟩ dX11_as_17 (vw2 := fun _ => [(o, ob 10 [.ref mw, .ref mk, .ref mt, .ref mr, .ref mki, .ref mso, .ref mst, .ref mpr, .ref msh, .ref mwa, .ref mpu, .ref mtx, .int ts, .int ma, .int bg, .int wr, .int cl, .int um, .ref mor, .ref mbo, .int mn, .ref tO, .ref tVi, .ref tSm, .int tm]), (msh, aI E 2 Sh), (mw, aI E 192 (mW ρ)), (mt, aI E 8 Ti), (mki, aI E 12 Ki), (mso, aI E 12 So)]) (st2 := fun _ => [.int (withinI 1 0 4)]) (fun _ => rfl) (fun _ => rfl) (fun _ => rfl) (fun _ _ => ?_)
  refine V.topc (v := 1) (by decide) ?_
  refine V.if_ne (tgt := 26) dX11_as_20 (by decide) (fun _ => ?_) (fun hc => absurd hc (by decide))
  refine V.aload_n dX11_as_26 0 rfl ?_
  refine V.getf 0 4 rfl fa_X11_23_10 rfl dX11_as_27 ?_
  refine V.iload_n dX11_as_30 1 rfl ?_
  refine V.iald 4 rfl (vinI (by omega)) dX11_as_31 ?_
  refine V.topc (v := (Ki k)) (by rw [nI_clamp (by omega)] <;> rfl) ?_
  refine V.topc (v := 2) (eK) ?_
  refine V.istore_n (lv2 := [(3, .int 2), (0, .ref o), (1, .int (nI k)), (2, .int 1)]) dX11_as_32 rfl (by decide) rfl ?_
  refine V.iload_n dX11_as_33 3 rfl ?_
  refine V.if_eq (tgt := 59) dX11_as_34 (by decide) (fun hc => absurd hc (by decide)) (fun _ => ?_)
  refine V.iload_n dX11_as_37 3 rfl ?_
  refine V.iconst (v := 1) dX11_as_38 (by decide) ?_
  refine V.icmp_ne (tgt := 47) dX11_as_39 (by decide) (fun hc => absurd (by decide) hc) (fun _ => ?_)
  refine V.iload_n dX11_as_42 0 rfl ?_
  refine V.iconst (v := 2) dX11_as_43 (by decide) ?_
  refine V.icmp_lt (tgt := 59) dX11_as_44 (by decide) (fun hc => absurd hc (by decide)) (fun _ => ?_)
  refine V.iload_n dX11_as_47 3 rfl ?_
  refine V.iconst (v := 1) dX11_as_48 (by decide) ?_
  refine V.icmp_le (tgt := 63) dX11_as_49 (by decide) (fun _ => ?_) (fun hc => absurd (by decide) hc)
  refine V.iconst (v := 0) dX11_as_63 (by decide) ?_
  refine V.istore (lv2 := [(4, .int 0), (3, .int 2), (0, .ref o), (1, .int (nI k)), (2, .int 1)]) dX11_as_64 (by decide) rfl ?_
  refine V.iload dX11_as_66 0 rfl ?_
  refine V.if_ne (tgt := 74) dX11_as_68 (by decide) (fun hc => absurd (by decide) hc) (fun _ => ?_)
  refine V.bipush (v := (-4)) dX11_as_71 (by decide) ?_
  exact V.iret rfl dX11_as_73 (⟨(), rfl, rfl, rfl, trivial⟩)

set_option maxHeartbeats 4000000 in
set_option maxRecDepth 100000 in
theorem c_M_as_2_2 (E : vEnv) (l : Launch) (L : List Nat) (h : Nat → va_E) (o : Nat) (mw : Nat) (mk : Nat) (mt : Nat) (mr : Nat) (mki : Nat) (mso : Nat) (mst : Nat) (mpr : Nat) (msh : Nat) (mwa : Nat) (mpu : Nat) (mtx : Nat) (mor : Nat) (mbo : Nat) (tO : Nat) (tVi : Nat) (tSm : Nat) (ts : Int32) (ma : Int32) (bg : Int32) (wr : Int32) (cl : Int32) (um : Int32) (mn : Int32) (tm : Int32) (Sh : Nat → Int32) (m : Nat) (ρ : Nat → MR) (pw : Nat → Int32) (s : NS) (Ti : Nat → Int32) (ti : Nat → Int32) (Ki : Nat → Int32) (So : Nat → Int32) (k : Nat) (so : Nat) (hR : ρ 0 = (pw, s)) (eM : Sh 0 = nI m) (hm : m ≤ 6) (hkm : k < m) (hso : so < 4) (hgT : gT s) (hgI : gI ti) (eI : ∀ j, j < 4 → Ti j = ti j) (eK : Ki k = 2) (eS : So k = nI so) : CT E l yX11_as cX11_as 5 (some (.int)) 2 0 0 L h [(o, ob 10 [.ref mw, .ref mk, .ref mt, .ref mr, .ref mki, .ref mso, .ref mst, .ref mpr, .ref msh, .ref mwa, .ref mpu, .ref mtx, .int ts, .int ma, .int bg, .int wr, .int cl, .int um, .ref mor, .ref mbo, .int mn, .ref tO, .ref tVi, .ref tSm, .int tm]), (msh, aI E 2 Sh), (mw, aI E 192 (mW ρ)), (mt, aI E 8 Ti), (mki, aI E 12 Ki), (mso, aI E 12 So)] [.ref o, .int (nI k), .int 2] (qP L h (fun (_ : Unit) => [(o, ob 10 [.ref mw, .ref mk, .ref mt, .ref mr, .ref mki, .ref mso, .ref mst, .ref mpr, .ref msh, .ref mwa, .ref mpu, .ref mtx, .int ts, .int ma, .int bg, .int wr, .int cl, .int um, .ref mor, .ref mbo, .int mn, .ref tO, .ref tVi, .ref tSm, .int tm]), (msh, aI E 2 Sh), (mw, aI E 192 (mW ρ)), (mt, aI E 8 Ti), (mki, aI E 12 Ki), (mso, aI E 12 So)]) (fun _ => some (.int (-4))) (fun _ => True)) := by
  refine CT.ofV (by decide +kernel) (Nat.le_of_ble_eq_true rfl) ?_
  refine V.locals2 (lv2 := [(0, .ref o), (1, .int (nI k)), (2, .int 2)]) rfl ?_
  refine V.aload_n dX11_as_0 0 rfl ?_
  refine V.iload_n dX11_as_1 1 rfl ?_
  refine V.callVp (As := [.int (nI k)]) (rest := []) [0, 1] (c_M_isShop E l L _ o mw mk mt mr mki mso mst mpr msh mwa mpu mtx mor mbo tO tVi tSm ts ma bg wr cl um mn tm Sh m ((nI k)) (eM) (hm)) rfl (by decide) mi_X11_isShop 0 rfl rfl w_860 w_862 wp_17 rfl rfl (Nat.le_of_ble_eq_true rfl) ⟨by decide, by decide⟩ ⟨by decide, by decide⟩ dX11_as_2 (vw2 := fun _ => [(o, ob 10 [.ref mw, .ref mk, .ref mt, .ref mr, .ref mki, .ref mso, .ref mst, .ref mpr, .ref msh, .ref mwa, .ref mpu, .ref mtx, .int ts, .int ma, .int bg, .int wr, .int cl, .int um, .ref mor, .ref mbo, .int mn, .ref tO, .ref tVi, .ref tSm, .int tm]), (msh, aI E 2 Sh), (mw, aI E 192 (mW ρ)), (mt, aI E 8 Ti), (mki, aI E 12 Ki), (mso, aI E 12 So)]) (st2 := fun _ => [.int (withinI (nI k) 0 (nI m - 1))]) (fun _ => rfl) (fun _ => rfl) (fun _ => rfl) (fun _ _ => ?_)
  refine V.topc (v := 1) (within_nI hkm (by omega)) ?_
  refine V.if_ne (tgt := 11) dX11_as_5 (by decide) (fun _ => ?_) (fun hc => absurd hc (by decide))
  refine V.iload_n dX11_as_11 2 rfl ?_
  refine V.i2l dX11_as_12 ?_
  refine V.lconst (v := 0) dX11_as_13 (by decide) ?_
  refine V.stack (st2 := [.long (Int32.toInt64 0), .long (Int32.toInt64 2)]) (congrArg (fun z64 => Value.long z64 :: [.long (Int32.toInt64 2)]) (show (0 : Int64) = Int32.toInt64 0 by decide)) ?_
  refine V.ldc2 dX11_as_14 w_878 ?_
  refine V.stack (st2 := [.long (Int32.toInt64 4), .long (Int32.toInt64 0), .long (Int32.toInt64 2)]) (congrArg (fun z64 => Value.long z64 :: [.long (Int32.toInt64 0), .long (Int32.toInt64 2)]) (show (4 : Int64) = Int32.toInt64 4 by decide)) ?_
  refine V.callSp (As := [.long (Int32.toInt64 2), .long (Int32.toInt64 0), .long (Int32.toInt64 4)]) (rest := []) [] (c_M_in E l L _ 2 0 4) rfl (by decide) mi_X11_in w_789 w_790 rfl rfl (Nat.le_of_ble_eq_true rfl) ⟨by decide, by decide⟩ ⟨by decide, by decide⟩ dX11_as_17 (vw2 := fun _ => [(o, ob 10 [.ref mw, .ref mk, .ref mt, .ref mr, .ref mki, .ref mso, .ref mst, .ref mpr, .ref msh, .ref mwa, .ref mpu, .ref mtx, .int ts, .int ma, .int bg, .int wr, .int cl, .int um, .ref mor, .ref mbo, .int mn, .ref tO, .ref tVi, .ref tSm, .int tm]), (msh, aI E 2 Sh), (mw, aI E 192 (mW ρ)), (mt, aI E 8 Ti), (mki, aI E 12 Ki), (mso, aI E 12 So)]) (st2 := fun _ => [.int (withinI 2 0 4)]) (fun _ => rfl) (fun _ => rfl) (fun _ => rfl) (fun _ _ => ?_)
  refine V.topc (v := 1) (by decide) ?_
  refine V.if_ne (tgt := 26) dX11_as_20 (by decide) (fun _ => ?_) (fun hc => absurd hc (by decide))
  refine V.aload_n dX11_as_26 0 rfl ?_
  refine V.getf 0 4 rfl fa_X11_23_10 rfl dX11_as_27 ?_
  refine V.iload_n dX11_as_30 1 rfl ?_
  refine V.iald 4 rfl (vinI (by omega)) dX11_as_31 ?_
  refine V.topc (v := (Ki k)) (by rw [nI_clamp (by omega)] <;> rfl) ?_
  refine V.topc (v := 2) (eK) ?_
  refine V.istore_n (lv2 := [(3, .int 2), (0, .ref o), (1, .int (nI k)), (2, .int 2)]) dX11_as_32 rfl (by decide) rfl ?_
  refine V.iload_n dX11_as_33 3 rfl ?_
  refine V.if_eq (tgt := 59) dX11_as_34 (by decide) (fun hc => absurd hc (by decide)) (fun _ => ?_)
  refine V.iload_n dX11_as_37 3 rfl ?_
  refine V.iconst (v := 1) dX11_as_38 (by decide) ?_
  refine V.icmp_ne (tgt := 47) dX11_as_39 (by decide) (fun _ => ?_) (fun hc => absurd hc (by decide))
  refine V.iload_n dX11_as_47 3 rfl ?_
  refine V.iconst (v := 1) dX11_as_48 (by decide) ?_
  refine V.icmp_le (tgt := 63) dX11_as_49 (by decide) (fun hc => absurd hc (by decide)) (fun _ => ?_)
  refine V.iload_n dX11_as_52 3 rfl ?_
  refine V.iload_n dX11_as_53 0 rfl ?_
  refine V.iconst (v := 1) dX11_as_54 (by decide) ?_
  refine V.iadd dX11_as_55 ?_
  refine V.topc (v := 3) (by decide) ?_
  refine V.icmp_ne (tgt := 63) dX11_as_56 (by decide) (fun _ => ?_) (fun hc => absurd hc (by decide))
  refine V.iconst (v := 0) dX11_as_63 (by decide) ?_
  refine V.istore (lv2 := [(4, .int 0), (3, .int 2), (0, .ref o), (1, .int (nI k)), (2, .int 2)]) dX11_as_64 (by decide) rfl ?_
  refine V.iload dX11_as_66 0 rfl ?_
  refine V.if_ne (tgt := 74) dX11_as_68 (by decide) (fun hc => absurd (by decide) hc) (fun _ => ?_)
  refine V.bipush (v := (-4)) dX11_as_71 (by decide) ?_
  exact V.iret rfl dX11_as_73 (⟨(), rfl, rfl, rfl, trivial⟩)

set_option maxHeartbeats 4000000 in
set_option maxRecDepth 100000 in
theorem c_M_as_2_3 (E : vEnv) (l : Launch) (L : List Nat) (h : Nat → va_E) (o : Nat) (mw : Nat) (mk : Nat) (mt : Nat) (mr : Nat) (mki : Nat) (mso : Nat) (mst : Nat) (mpr : Nat) (msh : Nat) (mwa : Nat) (mpu : Nat) (mtx : Nat) (mor : Nat) (mbo : Nat) (tO : Nat) (tVi : Nat) (tSm : Nat) (ts : Int32) (ma : Int32) (bg : Int32) (wr : Int32) (cl : Int32) (um : Int32) (mn : Int32) (tm : Int32) (Sh : Nat → Int32) (m : Nat) (ρ : Nat → MR) (pw : Nat → Int32) (s : NS) (Ti : Nat → Int32) (ti : Nat → Int32) (Ki : Nat → Int32) (So : Nat → Int32) (k : Nat) (so : Nat) (hR : ρ 0 = (pw, s)) (eM : Sh 0 = nI m) (hm : m ≤ 6) (hkm : k < m) (hso : so < 4) (hgT : gT s) (hgI : gI ti) (eI : ∀ j, j < 4 → Ti j = ti j) (eK : Ki k = 2) (eS : So k = nI so) : CT E l yX11_as cX11_as 5 (some (.int)) 2 0 0 L h [(o, ob 10 [.ref mw, .ref mk, .ref mt, .ref mr, .ref mki, .ref mso, .ref mst, .ref mpr, .ref msh, .ref mwa, .ref mpu, .ref mtx, .int ts, .int ma, .int bg, .int wr, .int cl, .int um, .ref mor, .ref mbo, .int mn, .ref tO, .ref tVi, .ref tSm, .int tm]), (msh, aI E 2 Sh), (mw, aI E 192 (mW ρ)), (mt, aI E 8 Ti), (mki, aI E 12 Ki), (mso, aI E 12 So)] [.ref o, .int (nI k), .int 3] (qP L h (fun (_ : Unit) => [(o, ob 10 [.ref mw, .ref mk, .ref mt, .ref mr, .ref mki, .ref mso, .ref mst, .ref mpr, .ref msh, .ref mwa, .ref mpu, .ref mtx, .int ts, .int ma, .int bg, .int wr, .int cl, .int um, .ref mor, .ref mbo, .int mn, .ref tO, .ref tVi, .ref tSm, .int tm]), (msh, aI E 2 Sh), (mw, aI E 192 (mW (va_up ρ 1 (pw, tireN 2 so ti s)))), (mt, aI E 8 Ti), (mki, aI E 12 Ki), (mso, aI E 12 So)]) (fun _ => some (.int (asI 2 so ti s))) (fun _ => True)) := by
  refine CT.ofV (by decide +kernel) (Nat.le_of_ble_eq_true rfl) ?_
  refine V.locals2 (lv2 := [(0, .ref o), (1, .int (nI k)), (2, .int 3)]) rfl ?_
  refine V.aload_n dX11_as_0 0 rfl ?_
  refine V.iload_n dX11_as_1 1 rfl ?_
  refine V.callVp (As := [.int (nI k)]) (rest := []) [0, 1] (c_M_isShop E l L _ o mw mk mt mr mki mso mst mpr msh mwa mpu mtx mor mbo tO tVi tSm ts ma bg wr cl um mn tm Sh m ((nI k)) (eM) (hm)) rfl (by decide) mi_X11_isShop 0 rfl rfl w_860 w_862 wp_17 rfl rfl (Nat.le_of_ble_eq_true rfl) ⟨by decide, by decide⟩ ⟨by decide, by decide⟩ dX11_as_2 (vw2 := fun _ => [(o, ob 10 [.ref mw, .ref mk, .ref mt, .ref mr, .ref mki, .ref mso, .ref mst, .ref mpr, .ref msh, .ref mwa, .ref mpu, .ref mtx, .int ts, .int ma, .int bg, .int wr, .int cl, .int um, .ref mor, .ref mbo, .int mn, .ref tO, .ref tVi, .ref tSm, .int tm]), (msh, aI E 2 Sh), (mw, aI E 192 (mW ρ)), (mt, aI E 8 Ti), (mki, aI E 12 Ki), (mso, aI E 12 So)]) (st2 := fun _ => [.int (withinI (nI k) 0 (nI m - 1))]) (fun _ => rfl) (fun _ => rfl) (fun _ => rfl) (fun _ _ => ?_)
  refine V.topc (v := 1) (within_nI hkm (by omega)) ?_
  refine V.if_ne (tgt := 11) dX11_as_5 (by decide) (fun _ => ?_) (fun hc => absurd hc (by decide))
  refine V.iload_n dX11_as_11 2 rfl ?_
  refine V.i2l dX11_as_12 ?_
  refine V.lconst (v := 0) dX11_as_13 (by decide) ?_
  refine V.stack (st2 := [.long (Int32.toInt64 0), .long (Int32.toInt64 3)]) (congrArg (fun z64 => Value.long z64 :: [.long (Int32.toInt64 3)]) (show (0 : Int64) = Int32.toInt64 0 by decide)) ?_
  refine V.ldc2 dX11_as_14 w_878 ?_
  refine V.stack (st2 := [.long (Int32.toInt64 4), .long (Int32.toInt64 0), .long (Int32.toInt64 3)]) (congrArg (fun z64 => Value.long z64 :: [.long (Int32.toInt64 0), .long (Int32.toInt64 3)]) (show (4 : Int64) = Int32.toInt64 4 by decide)) ?_
  refine V.callSp (As := [.long (Int32.toInt64 3), .long (Int32.toInt64 0), .long (Int32.toInt64 4)]) (rest := []) [] (c_M_in E l L _ 3 0 4) rfl (by decide) mi_X11_in w_789 w_790 rfl rfl (Nat.le_of_ble_eq_true rfl) ⟨by decide, by decide⟩ ⟨by decide, by decide⟩ dX11_as_17 (vw2 := fun _ => [(o, ob 10 [.ref mw, .ref mk, .ref mt, .ref mr, .ref mki, .ref mso, .ref mst, .ref mpr, .ref msh, .ref mwa, .ref mpu, .ref mtx, .int ts, .int ma, .int bg, .int wr, .int cl, .int um, .ref mor, .ref mbo, .int mn, .ref tO, .ref tVi, .ref tSm, .int tm]), (msh, aI E 2 Sh), (mw, aI E 192 (mW ρ)), (mt, aI E 8 Ti), (mki, aI E 12 Ki), (mso, aI E 12 So)]) (st2 := fun _ => [.int (withinI 3 0 4)]) (fun _ => rfl) (fun _ => rfl) (fun _ => rfl) (fun _ _ => ?_)
  refine V.topc (v := 1) (by decide) ?_
  refine V.if_ne (tgt := 26) dX11_as_20 (by decide) (fun _ => ?_) (fun hc => absurd hc (by decide))
  refine V.aload_n dX11_as_26 0 rfl ?_
  refine V.getf 0 4 rfl fa_X11_23_10 rfl dX11_as_27 ?_
  refine V.iload_n dX11_as_30 1 rfl ?_
  refine V.iald 4 rfl (vinI (by omega)) dX11_as_31 ?_
  refine V.topc (v := (Ki k)) (by rw [nI_clamp (by omega)] <;> rfl) ?_
  refine V.topc (v := 2) (eK) ?_
  refine V.istore_n (lv2 := [(3, .int 2), (0, .ref o), (1, .int (nI k)), (2, .int 3)]) dX11_as_32 rfl (by decide) rfl ?_
  refine V.iload_n dX11_as_33 3 rfl ?_
  refine V.if_eq (tgt := 59) dX11_as_34 (by decide) (fun hc => absurd hc (by decide)) (fun _ => ?_)
  refine V.iload_n dX11_as_37 3 rfl ?_
  refine V.iconst (v := 1) dX11_as_38 (by decide) ?_
  refine V.icmp_ne (tgt := 47) dX11_as_39 (by decide) (fun _ => ?_) (fun hc => absurd hc (by decide))
  refine V.iload_n dX11_as_47 3 rfl ?_
  refine V.iconst (v := 1) dX11_as_48 (by decide) ?_
  refine V.icmp_le (tgt := 63) dX11_as_49 (by decide) (fun hc => absurd hc (by decide)) (fun _ => ?_)
  refine V.iload_n dX11_as_52 3 rfl ?_
  refine V.iload_n dX11_as_53 0 rfl ?_
  refine V.iconst (v := 1) dX11_as_54 (by decide) ?_
  refine V.iadd dX11_as_55 ?_
  refine V.topc (v := 3) (by decide) ?_
  refine V.icmp_ne (tgt := 63) dX11_as_56 (by decide) (fun hc => absurd (by decide) hc) (fun _ => ?_)
  refine V.iconst (v := 1) dX11_as_59 (by decide) ?_
  refine V.goto (tgt := 64) dX11_as_60 (by decide) ?_
  refine V.istore (lv2 := [(4, .int 1), (3, .int 2), (0, .ref o), (1, .int (nI k)), (2, .int 3)]) dX11_as_64 (by decide) rfl ?_
  refine V.iload dX11_as_66 0 rfl ?_
  refine V.if_ne (tgt := 74) dX11_as_68 (by decide) (fun _ => ?_) (fun hc => absurd hc (by decide))
  refine V.aload_n dX11_as_74 2 rfl ?_
  refine V.iconst (v := 0) dX11_as_75 (by decide) ?_
  refine V.bipush (v := 16) dX11_as_76 (by decide) ?_
  refine V.callVp (As := [.int 0, .int 16]) (rest := []) [0, 2] (c_M_copy E l L _ o mw mk mt mr mki mso mst mpr msh mwa mpu mtx mor mbo tO tVi tSm ts ma bg wr cl um mn tm ρ 0 1 (by decide) (by decide) (by decide)) rfl (by decide) mi_X11_copy 0 rfl rfl w_879 w_881 wp_19 rfl rfl (Nat.le_of_ble_eq_true rfl) ⟨by decide, by decide⟩ ⟨by decide, by decide⟩ dX11_as_78 (vw2 := fun _ => [(o, ob 10 [.ref mw, .ref mk, .ref mt, .ref mr, .ref mki, .ref mso, .ref mst, .ref mpr, .ref msh, .ref mwa, .ref mpu, .ref mtx, .int ts, .int ma, .int bg, .int wr, .int cl, .int um, .ref mor, .ref mbo, .int mn, .ref tO, .ref tVi, .ref tSm, .int tm]), (msh, aI E 2 Sh), (mw, aI E 192 (mW (va_up ρ 1 (ρ 0)))), (mt, aI E 8 Ti), (mki, aI E 12 Ki), (mso, aI E 12 So)]) (st2 := fun _ => []) (fun _ => rfl) (fun _ => rfl) (fun _ => rfl) (fun _ _ => ?_)
  refine V.arrEq (vw2 := [(o, ob 10 [.ref mw, .ref mk, .ref mt, .ref mr, .ref mki, .ref mso, .ref mst, .ref mpr, .ref msh, .ref mwa, .ref mpu, .ref mtx, .int ts, .int ma, .int bg, .int wr, .int cl, .int um, .ref mor, .ref mbo, .int mn, .ref tO, .ref tVi, .ref tSm, .int tm]), (msh, aI E 2 Sh), (mw, aI E 192 (mW (va_up ρ 1 (pw, s)))), (mt, aI E 8 Ti), (mki, aI E 12 Ki), (mso, aI E 12 So)]) 2 0 rfl (fun j _ => by rw [hR]) rfl ?_
  refine V.aload_n dX11_as_81 2 rfl ?_
  refine V.bipush (v := 16) dX11_as_82 (by decide) ?_
  refine V.iload_n dX11_as_84 1 rfl ?_
  refine V.aload_n dX11_as_85 2 rfl ?_
  refine V.getf 0 5 rfl fa_X11_26_10 rfl dX11_as_86 ?_
  refine V.iload_n dX11_as_89 3 rfl ?_
  refine V.iald 5 rfl (vinI (by omega)) dX11_as_90 ?_
  refine V.topc (v := (So k)) (by rw [nI_clamp (by omega)] <;> rfl) ?_
  refine V.topc (v := (nI so)) (eS) ?_
  refine V.callVp (As := [.int 16, .int 2, .int (nI so)]) (rest := []) [0, 2, 3] (c_M_tireAs_2 E l L _ o mw mk mt mr mki mso mst mpr msh mwa mpu mtx mor mbo tO tVi tSm ts ma bg wr cl um mn tm ((va_up ρ 1 (pw, s))) 1 pw s Ti ti so (by decide) (va_up_self _ _ _) (hso) (hgT) (hgI) (eI)) rfl (by decide) mi_X11_tireAs 0 rfl rfl w_883 w_885 wp_20 rfl rfl (Nat.le_of_ble_eq_true rfl) ⟨by decide, by decide⟩ ⟨by decide, by decide⟩ dX11_as_91 (vw2 := fun _ => [(o, ob 10 [.ref mw, .ref mk, .ref mt, .ref mr, .ref mki, .ref mso, .ref mst, .ref mpr, .ref msh, .ref mwa, .ref mpu, .ref mtx, .int ts, .int ma, .int bg, .int wr, .int cl, .int um, .ref mor, .ref mbo, .int mn, .ref tO, .ref tVi, .ref tSm, .int tm]), (msh, aI E 2 Sh), (mw, aI E 192 (mW (va_up (va_up ρ 1 (pw, s)) 1 (pw, (tireN 2 so ti s))))), (mt, aI E 8 Ti), (mki, aI E 12 Ki), (mso, aI E 12 So)]) (st2 := fun _ => []) (fun _ => rfl) (fun _ => rfl) (fun _ => rfl) (fun _ _ => ?_)
  refine V.arrEq (vw2 := [(o, ob 10 [.ref mw, .ref mk, .ref mt, .ref mr, .ref mki, .ref mso, .ref mst, .ref mpr, .ref msh, .ref mwa, .ref mpu, .ref mtx, .int ts, .int ma, .int bg, .int wr, .int cl, .int um, .ref mor, .ref mbo, .int mn, .ref tO, .ref tVi, .ref tSm, .int tm]), (msh, aI E 2 Sh), (mw, aI E 192 (mW (va_up ρ 1 (pw, tireN 2 so ti s)))), (mt, aI E 8 Ti), (mki, aI E 12 Ki), (mso, aI E 12 So)]) 2 0 rfl (fun j _ => mW_ups j) rfl ?_
  refine V.aload_n dX11_as_94 2 rfl ?_
  refine V.getf 0 0 rfl fa_X11_7_10 rfl dX11_as_95 ?_
  refine V.bipush (v := 22) dX11_as_98 (by decide) ?_
  refine V.aload_n dX11_as_100 2 rfl ?_
  refine V.getf 0 5 rfl fa_X11_26_10 rfl dX11_as_101 ?_
  refine V.iload_n dX11_as_104 3 rfl ?_
  refine V.iald 5 rfl (vinI (by omega)) dX11_as_105 ?_
  refine V.topc (v := (So k)) (by rw [nI_clamp (by omega)] <;> rfl) ?_
  refine V.topc (v := (nI so)) (eS) ?_
  refine V.iadd dX11_as_106 ?_
  refine V.topc (v := (nI (22 + so))) (nI_add 22 so) ?_
  refine V.iald 2 rfl (vinI (by omega)) dX11_as_107 ?_
  refine V.topc (v := ((mW (va_up ρ 1 (pw, tireN 2 so ti s))) ((22 + so)))) (by rw [nI_clamp (by omega)] <;> rfl) ?_
  refine V.topc (v := ((tireN 2 so ti s).1 so)) (mW_ti (i := 1) (va_up_self _ _ _) hso) ?_
  refine V.aload_n dX11_as_108 2 rfl ?_
  refine V.getf 0 0 rfl fa_X11_7_10 rfl dX11_as_109 ?_
  refine V.bipush (v := 6) dX11_as_112 (by decide) ?_
  refine V.aload_n dX11_as_114 2 rfl ?_
  refine V.getf 0 5 rfl fa_X11_26_10 rfl dX11_as_115 ?_
  refine V.iload_n dX11_as_118 3 rfl ?_
  refine V.iald 5 rfl (vinI (by omega)) dX11_as_119 ?_
  refine V.topc (v := (So k)) (by rw [nI_clamp (by omega)] <;> rfl) ?_
  refine V.topc (v := (nI so)) (eS) ?_
  refine V.iadd dX11_as_120 ?_
  refine V.topc (v := (nI (6 + so))) (nI_add 6 so) ?_
  refine V.iald 2 rfl (vinI (by omega)) dX11_as_121 ?_
  refine V.topc (v := ((mW (va_up ρ 1 (pw, tireN 2 so ti s))) ((6 + so)))) (by rw [nI_clamp (by omega)] <;> rfl) ?_
  refine V.topc (v := (s.1 so)) (mW_ti (i := 0) ((va_up_ne _ _ (by decide)).trans hR) hso) ?_
  refine V.isub dX11_as_122 ?_
  refine V.bipush (v := 99) dX11_as_123 (by decide) ?_
  refine V.iadd dX11_as_125 ?_
  exact V.iret rfl dX11_as_126 (⟨(), congrArg (fun z9 => some (Value.int z9)) (as_eq 2 so ti s), rfl, rfl, trivial⟩)

set_option maxHeartbeats 4000000 in
set_option maxRecDepth 100000 in
theorem c_M_as_2_4 (E : vEnv) (l : Launch) (L : List Nat) (h : Nat → va_E) (o : Nat) (mw : Nat) (mk : Nat) (mt : Nat) (mr : Nat) (mki : Nat) (mso : Nat) (mst : Nat) (mpr : Nat) (msh : Nat) (mwa : Nat) (mpu : Nat) (mtx : Nat) (mor : Nat) (mbo : Nat) (tO : Nat) (tVi : Nat) (tSm : Nat) (ts : Int32) (ma : Int32) (bg : Int32) (wr : Int32) (cl : Int32) (um : Int32) (mn : Int32) (tm : Int32) (Sh : Nat → Int32) (m : Nat) (ρ : Nat → MR) (pw : Nat → Int32) (s : NS) (Ti : Nat → Int32) (ti : Nat → Int32) (Ki : Nat → Int32) (So : Nat → Int32) (k : Nat) (so : Nat) (hR : ρ 0 = (pw, s)) (eM : Sh 0 = nI m) (hm : m ≤ 6) (hkm : k < m) (hso : so < 4) (hgT : gT s) (hgI : gI ti) (eI : ∀ j, j < 4 → Ti j = ti j) (eK : Ki k = 2) (eS : So k = nI so) : CT E l yX11_as cX11_as 5 (some (.int)) 2 0 0 L h [(o, ob 10 [.ref mw, .ref mk, .ref mt, .ref mr, .ref mki, .ref mso, .ref mst, .ref mpr, .ref msh, .ref mwa, .ref mpu, .ref mtx, .int ts, .int ma, .int bg, .int wr, .int cl, .int um, .ref mor, .ref mbo, .int mn, .ref tO, .ref tVi, .ref tSm, .int tm]), (msh, aI E 2 Sh), (mw, aI E 192 (mW ρ)), (mt, aI E 8 Ti), (mki, aI E 12 Ki), (mso, aI E 12 So)] [.ref o, .int (nI k), .int 4] (qP L h (fun (_ : Unit) => [(o, ob 10 [.ref mw, .ref mk, .ref mt, .ref mr, .ref mki, .ref mso, .ref mst, .ref mpr, .ref msh, .ref mwa, .ref mpu, .ref mtx, .int ts, .int ma, .int bg, .int wr, .int cl, .int um, .ref mor, .ref mbo, .int mn, .ref tO, .ref tVi, .ref tSm, .int tm]), (msh, aI E 2 Sh), (mw, aI E 192 (mW ρ)), (mt, aI E 8 Ti), (mki, aI E 12 Ki), (mso, aI E 12 So)]) (fun _ => some (.int (-4))) (fun _ => True)) := by
  refine CT.ofV (by decide +kernel) (Nat.le_of_ble_eq_true rfl) ?_
  refine V.locals2 (lv2 := [(0, .ref o), (1, .int (nI k)), (2, .int 4)]) rfl ?_
  refine V.aload_n dX11_as_0 0 rfl ?_
  refine V.iload_n dX11_as_1 1 rfl ?_
  refine V.callVp (As := [.int (nI k)]) (rest := []) [0, 1] (c_M_isShop E l L _ o mw mk mt mr mki mso mst mpr msh mwa mpu mtx mor mbo tO tVi tSm ts ma bg wr cl um mn tm Sh m ((nI k)) (eM) (hm)) rfl (by decide) mi_X11_isShop 0 rfl rfl w_860 w_862 wp_17 rfl rfl (Nat.le_of_ble_eq_true rfl) ⟨by decide, by decide⟩ ⟨by decide, by decide⟩ dX11_as_2 (vw2 := fun _ => [(o, ob 10 [.ref mw, .ref mk, .ref mt, .ref mr, .ref mki, .ref mso, .ref mst, .ref mpr, .ref msh, .ref mwa, .ref mpu, .ref mtx, .int ts, .int ma, .int bg, .int wr, .int cl, .int um, .ref mor, .ref mbo, .int mn, .ref tO, .ref tVi, .ref tSm, .int tm]), (msh, aI E 2 Sh), (mw, aI E 192 (mW ρ)), (mt, aI E 8 Ti), (mki, aI E 12 Ki), (mso, aI E 12 So)]) (st2 := fun _ => [.int (withinI (nI k) 0 (nI m - 1))]) (fun _ => rfl) (fun _ => rfl) (fun _ => rfl) (fun _ _ => ?_)
  refine V.topc (v := 1) (within_nI hkm (by omega)) ?_
  refine V.if_ne (tgt := 11) dX11_as_5 (by decide) (fun _ => ?_) (fun hc => absurd hc (by decide))
  refine V.iload_n dX11_as_11 2 rfl ?_
  refine V.i2l dX11_as_12 ?_
  refine V.lconst (v := 0) dX11_as_13 (by decide) ?_
  refine V.stack (st2 := [.long (Int32.toInt64 0), .long (Int32.toInt64 4)]) (congrArg (fun z64 => Value.long z64 :: [.long (Int32.toInt64 4)]) (show (0 : Int64) = Int32.toInt64 0 by decide)) ?_
  refine V.ldc2 dX11_as_14 w_878 ?_
  refine V.stack (st2 := [.long (Int32.toInt64 4), .long (Int32.toInt64 0), .long (Int32.toInt64 4)]) (congrArg (fun z64 => Value.long z64 :: [.long (Int32.toInt64 0), .long (Int32.toInt64 4)]) (show (4 : Int64) = Int32.toInt64 4 by decide)) ?_
  refine V.callSp (As := [.long (Int32.toInt64 4), .long (Int32.toInt64 0), .long (Int32.toInt64 4)]) (rest := []) [] (c_M_in E l L _ 4 0 4) rfl (by decide) mi_X11_in w_789 w_790 rfl rfl (Nat.le_of_ble_eq_true rfl) ⟨by decide, by decide⟩ ⟨by decide, by decide⟩ dX11_as_17 (vw2 := fun _ => [(o, ob 10 [.ref mw, .ref mk, .ref mt, .ref mr, .ref mki, .ref mso, .ref mst, .ref mpr, .ref msh, .ref mwa, .ref mpu, .ref mtx, .int ts, .int ma, .int bg, .int wr, .int cl, .int um, .ref mor, .ref mbo, .int mn, .ref tO, .ref tVi, .ref tSm, .int tm]), (msh, aI E 2 Sh), (mw, aI E 192 (mW ρ)), (mt, aI E 8 Ti), (mki, aI E 12 Ki), (mso, aI E 12 So)]) (st2 := fun _ => [.int (withinI 4 0 4)]) (fun _ => rfl) (fun _ => rfl) (fun _ => rfl) (fun _ _ => ?_)
  refine V.topc (v := 1) (by decide) ?_
  refine V.if_ne (tgt := 26) dX11_as_20 (by decide) (fun _ => ?_) (fun hc => absurd hc (by decide))
  refine V.aload_n dX11_as_26 0 rfl ?_
  refine V.getf 0 4 rfl fa_X11_23_10 rfl dX11_as_27 ?_
  refine V.iload_n dX11_as_30 1 rfl ?_
  refine V.iald 4 rfl (vinI (by omega)) dX11_as_31 ?_
  refine V.topc (v := (Ki k)) (by rw [nI_clamp (by omega)] <;> rfl) ?_
  refine V.topc (v := 2) (eK) ?_
  refine V.istore_n (lv2 := [(3, .int 2), (0, .ref o), (1, .int (nI k)), (2, .int 4)]) dX11_as_32 rfl (by decide) rfl ?_
  refine V.iload_n dX11_as_33 3 rfl ?_
  refine V.if_eq (tgt := 59) dX11_as_34 (by decide) (fun hc => absurd hc (by decide)) (fun _ => ?_)
  refine V.iload_n dX11_as_37 3 rfl ?_
  refine V.iconst (v := 1) dX11_as_38 (by decide) ?_
  refine V.icmp_ne (tgt := 47) dX11_as_39 (by decide) (fun _ => ?_) (fun hc => absurd hc (by decide))
  refine V.iload_n dX11_as_47 3 rfl ?_
  refine V.iconst (v := 1) dX11_as_48 (by decide) ?_
  refine V.icmp_le (tgt := 63) dX11_as_49 (by decide) (fun hc => absurd hc (by decide)) (fun _ => ?_)
  refine V.iload_n dX11_as_52 3 rfl ?_
  refine V.iload_n dX11_as_53 0 rfl ?_
  refine V.iconst (v := 1) dX11_as_54 (by decide) ?_
  refine V.iadd dX11_as_55 ?_
  refine V.topc (v := 3) (by decide) ?_
  refine V.icmp_ne (tgt := 63) dX11_as_56 (by decide) (fun _ => ?_) (fun hc => absurd hc (by decide))
  refine V.iconst (v := 0) dX11_as_63 (by decide) ?_
  refine V.istore (lv2 := [(4, .int 0), (3, .int 2), (0, .ref o), (1, .int (nI k)), (2, .int 4)]) dX11_as_64 (by decide) rfl ?_
  refine V.iload dX11_as_66 0 rfl ?_
  refine V.if_ne (tgt := 74) dX11_as_68 (by decide) (fun hc => absurd (by decide) hc) (fun _ => ?_)
  refine V.bipush (v := (-4)) dX11_as_71 (by decide) ?_
  exact V.iret rfl dX11_as_73 (⟨(), rfl, rfl, rfl, trivial⟩)

set_option maxHeartbeats 4000000 in
set_option maxRecDepth 100000 in
theorem c_M_as_3_0 (E : vEnv) (l : Launch) (L : List Nat) (h : Nat → va_E) (o : Nat) (mw : Nat) (mk : Nat) (mt : Nat) (mr : Nat) (mki : Nat) (mso : Nat) (mst : Nat) (mpr : Nat) (msh : Nat) (mwa : Nat) (mpu : Nat) (mtx : Nat) (mor : Nat) (mbo : Nat) (tO : Nat) (tVi : Nat) (tSm : Nat) (ts : Int32) (ma : Int32) (bg : Int32) (wr : Int32) (cl : Int32) (um : Int32) (mn : Int32) (tm : Int32) (Sh : Nat → Int32) (m : Nat) (ρ : Nat → MR) (pw : Nat → Int32) (s : NS) (Ti : Nat → Int32) (ti : Nat → Int32) (Ki : Nat → Int32) (So : Nat → Int32) (k : Nat) (so : Nat) (hR : ρ 0 = (pw, s)) (eM : Sh 0 = nI m) (hm : m ≤ 6) (hkm : k < m) (hso : so < 4) (hgT : gT s) (hgI : gI ti) (eI : ∀ j, j < 4 → Ti j = ti j) (eK : Ki k = 3) (eS : So k = nI so) : CT E l yX11_as cX11_as 5 (some (.int)) 2 0 0 L h [(o, ob 10 [.ref mw, .ref mk, .ref mt, .ref mr, .ref mki, .ref mso, .ref mst, .ref mpr, .ref msh, .ref mwa, .ref mpu, .ref mtx, .int ts, .int ma, .int bg, .int wr, .int cl, .int um, .ref mor, .ref mbo, .int mn, .ref tO, .ref tVi, .ref tSm, .int tm]), (msh, aI E 2 Sh), (mw, aI E 192 (mW ρ)), (mt, aI E 8 Ti), (mki, aI E 12 Ki), (mso, aI E 12 So)] [.ref o, .int (nI k), .int 0] (qP L h (fun (_ : Unit) => [(o, ob 10 [.ref mw, .ref mk, .ref mt, .ref mr, .ref mki, .ref mso, .ref mst, .ref mpr, .ref msh, .ref mwa, .ref mpu, .ref mtx, .int ts, .int ma, .int bg, .int wr, .int cl, .int um, .ref mor, .ref mbo, .int mn, .ref tO, .ref tVi, .ref tSm, .int tm]), (msh, aI E 2 Sh), (mw, aI E 192 (mW (va_up ρ 1 (pw, tireN 3 so ti s)))), (mt, aI E 8 Ti), (mki, aI E 12 Ki), (mso, aI E 12 So)]) (fun _ => some (.int (asI 3 so ti s))) (fun _ => True)) := by
  refine CT.ofV (by decide +kernel) (Nat.le_of_ble_eq_true rfl) ?_
  refine V.locals2 (lv2 := [(0, .ref o), (1, .int (nI k)), (2, .int 0)]) rfl ?_
  refine V.aload_n dX11_as_0 0 rfl ?_
  refine V.iload_n dX11_as_1 1 rfl ?_
  refine V.callVp (As := [.int (nI k)]) (rest := []) [0, 1] (c_M_isShop E l L _ o mw mk mt mr mki mso mst mpr msh mwa mpu mtx mor mbo tO tVi tSm ts ma bg wr cl um mn tm Sh m ((nI k)) (eM) (hm)) rfl (by decide) mi_X11_isShop 0 rfl rfl w_860 w_862 wp_17 rfl rfl (Nat.le_of_ble_eq_true rfl) ⟨by decide, by decide⟩ ⟨by decide, by decide⟩ dX11_as_2 (vw2 := fun _ => [(o, ob 10 [.ref mw, .ref mk, .ref mt, .ref mr, .ref mki, .ref mso, .ref mst, .ref mpr, .ref msh, .ref mwa, .ref mpu, .ref mtx, .int ts, .int ma, .int bg, .int wr, .int cl, .int um, .ref mor, .ref mbo, .int mn, .ref tO, .ref tVi, .ref tSm, .int tm]), (msh, aI E 2 Sh), (mw, aI E 192 (mW ρ)), (mt, aI E 8 Ti), (mki, aI E 12 Ki), (mso, aI E 12 So)]) (st2 := fun _ => [.int (withinI (nI k) 0 (nI m - 1))]) (fun _ => rfl) (fun _ => rfl) (fun _ => rfl) (fun _ _ => ?_)
  refine V.topc (v := 1) (within_nI hkm (by omega)) ?_
  refine V.if_ne (tgt := 11) dX11_as_5 (by decide) (fun _ => ?_) (fun hc => absurd hc (by decide))
  refine V.iload_n dX11_as_11 2 rfl ?_
  refine V.i2l dX11_as_12 ?_
  refine V.lconst (v := 0) dX11_as_13 (by decide) ?_
  refine V.stack (st2 := [.long (Int32.toInt64 0), .long (Int32.toInt64 0)]) (congrArg (fun z64 => Value.long z64 :: [.long (Int32.toInt64 0)]) (show (0 : Int64) = Int32.toInt64 0 by decide)) ?_
  refine V.ldc2 dX11_as_14 w_878 ?_
  refine V.stack (st2 := [.long (Int32.toInt64 4), .long (Int32.toInt64 0), .long (Int32.toInt64 0)]) (congrArg (fun z64 => Value.long z64 :: [.long (Int32.toInt64 0), .long (Int32.toInt64 0)]) (show (4 : Int64) = Int32.toInt64 4 by decide)) ?_
  refine V.callSp (As := [.long (Int32.toInt64 0), .long (Int32.toInt64 0), .long (Int32.toInt64 4)]) (rest := []) [] (c_M_in E l L _ 0 0 4) rfl (by decide) mi_X11_in w_789 w_790 rfl rfl (Nat.le_of_ble_eq_true rfl) ⟨by decide, by decide⟩ ⟨by decide, by decide⟩ dX11_as_17 (vw2 := fun _ => [(o, ob 10 [.ref mw, .ref mk, .ref mt, .ref mr, .ref mki, .ref mso, .ref mst, .ref mpr, .ref msh, .ref mwa, .ref mpu, .ref mtx, .int ts, .int ma, .int bg, .int wr, .int cl, .int um, .ref mor, .ref mbo, .int mn, .ref tO, .ref tVi, .ref tSm, .int tm]), (msh, aI E 2 Sh), (mw, aI E 192 (mW ρ)), (mt, aI E 8 Ti), (mki, aI E 12 Ki), (mso, aI E 12 So)]) (st2 := fun _ => [.int (withinI 0 0 4)]) (fun _ => rfl) (fun _ => rfl) (fun _ => rfl) (fun _ _ => ?_)
  refine V.topc (v := 1) (by decide) ?_
  refine V.if_ne (tgt := 26) dX11_as_20 (by decide) (fun _ => ?_) (fun hc => absurd hc (by decide))
  refine V.aload_n dX11_as_26 0 rfl ?_
  refine V.getf 0 4 rfl fa_X11_23_10 rfl dX11_as_27 ?_
  refine V.iload_n dX11_as_30 1 rfl ?_
  refine V.iald 4 rfl (vinI (by omega)) dX11_as_31 ?_
  refine V.topc (v := (Ki k)) (by rw [nI_clamp (by omega)] <;> rfl) ?_
  refine V.topc (v := 3) (eK) ?_
  refine V.istore_n (lv2 := [(3, .int 3), (0, .ref o), (1, .int (nI k)), (2, .int 0)]) dX11_as_32 rfl (by decide) rfl ?_
  refine V.iload_n dX11_as_33 3 rfl ?_
  refine V.if_eq (tgt := 59) dX11_as_34 (by decide) (fun _ => ?_) (fun hc => absurd (by decide) hc)
  refine V.iconst (v := 1) dX11_as_59 (by decide) ?_
  refine V.goto (tgt := 64) dX11_as_60 (by decide) ?_
  refine V.istore (lv2 := [(4, .int 1), (3, .int 3), (0, .ref o), (1, .int (nI k)), (2, .int 0)]) dX11_as_64 (by decide) rfl ?_
  refine V.iload dX11_as_66 0 rfl ?_
  refine V.if_ne (tgt := 74) dX11_as_68 (by decide) (fun _ => ?_) (fun hc => absurd hc (by decide))
  refine V.aload_n dX11_as_74 2 rfl ?_
  refine V.iconst (v := 0) dX11_as_75 (by decide) ?_
  refine V.bipush (v := 16) dX11_as_76 (by decide) ?_
  refine V.callVp (As := [.int 0, .int 16]) (rest := []) [0, 2] (c_M_copy E l L _ o mw mk mt mr mki mso mst mpr msh mwa mpu mtx mor mbo tO tVi tSm ts ma bg wr cl um mn tm ρ 0 1 (by decide) (by decide) (by decide)) rfl (by decide) mi_X11_copy 0 rfl rfl w_879 w_881 wp_19 rfl rfl (Nat.le_of_ble_eq_true rfl) ⟨by decide, by decide⟩ ⟨by decide, by decide⟩ dX11_as_78 (vw2 := fun _ => [(o, ob 10 [.ref mw, .ref mk, .ref mt, .ref mr, .ref mki, .ref mso, .ref mst, .ref mpr, .ref msh, .ref mwa, .ref mpu, .ref mtx, .int ts, .int ma, .int bg, .int wr, .int cl, .int um, .ref mor, .ref mbo, .int mn, .ref tO, .ref tVi, .ref tSm, .int tm]), (msh, aI E 2 Sh), (mw, aI E 192 (mW (va_up ρ 1 (ρ 0)))), (mt, aI E 8 Ti), (mki, aI E 12 Ki), (mso, aI E 12 So)]) (st2 := fun _ => []) (fun _ => rfl) (fun _ => rfl) (fun _ => rfl) (fun _ _ => ?_)
  refine V.arrEq (vw2 := [(o, ob 10 [.ref mw, .ref mk, .ref mt, .ref mr, .ref mki, .ref mso, .ref mst, .ref mpr, .ref msh, .ref mwa, .ref mpu, .ref mtx, .int ts, .int ma, .int bg, .int wr, .int cl, .int um, .ref mor, .ref mbo, .int mn, .ref tO, .ref tVi, .ref tSm, .int tm]), (msh, aI E 2 Sh), (mw, aI E 192 (mW (va_up ρ 1 (pw, s)))), (mt, aI E 8 Ti), (mki, aI E 12 Ki), (mso, aI E 12 So)]) 2 0 rfl (fun j _ => by rw [hR]) rfl ?_
  refine V.aload_n dX11_as_81 2 rfl ?_
  refine V.bipush (v := 16) dX11_as_82 (by decide) ?_
  refine V.iload_n dX11_as_84 1 rfl ?_
  refine V.aload_n dX11_as_85 2 rfl ?_
  refine V.getf 0 5 rfl fa_X11_26_10 rfl dX11_as_86 ?_
  refine V.iload_n dX11_as_89 3 rfl ?_
  refine V.iald 5 rfl (vinI (by omega)) dX11_as_90 ?_
  refine V.topc (v := (So k)) (by rw [nI_clamp (by omega)] <;> rfl) ?_
  refine V.topc (v := (nI so)) (eS) ?_
  refine V.callVp (As := [.int 16, .int 3, .int (nI so)]) (rest := []) [0, 2, 3] (c_M_tireAs_3 E l L _ o mw mk mt mr mki mso mst mpr msh mwa mpu mtx mor mbo tO tVi tSm ts ma bg wr cl um mn tm ((va_up ρ 1 (pw, s))) 1 pw s Ti ti so (by decide) (va_up_self _ _ _) (hso) (hgT) (hgI) (eI)) rfl (by decide) mi_X11_tireAs 0 rfl rfl w_883 w_885 wp_20 rfl rfl (Nat.le_of_ble_eq_true rfl) ⟨by decide, by decide⟩ ⟨by decide, by decide⟩ dX11_as_91 (vw2 := fun _ => [(o, ob 10 [.ref mw, .ref mk, .ref mt, .ref mr, .ref mki, .ref mso, .ref mst, .ref mpr, .ref msh, .ref mwa, .ref mpu, .ref mtx, .int ts, .int ma, .int bg, .int wr, .int cl, .int um, .ref mor, .ref mbo, .int mn, .ref tO, .ref tVi, .ref tSm, .int tm]), (msh, aI E 2 Sh), (mw, aI E 192 (mW (va_up (va_up ρ 1 (pw, s)) 1 (pw, (tireN 3 so ti s))))), (mt, aI E 8 Ti), (mki, aI E 12 Ki), (mso, aI E 12 So)]) (st2 := fun _ => []) (fun _ => rfl) (fun _ => rfl) (fun _ => rfl) (fun _ _ => ?_)
  refine V.arrEq (vw2 := [(o, ob 10 [.ref mw, .ref mk, .ref mt, .ref mr, .ref mki, .ref mso, .ref mst, .ref mpr, .ref msh, .ref mwa, .ref mpu, .ref mtx, .int ts, .int ma, .int bg, .int wr, .int cl, .int um, .ref mor, .ref mbo, .int mn, .ref tO, .ref tVi, .ref tSm, .int tm]), (msh, aI E 2 Sh), (mw, aI E 192 (mW (va_up ρ 1 (pw, tireN 3 so ti s)))), (mt, aI E 8 Ti), (mki, aI E 12 Ki), (mso, aI E 12 So)]) 2 0 rfl (fun j _ => mW_ups j) rfl ?_
  refine V.aload_n dX11_as_94 2 rfl ?_
  refine V.getf 0 0 rfl fa_X11_7_10 rfl dX11_as_95 ?_
  refine V.bipush (v := 22) dX11_as_98 (by decide) ?_
  refine V.aload_n dX11_as_100 2 rfl ?_
  refine V.getf 0 5 rfl fa_X11_26_10 rfl dX11_as_101 ?_
  refine V.iload_n dX11_as_104 3 rfl ?_
  refine V.iald 5 rfl (vinI (by omega)) dX11_as_105 ?_
  refine V.topc (v := (So k)) (by rw [nI_clamp (by omega)] <;> rfl) ?_
  refine V.topc (v := (nI so)) (eS) ?_
  refine V.iadd dX11_as_106 ?_
  refine V.topc (v := (nI (22 + so))) (nI_add 22 so) ?_
  refine V.iald 2 rfl (vinI (by omega)) dX11_as_107 ?_
  refine V.topc (v := ((mW (va_up ρ 1 (pw, tireN 3 so ti s))) ((22 + so)))) (by rw [nI_clamp (by omega)] <;> rfl) ?_
  refine V.topc (v := ((tireN 3 so ti s).1 so)) (mW_ti (i := 1) (va_up_self _ _ _) hso) ?_
  refine V.aload_n dX11_as_108 2 rfl ?_
  refine V.getf 0 0 rfl fa_X11_7_10 rfl dX11_as_109 ?_
  refine V.bipush (v := 6) dX11_as_112 (by decide) ?_
  refine V.aload_n dX11_as_114 2 rfl ?_
  refine V.getf 0 5 rfl fa_X11_26_10 rfl dX11_as_115 ?_
  refine V.iload_n dX11_as_118 3 rfl ?_
  refine V.iald 5 rfl (vinI (by omega)) dX11_as_119 ?_
  refine V.topc (v := (So k)) (by rw [nI_clamp (by omega)] <;> rfl) ?_
  refine V.topc (v := (nI so)) (eS) ?_
  refine V.iadd dX11_as_120 ?_
  refine V.topc (v := (nI (6 + so))) (nI_add 6 so) ?_
  refine V.iald 2 rfl (vinI (by omega)) dX11_as_121 ?_
  refine V.topc (v := ((mW (va_up ρ 1 (pw, tireN 3 so ti s))) ((6 + so)))) (by rw [nI_clamp (by omega)] <;> rfl) ?_
  refine V.topc (v := (s.1 so)) (mW_ti (i := 0) ((va_up_ne _ _ (by decide)).trans hR) hso) ?_
  refine V.isub dX11_as_122 ?_
  refine V.bipush (v := 99) dX11_as_123 (by decide) ?_
  refine V.iadd dX11_as_125 ?_
  exact V.iret rfl dX11_as_126 (⟨(), congrArg (fun z9 => some (Value.int z9)) (as_eq 3 so ti s), rfl, rfl, trivial⟩)

set_option maxHeartbeats 4000000 in
set_option maxRecDepth 100000 in
theorem c_M_as_3_1 (E : vEnv) (l : Launch) (L : List Nat) (h : Nat → va_E) (o : Nat) (mw : Nat) (mk : Nat) (mt : Nat) (mr : Nat) (mki : Nat) (mso : Nat) (mst : Nat) (mpr : Nat) (msh : Nat) (mwa : Nat) (mpu : Nat) (mtx : Nat) (mor : Nat) (mbo : Nat) (tO : Nat) (tVi : Nat) (tSm : Nat) (ts : Int32) (ma : Int32) (bg : Int32) (wr : Int32) (cl : Int32) (um : Int32) (mn : Int32) (tm : Int32) (Sh : Nat → Int32) (m : Nat) (ρ : Nat → MR) (pw : Nat → Int32) (s : NS) (Ti : Nat → Int32) (ti : Nat → Int32) (Ki : Nat → Int32) (So : Nat → Int32) (k : Nat) (so : Nat) (hR : ρ 0 = (pw, s)) (eM : Sh 0 = nI m) (hm : m ≤ 6) (hkm : k < m) (hso : so < 4) (hgT : gT s) (hgI : gI ti) (eI : ∀ j, j < 4 → Ti j = ti j) (eK : Ki k = 3) (eS : So k = nI so) : CT E l yX11_as cX11_as 5 (some (.int)) 2 0 0 L h [(o, ob 10 [.ref mw, .ref mk, .ref mt, .ref mr, .ref mki, .ref mso, .ref mst, .ref mpr, .ref msh, .ref mwa, .ref mpu, .ref mtx, .int ts, .int ma, .int bg, .int wr, .int cl, .int um, .ref mor, .ref mbo, .int mn, .ref tO, .ref tVi, .ref tSm, .int tm]), (msh, aI E 2 Sh), (mw, aI E 192 (mW ρ)), (mt, aI E 8 Ti), (mki, aI E 12 Ki), (mso, aI E 12 So)] [.ref o, .int (nI k), .int 1] (qP L h (fun (_ : Unit) => [(o, ob 10 [.ref mw, .ref mk, .ref mt, .ref mr, .ref mki, .ref mso, .ref mst, .ref mpr, .ref msh, .ref mwa, .ref mpu, .ref mtx, .int ts, .int ma, .int bg, .int wr, .int cl, .int um, .ref mor, .ref mbo, .int mn, .ref tO, .ref tVi, .ref tSm, .int tm]), (msh, aI E 2 Sh), (mw, aI E 192 (mW ρ)), (mt, aI E 8 Ti), (mki, aI E 12 Ki), (mso, aI E 12 So)]) (fun _ => some (.int (-4))) (fun _ => True)) := by
  refine CT.ofV (by decide +kernel) (Nat.le_of_ble_eq_true rfl) ?_
  refine V.locals2 (lv2 := [(0, .ref o), (1, .int (nI k)), (2, .int 1)]) rfl ?_
  refine V.aload_n dX11_as_0 0 rfl ?_
  refine V.iload_n dX11_as_1 1 rfl ?_
  refine V.callVp (As := [.int (nI k)]) (rest := []) [0, 1] (c_M_isShop E l L _ o mw mk mt mr mki mso mst mpr msh mwa mpu mtx mor mbo tO tVi tSm ts ma bg wr cl um mn tm Sh m ((nI k)) (eM) (hm)) rfl (by decide) mi_X11_isShop 0 rfl rfl w_860 w_862 wp_17 rfl rfl (Nat.le_of_ble_eq_true rfl) ⟨by decide, by decide⟩ ⟨by decide, by decide⟩ dX11_as_2 (vw2 := fun _ => [(o, ob 10 [.ref mw, .ref mk, .ref mt, .ref mr, .ref mki, .ref mso, .ref mst, .ref mpr, .ref msh, .ref mwa, .ref mpu, .ref mtx, .int ts, .int ma, .int bg, .int wr, .int cl, .int um, .ref mor, .ref mbo, .int mn, .ref tO, .ref tVi, .ref tSm, .int tm]), (msh, aI E 2 Sh), (mw, aI E 192 (mW ρ)), (mt, aI E 8 Ti), (mki, aI E 12 Ki), (mso, aI E 12 So)]) (st2 := fun _ => [.int (withinI (nI k) 0 (nI m - 1))]) (fun _ => rfl) (fun _ => rfl) (fun _ => rfl) (fun _ _ => ?_)
  refine V.topc (v := 1) (within_nI hkm (by omega)) ?_
  refine V.if_ne (tgt := 11) dX11_as_5 (by decide) (fun _ => ?_) (fun hc => absurd hc (by decide))
  refine V.iload_n dX11_as_11 2 rfl ?_
  refine V.i2l dX11_as_12 ?_
  refine V.lconst (v := 0) dX11_as_13 (by decide) ?_
  refine V.stack (st2 := [.long (Int32.toInt64 0), .long (Int32.toInt64 1)]) (congrArg (fun z64 => Value.long z64 :: [.long (Int32.toInt64 1)]) (show (0 : Int64) = Int32.toInt64 0 by decide)) ?_
  refine V.ldc2 dX11_as_14 w_878 ?_
  refine V.stack (st2 := [.long (Int32.toInt64 4), .long (Int32.toInt64 0), .long (Int32.toInt64 1)]) (congrArg (fun z64 => Value.long z64 :: [.long (Int32.toInt64 0), .long (Int32.toInt64 1)]) (show (4 : Int64) = Int32.toInt64 4 by decide)) ?_
  refine V.callSp (As := [.long (Int32.toInt64 1), .long (Int32.toInt64 0), .long (Int32.toInt64 4)]) (rest := []) [] (c_M_in E l L _ 1 0 4) rfl (by decide) mi_X11_in w_789 w_790 rfl rfl (Nat.le_of_ble_eq_true rfl) ⟨by decide, by decide⟩ ⟨by decide, by decide⟩ dX11_as_17 (vw2 := fun _ => [(o, ob 10 [.ref mw, .ref mk, .ref mt, .ref mr, .ref mki, .ref mso, .ref mst, .ref mpr, .ref msh, .ref mwa, .ref mpu, .ref mtx, .int ts, .int ma, .int bg, .int wr, .int cl, .int um, .ref mor, .ref mbo, .int mn, .ref tO, .ref tVi, .ref tSm, .int tm]), (msh, aI E 2 Sh), (mw, aI E 192 (mW ρ)), (mt, aI E 8 Ti), (mki, aI E 12 Ki), (mso, aI E 12 So)]) (st2 := fun _ => [.int (withinI 1 0 4)]) (fun _ => rfl) (fun _ => rfl) (fun _ => rfl) (fun _ _ => ?_)
  refine V.topc (v := 1) (by decide) ?_
  refine V.if_ne (tgt := 26) dX11_as_20 (by decide) (fun _ => ?_) (fun hc => absurd hc (by decide))
  refine V.aload_n dX11_as_26 0 rfl ?_
  refine V.getf 0 4 rfl fa_X11_23_10 rfl dX11_as_27 ?_
  refine V.iload_n dX11_as_30 1 rfl ?_
  refine V.iald 4 rfl (vinI (by omega)) dX11_as_31 ?_
  refine V.topc (v := (Ki k)) (by rw [nI_clamp (by omega)] <;> rfl) ?_
  refine V.topc (v := 3) (eK) ?_
  refine V.istore_n (lv2 := [(3, .int 3), (0, .ref o), (1, .int (nI k)), (2, .int 1)]) dX11_as_32 rfl (by decide) rfl ?_
  refine V.iload_n dX11_as_33 3 rfl ?_
  refine V.if_eq (tgt := 59) dX11_as_34 (by decide) (fun hc => absurd hc (by decide)) (fun _ => ?_)
  refine V.iload_n dX11_as_37 3 rfl ?_
  refine V.iconst (v := 1) dX11_as_38 (by decide) ?_
  refine V.icmp_ne (tgt := 47) dX11_as_39 (by decide) (fun hc => absurd (by decide) hc) (fun _ => ?_)
  refine V.iload_n dX11_as_42 0 rfl ?_
  refine V.iconst (v := 2) dX11_as_43 (by decide) ?_
  refine V.icmp_lt (tgt := 59) dX11_as_44 (by decide) (fun hc => absurd hc (by decide)) (fun _ => ?_)
  refine V.iload_n dX11_as_47 3 rfl ?_
  refine V.iconst (v := 1) dX11_as_48 (by decide) ?_
  refine V.icmp_le (tgt := 63) dX11_as_49 (by decide) (fun _ => ?_) (fun hc => absurd (by decide) hc)
  refine V.iconst (v := 0) dX11_as_63 (by decide) ?_
  refine V.istore (lv2 := [(4, .int 0), (3, .int 3), (0, .ref o), (1, .int (nI k)), (2, .int 1)]) dX11_as_64 (by decide) rfl ?_
  refine V.iload dX11_as_66 0 rfl ?_
  refine V.if_ne (tgt := 74) dX11_as_68 (by decide) (fun hc => absurd (by decide) hc) (fun _ => ?_)
  refine V.bipush (v := (-4)) dX11_as_71 (by decide) ?_
  exact V.iret rfl dX11_as_73 (⟨(), rfl, rfl, rfl, trivial⟩)

set_option maxHeartbeats 4000000 in
set_option maxRecDepth 100000 in
theorem c_M_as_3_2 (E : vEnv) (l : Launch) (L : List Nat) (h : Nat → va_E) (o : Nat) (mw : Nat) (mk : Nat) (mt : Nat) (mr : Nat) (mki : Nat) (mso : Nat) (mst : Nat) (mpr : Nat) (msh : Nat) (mwa : Nat) (mpu : Nat) (mtx : Nat) (mor : Nat) (mbo : Nat) (tO : Nat) (tVi : Nat) (tSm : Nat) (ts : Int32) (ma : Int32) (bg : Int32) (wr : Int32) (cl : Int32) (um : Int32) (mn : Int32) (tm : Int32) (Sh : Nat → Int32) (m : Nat) (ρ : Nat → MR) (pw : Nat → Int32) (s : NS) (Ti : Nat → Int32) (ti : Nat → Int32) (Ki : Nat → Int32) (So : Nat → Int32) (k : Nat) (so : Nat) (hR : ρ 0 = (pw, s)) (eM : Sh 0 = nI m) (hm : m ≤ 6) (hkm : k < m) (hso : so < 4) (hgT : gT s) (hgI : gI ti) (eI : ∀ j, j < 4 → Ti j = ti j) (eK : Ki k = 3) (eS : So k = nI so) : CT E l yX11_as cX11_as 5 (some (.int)) 2 0 0 L h [(o, ob 10 [.ref mw, .ref mk, .ref mt, .ref mr, .ref mki, .ref mso, .ref mst, .ref mpr, .ref msh, .ref mwa, .ref mpu, .ref mtx, .int ts, .int ma, .int bg, .int wr, .int cl, .int um, .ref mor, .ref mbo, .int mn, .ref tO, .ref tVi, .ref tSm, .int tm]), (msh, aI E 2 Sh), (mw, aI E 192 (mW ρ)), (mt, aI E 8 Ti), (mki, aI E 12 Ki), (mso, aI E 12 So)] [.ref o, .int (nI k), .int 2] (qP L h (fun (_ : Unit) => [(o, ob 10 [.ref mw, .ref mk, .ref mt, .ref mr, .ref mki, .ref mso, .ref mst, .ref mpr, .ref msh, .ref mwa, .ref mpu, .ref mtx, .int ts, .int ma, .int bg, .int wr, .int cl, .int um, .ref mor, .ref mbo, .int mn, .ref tO, .ref tVi, .ref tSm, .int tm]), (msh, aI E 2 Sh), (mw, aI E 192 (mW ρ)), (mt, aI E 8 Ti), (mki, aI E 12 Ki), (mso, aI E 12 So)]) (fun _ => some (.int (-4))) (fun _ => True)) := by
  refine CT.ofV (by decide +kernel) (Nat.le_of_ble_eq_true rfl) ?_
  refine V.locals2 (lv2 := [(0, .ref o), (1, .int (nI k)), (2, .int 2)]) rfl ?_
  refine V.aload_n dX11_as_0 0 rfl ?_
  refine V.iload_n dX11_as_1 1 rfl ?_
  refine V.callVp (As := [.int (nI k)]) (rest := []) [0, 1] (c_M_isShop E l L _ o mw mk mt mr mki mso mst mpr msh mwa mpu mtx mor mbo tO tVi tSm ts ma bg wr cl um mn tm Sh m ((nI k)) (eM) (hm)) rfl (by decide) mi_X11_isShop 0 rfl rfl w_860 w_862 wp_17 rfl rfl (Nat.le_of_ble_eq_true rfl) ⟨by decide, by decide⟩ ⟨by decide, by decide⟩ dX11_as_2 (vw2 := fun _ => [(o, ob 10 [.ref mw, .ref mk, .ref mt, .ref mr, .ref mki, .ref mso, .ref mst, .ref mpr, .ref msh, .ref mwa, .ref mpu, .ref mtx, .int ts, .int ma, .int bg, .int wr, .int cl, .int um, .ref mor, .ref mbo, .int mn, .ref tO, .ref tVi, .ref tSm, .int tm]), (msh, aI E 2 Sh), (mw, aI E 192 (mW ρ)), (mt, aI E 8 Ti), (mki, aI E 12 Ki), (mso, aI E 12 So)]) (st2 := fun _ => [.int (withinI (nI k) 0 (nI m - 1))]) (fun _ => rfl) (fun _ => rfl) (fun _ => rfl) (fun _ _ => ?_)
  refine V.topc (v := 1) (within_nI hkm (by omega)) ?_
  refine V.if_ne (tgt := 11) dX11_as_5 (by decide) (fun _ => ?_) (fun hc => absurd hc (by decide))
  refine V.iload_n dX11_as_11 2 rfl ?_
  refine V.i2l dX11_as_12 ?_
  refine V.lconst (v := 0) dX11_as_13 (by decide) ?_
  refine V.stack (st2 := [.long (Int32.toInt64 0), .long (Int32.toInt64 2)]) (congrArg (fun z64 => Value.long z64 :: [.long (Int32.toInt64 2)]) (show (0 : Int64) = Int32.toInt64 0 by decide)) ?_
  refine V.ldc2 dX11_as_14 w_878 ?_
  refine V.stack (st2 := [.long (Int32.toInt64 4), .long (Int32.toInt64 0), .long (Int32.toInt64 2)]) (congrArg (fun z64 => Value.long z64 :: [.long (Int32.toInt64 0), .long (Int32.toInt64 2)]) (show (4 : Int64) = Int32.toInt64 4 by decide)) ?_
  refine V.callSp (As := [.long (Int32.toInt64 2), .long (Int32.toInt64 0), .long (Int32.toInt64 4)]) (rest := []) [] (c_M_in E l L _ 2 0 4) rfl (by decide) mi_X11_in w_789 w_790 rfl rfl (Nat.le_of_ble_eq_true rfl) ⟨by decide, by decide⟩ ⟨by decide, by decide⟩ dX11_as_17 (vw2 := fun _ => [(o, ob 10 [.ref mw, .ref mk, .ref mt, .ref mr, .ref mki, .ref mso, .ref mst, .ref mpr, .ref msh, .ref mwa, .ref mpu, .ref mtx, .int ts, .int ma, .int bg, .int wr, .int cl, .int um, .ref mor, .ref mbo, .int mn, .ref tO, .ref tVi, .ref tSm, .int tm]), (msh, aI E 2 Sh), (mw, aI E 192 (mW ρ)), (mt, aI E 8 Ti), (mki, aI E 12 Ki), (mso, aI E 12 So)]) (st2 := fun _ => [.int (withinI 2 0 4)]) (fun _ => rfl) (fun _ => rfl) (fun _ => rfl) (fun _ _ => ?_)
  refine V.topc (v := 1) (by decide) ?_
  refine V.if_ne (tgt := 26) dX11_as_20 (by decide) (fun _ => ?_) (fun hc => absurd hc (by decide))
  refine V.aload_n dX11_as_26 0 rfl ?_
  refine V.getf 0 4 rfl fa_X11_23_10 rfl dX11_as_27 ?_
  refine V.iload_n dX11_as_30 1 rfl ?_
  refine V.iald 4 rfl (vinI (by omega)) dX11_as_31 ?_
  refine V.topc (v := (Ki k)) (by rw [nI_clamp (by omega)] <;> rfl) ?_
  refine V.topc (v := 3) (eK) ?_
  refine V.istore_n (lv2 := [(3, .int 3), (0, .ref o), (1, .int (nI k)), (2, .int 2)]) dX11_as_32 rfl (by decide) rfl ?_
  refine V.iload_n dX11_as_33 3 rfl ?_
  refine V.if_eq (tgt := 59) dX11_as_34 (by decide) (fun hc => absurd hc (by decide)) (fun _ => ?_)
  refine V.iload_n dX11_as_37 3 rfl ?_
  refine V.iconst (v := 1) dX11_as_38 (by decide) ?_
  refine V.icmp_ne (tgt := 47) dX11_as_39 (by decide) (fun _ => ?_) (fun hc => absurd hc (by decide))
  refine V.iload_n dX11_as_47 3 rfl ?_
  refine V.iconst (v := 1) dX11_as_48 (by decide) ?_
  refine V.icmp_le (tgt := 63) dX11_as_49 (by decide) (fun hc => absurd hc (by decide)) (fun _ => ?_)
  refine V.iload_n dX11_as_52 3 rfl ?_
  refine V.iload_n dX11_as_53 0 rfl ?_
  refine V.iconst (v := 1) dX11_as_54 (by decide) ?_
  refine V.iadd dX11_as_55 ?_
  refine V.topc (v := 4) (by decide) ?_
  refine V.icmp_ne (tgt := 63) dX11_as_56 (by decide) (fun _ => ?_) (fun hc => absurd hc (by decide))
  refine V.iconst (v := 0) dX11_as_63 (by decide) ?_
  refine V.istore (lv2 := [(4, .int 0), (3, .int 3), (0, .ref o), (1, .int (nI k)), (2, .int 2)]) dX11_as_64 (by decide) rfl ?_
  refine V.iload dX11_as_66 0 rfl ?_
  refine V.if_ne (tgt := 74) dX11_as_68 (by decide) (fun hc => absurd (by decide) hc) (fun _ => ?_)
  refine V.bipush (v := (-4)) dX11_as_71 (by decide) ?_
  exact V.iret rfl dX11_as_73 (⟨(), rfl, rfl, rfl, trivial⟩)

set_option maxHeartbeats 4000000 in
set_option maxRecDepth 100000 in
theorem c_M_as_3_3 (E : vEnv) (l : Launch) (L : List Nat) (h : Nat → va_E) (o : Nat) (mw : Nat) (mk : Nat) (mt : Nat) (mr : Nat) (mki : Nat) (mso : Nat) (mst : Nat) (mpr : Nat) (msh : Nat) (mwa : Nat) (mpu : Nat) (mtx : Nat) (mor : Nat) (mbo : Nat) (tO : Nat) (tVi : Nat) (tSm : Nat) (ts : Int32) (ma : Int32) (bg : Int32) (wr : Int32) (cl : Int32) (um : Int32) (mn : Int32) (tm : Int32) (Sh : Nat → Int32) (m : Nat) (ρ : Nat → MR) (pw : Nat → Int32) (s : NS) (Ti : Nat → Int32) (ti : Nat → Int32) (Ki : Nat → Int32) (So : Nat → Int32) (k : Nat) (so : Nat) (hR : ρ 0 = (pw, s)) (eM : Sh 0 = nI m) (hm : m ≤ 6) (hkm : k < m) (hso : so < 4) (hgT : gT s) (hgI : gI ti) (eI : ∀ j, j < 4 → Ti j = ti j) (eK : Ki k = 3) (eS : So k = nI so) : CT E l yX11_as cX11_as 5 (some (.int)) 2 0 0 L h [(o, ob 10 [.ref mw, .ref mk, .ref mt, .ref mr, .ref mki, .ref mso, .ref mst, .ref mpr, .ref msh, .ref mwa, .ref mpu, .ref mtx, .int ts, .int ma, .int bg, .int wr, .int cl, .int um, .ref mor, .ref mbo, .int mn, .ref tO, .ref tVi, .ref tSm, .int tm]), (msh, aI E 2 Sh), (mw, aI E 192 (mW ρ)), (mt, aI E 8 Ti), (mki, aI E 12 Ki), (mso, aI E 12 So)] [.ref o, .int (nI k), .int 3] (qP L h (fun (_ : Unit) => [(o, ob 10 [.ref mw, .ref mk, .ref mt, .ref mr, .ref mki, .ref mso, .ref mst, .ref mpr, .ref msh, .ref mwa, .ref mpu, .ref mtx, .int ts, .int ma, .int bg, .int wr, .int cl, .int um, .ref mor, .ref mbo, .int mn, .ref tO, .ref tVi, .ref tSm, .int tm]), (msh, aI E 2 Sh), (mw, aI E 192 (mW ρ)), (mt, aI E 8 Ti), (mki, aI E 12 Ki), (mso, aI E 12 So)]) (fun _ => some (.int (-4))) (fun _ => True)) := by
  refine CT.ofV (by decide +kernel) (Nat.le_of_ble_eq_true rfl) ?_
  refine V.locals2 (lv2 := [(0, .ref o), (1, .int (nI k)), (2, .int 3)]) rfl ?_
  refine V.aload_n dX11_as_0 0 rfl ?_
  refine V.iload_n dX11_as_1 1 rfl ?_
  refine V.callVp (As := [.int (nI k)]) (rest := []) [0, 1] (c_M_isShop E l L _ o mw mk mt mr mki mso mst mpr msh mwa mpu mtx mor mbo tO tVi tSm ts ma bg wr cl um mn tm Sh m ((nI k)) (eM) (hm)) rfl (by decide) mi_X11_isShop 0 rfl rfl w_860 w_862 wp_17 rfl rfl (Nat.le_of_ble_eq_true rfl) ⟨by decide, by decide⟩ ⟨by decide, by decide⟩ dX11_as_2 (vw2 := fun _ => [(o, ob 10 [.ref mw, .ref mk, .ref mt, .ref mr, .ref mki, .ref mso, .ref mst, .ref mpr, .ref msh, .ref mwa, .ref mpu, .ref mtx, .int ts, .int ma, .int bg, .int wr, .int cl, .int um, .ref mor, .ref mbo, .int mn, .ref tO, .ref tVi, .ref tSm, .int tm]), (msh, aI E 2 Sh), (mw, aI E 192 (mW ρ)), (mt, aI E 8 Ti), (mki, aI E 12 Ki), (mso, aI E 12 So)]) (st2 := fun _ => [.int (withinI (nI k) 0 (nI m - 1))]) (fun _ => rfl) (fun _ => rfl) (fun _ => rfl) (fun _ _ => ?_)
  refine V.topc (v := 1) (within_nI hkm (by omega)) ?_
  refine V.if_ne (tgt := 11) dX11_as_5 (by decide) (fun _ => ?_) (fun hc => absurd hc (by decide))
  refine V.iload_n dX11_as_11 2 rfl ?_
  refine V.i2l dX11_as_12 ?_
  refine V.lconst (v := 0) dX11_as_13 (by decide) ?_
  refine V.stack (st2 := [.long (Int32.toInt64 0), .long (Int32.toInt64 3)]) (congrArg (fun z64 => Value.long z64 :: [.long (Int32.toInt64 3)]) (show (0 : Int64) = Int32.toInt64 0 by decide)) ?_
  refine V.ldc2 dX11_as_14 w_878 ?_
  refine V.stack (st2 := [.long (Int32.toInt64 4), .long (Int32.toInt64 0), .long (Int32.toInt64 3)]) (congrArg (fun z64 => Value.long z64 :: [.long (Int32.toInt64 0), .long (Int32.toInt64 3)]) (show (4 : Int64) = Int32.toInt64 4 by decide)) ?_
  refine V.callSp (As := [.long (Int32.toInt64 3), .long (Int32.toInt64 0), .long (Int32.toInt64 4)]) (rest := []) [] (c_M_in E l L _ 3 0 4) rfl (by decide) mi_X11_in w_789 w_790 rfl rfl (Nat.le_of_ble_eq_true rfl) ⟨by decide, by decide⟩ ⟨by decide, by decide⟩ dX11_as_17 (vw2 := fun _ => [(o, ob 10 [.ref mw, .ref mk, .ref mt, .ref mr, .ref mki, .ref mso, .ref mst, .ref mpr, .ref msh, .ref mwa, .ref mpu, .ref mtx, .int ts, .int ma, .int bg, .int wr, .int cl, .int um, .ref mor, .ref mbo, .int mn, .ref tO, .ref tVi, .ref tSm, .int tm]), (msh, aI E 2 Sh), (mw, aI E 192 (mW ρ)), (mt, aI E 8 Ti), (mki, aI E 12 Ki), (mso, aI E 12 So)]) (st2 := fun _ => [.int (withinI 3 0 4)]) (fun _ => rfl) (fun _ => rfl) (fun _ => rfl) (fun _ _ => ?_)
  refine V.topc (v := 1) (by decide) ?_
  refine V.if_ne (tgt := 26) dX11_as_20 (by decide) (fun _ => ?_) (fun hc => absurd hc (by decide))
  refine V.aload_n dX11_as_26 0 rfl ?_
  refine V.getf 0 4 rfl fa_X11_23_10 rfl dX11_as_27 ?_
  refine V.iload_n dX11_as_30 1 rfl ?_
  refine V.iald 4 rfl (vinI (by omega)) dX11_as_31 ?_
  refine V.topc (v := (Ki k)) (by rw [nI_clamp (by omega)] <;> rfl) ?_
  refine V.topc (v := 3) (eK) ?_
  refine V.istore_n (lv2 := [(3, .int 3), (0, .ref o), (1, .int (nI k)), (2, .int 3)]) dX11_as_32 rfl (by decide) rfl ?_
  refine V.iload_n dX11_as_33 3 rfl ?_
  refine V.if_eq (tgt := 59) dX11_as_34 (by decide) (fun hc => absurd hc (by decide)) (fun _ => ?_)
  refine V.iload_n dX11_as_37 3 rfl ?_
  refine V.iconst (v := 1) dX11_as_38 (by decide) ?_
  refine V.icmp_ne (tgt := 47) dX11_as_39 (by decide) (fun _ => ?_) (fun hc => absurd hc (by decide))
  refine V.iload_n dX11_as_47 3 rfl ?_
  refine V.iconst (v := 1) dX11_as_48 (by decide) ?_
  refine V.icmp_le (tgt := 63) dX11_as_49 (by decide) (fun hc => absurd hc (by decide)) (fun _ => ?_)
  refine V.iload_n dX11_as_52 3 rfl ?_
  refine V.iload_n dX11_as_53 0 rfl ?_
  refine V.iconst (v := 1) dX11_as_54 (by decide) ?_
  refine V.iadd dX11_as_55 ?_
  refine V.topc (v := 4) (by decide) ?_
  refine V.icmp_ne (tgt := 63) dX11_as_56 (by decide) (fun _ => ?_) (fun hc => absurd hc (by decide))
  refine V.iconst (v := 0) dX11_as_63 (by decide) ?_
  refine V.istore (lv2 := [(4, .int 0), (3, .int 3), (0, .ref o), (1, .int (nI k)), (2, .int 3)]) dX11_as_64 (by decide) rfl ?_
  refine V.iload dX11_as_66 0 rfl ?_
  refine V.if_ne (tgt := 74) dX11_as_68 (by decide) (fun hc => absurd (by decide) hc) (fun _ => ?_)
  refine V.bipush (v := (-4)) dX11_as_71 (by decide) ?_
  exact V.iret rfl dX11_as_73 (⟨(), rfl, rfl, rfl, trivial⟩)

set_option maxHeartbeats 4000000 in
set_option maxRecDepth 100000 in
theorem c_M_as_3_4 (E : vEnv) (l : Launch) (L : List Nat) (h : Nat → va_E) (o : Nat) (mw : Nat) (mk : Nat) (mt : Nat) (mr : Nat) (mki : Nat) (mso : Nat) (mst : Nat) (mpr : Nat) (msh : Nat) (mwa : Nat) (mpu : Nat) (mtx : Nat) (mor : Nat) (mbo : Nat) (tO : Nat) (tVi : Nat) (tSm : Nat) (ts : Int32) (ma : Int32) (bg : Int32) (wr : Int32) (cl : Int32) (um : Int32) (mn : Int32) (tm : Int32) (Sh : Nat → Int32) (m : Nat) (ρ : Nat → MR) (pw : Nat → Int32) (s : NS) (Ti : Nat → Int32) (ti : Nat → Int32) (Ki : Nat → Int32) (So : Nat → Int32) (k : Nat) (so : Nat) (hR : ρ 0 = (pw, s)) (eM : Sh 0 = nI m) (hm : m ≤ 6) (hkm : k < m) (hso : so < 4) (hgT : gT s) (hgI : gI ti) (eI : ∀ j, j < 4 → Ti j = ti j) (eK : Ki k = 3) (eS : So k = nI so) : CT E l yX11_as cX11_as 5 (some (.int)) 2 0 0 L h [(o, ob 10 [.ref mw, .ref mk, .ref mt, .ref mr, .ref mki, .ref mso, .ref mst, .ref mpr, .ref msh, .ref mwa, .ref mpu, .ref mtx, .int ts, .int ma, .int bg, .int wr, .int cl, .int um, .ref mor, .ref mbo, .int mn, .ref tO, .ref tVi, .ref tSm, .int tm]), (msh, aI E 2 Sh), (mw, aI E 192 (mW ρ)), (mt, aI E 8 Ti), (mki, aI E 12 Ki), (mso, aI E 12 So)] [.ref o, .int (nI k), .int 4] (qP L h (fun (_ : Unit) => [(o, ob 10 [.ref mw, .ref mk, .ref mt, .ref mr, .ref mki, .ref mso, .ref mst, .ref mpr, .ref msh, .ref mwa, .ref mpu, .ref mtx, .int ts, .int ma, .int bg, .int wr, .int cl, .int um, .ref mor, .ref mbo, .int mn, .ref tO, .ref tVi, .ref tSm, .int tm]), (msh, aI E 2 Sh), (mw, aI E 192 (mW (va_up ρ 1 (pw, tireN 3 so ti s)))), (mt, aI E 8 Ti), (mki, aI E 12 Ki), (mso, aI E 12 So)]) (fun _ => some (.int (asI 3 so ti s))) (fun _ => True)) := by
  refine CT.ofV (by decide +kernel) (Nat.le_of_ble_eq_true rfl) ?_
  refine V.locals2 (lv2 := [(0, .ref o), (1, .int (nI k)), (2, .int 4)]) rfl ?_
  refine V.aload_n dX11_as_0 0 rfl ?_
  refine V.iload_n dX11_as_1 1 rfl ?_
  refine V.callVp (As := [.int (nI k)]) (rest := []) [0, 1] (c_M_isShop E l L _ o mw mk mt mr mki mso mst mpr msh mwa mpu mtx mor mbo tO tVi tSm ts ma bg wr cl um mn tm Sh m ((nI k)) (eM) (hm)) rfl (by decide) mi_X11_isShop 0 rfl rfl w_860 w_862 wp_17 rfl rfl (Nat.le_of_ble_eq_true rfl) ⟨by decide, by decide⟩ ⟨by decide, by decide⟩ dX11_as_2 (vw2 := fun _ => [(o, ob 10 [.ref mw, .ref mk, .ref mt, .ref mr, .ref mki, .ref mso, .ref mst, .ref mpr, .ref msh, .ref mwa, .ref mpu, .ref mtx, .int ts, .int ma, .int bg, .int wr, .int cl, .int um, .ref mor, .ref mbo, .int mn, .ref tO, .ref tVi, .ref tSm, .int tm]), (msh, aI E 2 Sh), (mw, aI E 192 (mW ρ)), (mt, aI E 8 Ti), (mki, aI E 12 Ki), (mso, aI E 12 So)]) (st2 := fun _ => [.int (withinI (nI k) 0 (nI m - 1))]) (fun _ => rfl) (fun _ => rfl) (fun _ => rfl) (fun _ _ => ?_)
  refine V.topc (v := 1) (within_nI hkm (by omega)) ?_
  refine V.if_ne (tgt := 11) dX11_as_5 (by decide) (fun _ => ?_) (fun hc => absurd hc (by decide))
  refine V.iload_n dX11_as_11 2 rfl ?_
  refine V.i2l dX11_as_12 ?_
  refine V.lconst (v := 0) dX11_as_13 (by decide) ?_
  refine V.stack (st2 := [.long (Int32.toInt64 0), .long (Int32.toInt64 4)]) (congrArg (fun z64 => Value.long z64 :: [.long (Int32.toInt64 4)]) (show (0 : Int64) = Int32.toInt64 0 by decide)) ?_
  refine V.ldc2 dX11_as_14 w_878 ?_
  refine V.stack (st2 := [.long (Int32.toInt64 4), .long (Int32.toInt64 0), .long (Int32.toInt64 4)]) (congrArg (fun z64 => Value.long z64 :: [.long (Int32.toInt64 0), .long (Int32.toInt64 4)]) (show (4 : Int64) = Int32.toInt64 4 by decide)) ?_
  refine V.callSp (As := [.long (Int32.toInt64 4), .long (Int32.toInt64 0), .long (Int32.toInt64 4)]) (rest := []) [] (c_M_in E l L _ 4 0 4) rfl (by decide) mi_X11_in w_789 w_790 rfl rfl (Nat.le_of_ble_eq_true rfl) ⟨by decide, by decide⟩ ⟨by decide, by decide⟩ dX11_as_17 (vw2 := fun _ => [(o, ob 10 [.ref mw, .ref mk, .ref mt, .ref mr, .ref mki, .ref mso, .ref mst, .ref mpr, .ref msh, .ref mwa, .ref mpu, .ref mtx, .int ts, .int ma, .int bg, .int wr, .int cl, .int um, .ref mor, .ref mbo, .int mn, .ref tO, .ref tVi, .ref tSm, .int tm]), (msh, aI E 2 Sh), (mw, aI E 192 (mW ρ)), (mt, aI E 8 Ti), (mki, aI E 12 Ki), (mso, aI E 12 So)]) (st2 := fun _ => [.int (withinI 4 0 4)]) (fun _ => rfl) (fun _ => rfl) (fun _ => rfl) (fun _ _ => ?_)
  refine V.topc (v := 1) (by decide) ?_
  refine V.if_ne (tgt := 26) dX11_as_20 (by decide) (fun _ => ?_) (fun hc => absurd hc (by decide))
  refine V.aload_n dX11_as_26 0 rfl ?_
  refine V.getf 0 4 rfl fa_X11_23_10 rfl dX11_as_27 ?_
  refine V.iload_n dX11_as_30 1 rfl ?_
  refine V.iald 4 rfl (vinI (by omega)) dX11_as_31 ?_
  refine V.topc (v := (Ki k)) (by rw [nI_clamp (by omega)] <;> rfl) ?_
  refine V.topc (v := 3) (eK) ?_
  refine V.istore_n (lv2 := [(3, .int 3), (0, .ref o), (1, .int (nI k)), (2, .int 4)]) dX11_as_32 rfl (by decide) rfl ?_
  refine V.iload_n dX11_as_33 3 rfl ?_
  refine V.if_eq (tgt := 59) dX11_as_34 (by decide) (fun hc => absurd hc (by decide)) (fun _ => ?_)
  refine V.iload_n dX11_as_37 3 rfl ?_
  refine V.iconst (v := 1) dX11_as_38 (by decide) ?_
  refine V.icmp_ne (tgt := 47) dX11_as_39 (by decide) (fun _ => ?_) (fun hc => absurd hc (by decide))
  refine V.iload_n dX11_as_47 3 rfl ?_
  refine V.iconst (v := 1) dX11_as_48 (by decide) ?_
  refine V.icmp_le (tgt := 63) dX11_as_49 (by decide) (fun hc => absurd hc (by decide)) (fun _ => ?_)
  refine V.iload_n dX11_as_52 3 rfl ?_
  refine V.iload_n dX11_as_53 0 rfl ?_
  refine V.iconst (v := 1) dX11_as_54 (by decide) ?_
  refine V.iadd dX11_as_55 ?_
  refine V.topc (v := 4) (by decide) ?_
  refine V.icmp_ne (tgt := 63) dX11_as_56 (by decide) (fun hc => absurd (by decide) hc) (fun _ => ?_)
  refine V.iconst (v := 1) dX11_as_59 (by decide) ?_
  refine V.goto (tgt := 64) dX11_as_60 (by decide) ?_
  refine V.istore (lv2 := [(4, .int 1), (3, .int 3), (0, .ref o), (1, .int (nI k)), (2, .int 4)]) dX11_as_64 (by decide) rfl ?_
  refine V.iload dX11_as_66 0 rfl ?_
  refine V.if_ne (tgt := 74) dX11_as_68 (by decide) (fun _ => ?_) (fun hc => absurd hc (by decide))
  refine V.aload_n dX11_as_74 2 rfl ?_
  refine V.iconst (v := 0) dX11_as_75 (by decide) ?_
  refine V.bipush (v := 16) dX11_as_76 (by decide) ?_
  refine V.callVp (As := [.int 0, .int 16]) (rest := []) [0, 2] (c_M_copy E l L _ o mw mk mt mr mki mso mst mpr msh mwa mpu mtx mor mbo tO tVi tSm ts ma bg wr cl um mn tm ρ 0 1 (by decide) (by decide) (by decide)) rfl (by decide) mi_X11_copy 0 rfl rfl w_879 w_881 wp_19 rfl rfl (Nat.le_of_ble_eq_true rfl) ⟨by decide, by decide⟩ ⟨by decide, by decide⟩ dX11_as_78 (vw2 := fun _ => [(o, ob 10 [.ref mw, .ref mk, .ref mt, .ref mr, .ref mki, .ref mso, .ref mst, .ref mpr, .ref msh, .ref mwa, .ref mpu, .ref mtx, .int ts, .int ma, .int bg, .int wr, .int cl, .int um, .ref mor, .ref mbo, .int mn, .ref tO, .ref tVi, .ref tSm, .int tm]), (msh, aI E 2 Sh), (mw, aI E 192 (mW (va_up ρ 1 (ρ 0)))), (mt, aI E 8 Ti), (mki, aI E 12 Ki), (mso, aI E 12 So)]) (st2 := fun _ => []) (fun _ => rfl) (fun _ => rfl) (fun _ => rfl) (fun _ _ => ?_)
  refine V.arrEq (vw2 := [(o, ob 10 [.ref mw, .ref mk, .ref mt, .ref mr, .ref mki, .ref mso, .ref mst, .ref mpr, .ref msh, .ref mwa, .ref mpu, .ref mtx, .int ts, .int ma, .int bg, .int wr, .int cl, .int um, .ref mor, .ref mbo, .int mn, .ref tO, .ref tVi, .ref tSm, .int tm]), (msh, aI E 2 Sh), (mw, aI E 192 (mW (va_up ρ 1 (pw, s)))), (mt, aI E 8 Ti), (mki, aI E 12 Ki), (mso, aI E 12 So)]) 2 0 rfl (fun j _ => by rw [hR]) rfl ?_
  refine V.aload_n dX11_as_81 2 rfl ?_
  refine V.bipush (v := 16) dX11_as_82 (by decide) ?_
  refine V.iload_n dX11_as_84 1 rfl ?_
  refine V.aload_n dX11_as_85 2 rfl ?_
  refine V.getf 0 5 rfl fa_X11_26_10 rfl dX11_as_86 ?_
  refine V.iload_n dX11_as_89 3 rfl ?_
  refine V.iald 5 rfl (vinI (by omega)) dX11_as_90 ?_
  refine V.topc (v := (So k)) (by rw [nI_clamp (by omega)] <;> rfl) ?_
  refine V.topc (v := (nI so)) (eS) ?_
  refine V.callVp (As := [.int 16, .int 3, .int (nI so)]) (rest := []) [0, 2, 3] (c_M_tireAs_3 E l L _ o mw mk mt mr mki mso mst mpr msh mwa mpu mtx mor mbo tO tVi tSm ts ma bg wr cl um mn tm ((va_up ρ 1 (pw, s))) 1 pw s Ti ti so (by decide) (va_up_self _ _ _) (hso) (hgT) (hgI) (eI)) rfl (by decide) mi_X11_tireAs 0 rfl rfl w_883 w_885 wp_20 rfl rfl (Nat.le_of_ble_eq_true rfl) ⟨by decide, by decide⟩ ⟨by decide, by decide⟩ dX11_as_91 (vw2 := fun _ => [(o, ob 10 [.ref mw, .ref mk, .ref mt, .ref mr, .ref mki, .ref mso, .ref mst, .ref mpr, .ref msh, .ref mwa, .ref mpu, .ref mtx, .int ts, .int ma, .int bg, .int wr, .int cl, .int um, .ref mor, .ref mbo, .int mn, .ref tO, .ref tVi, .ref tSm, .int tm]), (msh, aI E 2 Sh), (mw, aI E 192 (mW (va_up (va_up ρ 1 (pw, s)) 1 (pw, (tireN 3 so ti s))))), (mt, aI E 8 Ti), (mki, aI E 12 Ki), (mso, aI E 12 So)]) (st2 := fun _ => []) (fun _ => rfl) (fun _ => rfl) (fun _ => rfl) (fun _ _ => ?_)
  refine V.arrEq (vw2 := [(o, ob 10 [.ref mw, .ref mk, .ref mt, .ref mr, .ref mki, .ref mso, .ref mst, .ref mpr, .ref msh, .ref mwa, .ref mpu, .ref mtx, .int ts, .int ma, .int bg, .int wr, .int cl, .int um, .ref mor, .ref mbo, .int mn, .ref tO, .ref tVi, .ref tSm, .int tm]), (msh, aI E 2 Sh), (mw, aI E 192 (mW (va_up ρ 1 (pw, tireN 3 so ti s)))), (mt, aI E 8 Ti), (mki, aI E 12 Ki), (mso, aI E 12 So)]) 2 0 rfl (fun j _ => mW_ups j) rfl ?_
  refine V.aload_n dX11_as_94 2 rfl ?_
  refine V.getf 0 0 rfl fa_X11_7_10 rfl dX11_as_95 ?_
  refine V.bipush (v := 22) dX11_as_98 (by decide) ?_
  refine V.aload_n dX11_as_100 2 rfl ?_
  refine V.getf 0 5 rfl fa_X11_26_10 rfl dX11_as_101 ?_
  refine V.iload_n dX11_as_104 3 rfl ?_
  refine V.iald 5 rfl (vinI (by omega)) dX11_as_105 ?_
  refine V.topc (v := (So k)) (by rw [nI_clamp (by omega)] <;> rfl) ?_
  refine V.topc (v := (nI so)) (eS) ?_
  refine V.iadd dX11_as_106 ?_
  refine V.topc (v := (nI (22 + so))) (nI_add 22 so) ?_
  refine V.iald 2 rfl (vinI (by omega)) dX11_as_107 ?_
  refine V.topc (v := ((mW (va_up ρ 1 (pw, tireN 3 so ti s))) ((22 + so)))) (by rw [nI_clamp (by omega)] <;> rfl) ?_
  refine V.topc (v := ((tireN 3 so ti s).1 so)) (mW_ti (i := 1) (va_up_self _ _ _) hso) ?_
  refine V.aload_n dX11_as_108 2 rfl ?_
  refine V.getf 0 0 rfl fa_X11_7_10 rfl dX11_as_109 ?_
  refine V.bipush (v := 6) dX11_as_112 (by decide) ?_
  refine V.aload_n dX11_as_114 2 rfl ?_
  refine V.getf 0 5 rfl fa_X11_26_10 rfl dX11_as_115 ?_
  refine V.iload_n dX11_as_118 3 rfl ?_
  refine V.iald 5 rfl (vinI (by omega)) dX11_as_119 ?_
  refine V.topc (v := (So k)) (by rw [nI_clamp (by omega)] <;> rfl) ?_
  refine V.topc (v := (nI so)) (eS) ?_
  refine V.iadd dX11_as_120 ?_
  refine V.topc (v := (nI (6 + so))) (nI_add 6 so) ?_
  refine V.iald 2 rfl (vinI (by omega)) dX11_as_121 ?_
  refine V.topc (v := ((mW (va_up ρ 1 (pw, tireN 3 so ti s))) ((6 + so)))) (by rw [nI_clamp (by omega)] <;> rfl) ?_
  refine V.topc (v := (s.1 so)) (mW_ti (i := 0) ((va_up_ne _ _ (by decide)).trans hR) hso) ?_
  refine V.isub dX11_as_122 ?_
  refine V.bipush (v := 99) dX11_as_123 (by decide) ?_
  refine V.iadd dX11_as_125 ?_
  exact V.iret rfl dX11_as_126 (⟨(), congrArg (fun z9 => some (Value.int z9)) (as_eq 3 so ti s), rfl, rfl, trivial⟩)

set_option maxHeartbeats 4000000 in
theorem c_M_asN (E : vEnv) (l : Launch) (L : List Nat) (h : Nat → va_E) (o : Nat) (mw : Nat) (mk : Nat) (mt : Nat) (mr : Nat) (mki : Nat) (mso : Nat) (mst : Nat) (mpr : Nat) (msh : Nat) (mwa : Nat) (mpu : Nat) (mtx : Nat) (mor : Nat) (mbo : Nat) (tO : Nat) (tVi : Nat) (tSm : Nat) (ts : Int32) (ma : Int32) (bg : Int32) (wr : Int32) (cl : Int32) (um : Int32) (mn : Int32) (tm : Int32) (Sh : Nat → Int32) (m : Nat) (ρ : Nat → MR) (pw : Nat → Int32) (s : NS) (Ti : Nat → Int32) (ti : Nat → Int32) (Ki : Nat → Int32) (So : Nat → Int32) (k : Nat) (so : Nat) (κ : Nat) (y : Int32) (hR : ρ 0 = (pw, s)) (eM : Sh 0 = nI m) (hm : m ≤ 6) (hkm : k < m) (hso : so < 4) (hgT : gT s) (hgI : gI ti) (eI : ∀ j, j < 4 → Ti j = ti j) (eK : Ki k = kindI κ) (eS : So k = nI so) (hκ : κ < 4) (hy : withinI y 0 4 = 1) (hy2 : ofKindI κ y = 0) : CT E l yX11_as cX11_as 5 (some (.int)) 2 0 0 L h [(o, ob 10 [.ref mw, .ref mk, .ref mt, .ref mr, .ref mki, .ref mso, .ref mst, .ref mpr, .ref msh, .ref mwa, .ref mpu, .ref mtx, .int ts, .int ma, .int bg, .int wr, .int cl, .int um, .ref mor, .ref mbo, .int mn, .ref tO, .ref tVi, .ref tSm, .int tm]), (msh, aI E 2 Sh), (mw, aI E 192 (mW ρ)), (mt, aI E 8 Ti), (mki, aI E 12 Ki), (mso, aI E 12 So)] [.ref o, .int (nI k), .int y] (qP L h (fun (_ : Unit) => [(o, ob 10 [.ref mw, .ref mk, .ref mt, .ref mr, .ref mki, .ref mso, .ref mst, .ref mpr, .ref msh, .ref mwa, .ref mpu, .ref mtx, .int ts, .int ma, .int bg, .int wr, .int cl, .int um, .ref mor, .ref mbo, .int mn, .ref tO, .ref tVi, .ref tSm, .int tm]), (msh, aI E 2 Sh), (mw, aI E 192 (mW ρ)), (mt, aI E 8 Ti), (mki, aI E 12 Ki), (mso, aI E 12 So)]) (fun _ => some (.int (-4))) (fun _ => True)) := by
  obtain ⟨yy, -, hyy, rfl⟩ := withinN_of (lo := 0) (hi := 4) (by omega) (by omega) hy
  rcases (show κ = 0 ∨ κ = 1 ∨ κ = 2 ∨ κ = 3 by omega) with rfl | rfl | rfl | rfl <;> rcases (show yy = 0 ∨ yy = 1 ∨ yy = 2 ∨ yy = 3 ∨ yy = 4 by omega) with rfl | rfl | rfl | rfl | rfl
  · exact absurd hy2 (by decide)
  · exact absurd hy2 (by decide)
  · exact c_M_as_0_2 E l L h o mw mk mt mr mki mso mst mpr msh mwa mpu mtx mor mbo tO tVi tSm ts ma bg wr cl um mn tm Sh m ρ pw s Ti ti Ki So k so hR eM hm hkm hso hgT hgI eI eK eS
  · exact c_M_as_0_3 E l L h o mw mk mt mr mki mso mst mpr msh mwa mpu mtx mor mbo tO tVi tSm ts ma bg wr cl um mn tm Sh m ρ pw s Ti ti Ki So k so hR eM hm hkm hso hgT hgI eI eK eS
  · exact c_M_as_0_4 E l L h o mw mk mt mr mki mso mst mpr msh mwa mpu mtx mor mbo tO tVi tSm ts ma bg wr cl um mn tm Sh m ρ pw s Ti ti Ki So k so hR eM hm hkm hso hgT hgI eI eK eS
  · exact absurd hy2 (by decide)
  · exact absurd hy2 (by decide)
  · exact absurd hy2 (by decide)
  · exact c_M_as_1_3 E l L h o mw mk mt mr mki mso mst mpr msh mwa mpu mtx mor mbo tO tVi tSm ts ma bg wr cl um mn tm Sh m ρ pw s Ti ti Ki So k so hR eM hm hkm hso hgT hgI eI eK eS
  · exact c_M_as_1_4 E l L h o mw mk mt mr mki mso mst mpr msh mwa mpu mtx mor mbo tO tVi tSm ts ma bg wr cl um mn tm Sh m ρ pw s Ti ti Ki So k so hR eM hm hkm hso hgT hgI eI eK eS
  · exact absurd hy2 (by decide)
  · exact c_M_as_2_1 E l L h o mw mk mt mr mki mso mst mpr msh mwa mpu mtx mor mbo tO tVi tSm ts ma bg wr cl um mn tm Sh m ρ pw s Ti ti Ki So k so hR eM hm hkm hso hgT hgI eI eK eS
  · exact c_M_as_2_2 E l L h o mw mk mt mr mki mso mst mpr msh mwa mpu mtx mor mbo tO tVi tSm ts ma bg wr cl um mn tm Sh m ρ pw s Ti ti Ki So k so hR eM hm hkm hso hgT hgI eI eK eS
  · exact absurd hy2 (by decide)
  · exact c_M_as_2_4 E l L h o mw mk mt mr mki mso mst mpr msh mwa mpu mtx mor mbo tO tVi tSm ts ma bg wr cl um mn tm Sh m ρ pw s Ti ti Ki So k so hR eM hm hkm hso hgT hgI eI eK eS
  · exact absurd hy2 (by decide)
  · exact c_M_as_3_1 E l L h o mw mk mt mr mki mso mst mpr msh mwa mpu mtx mor mbo tO tVi tSm ts ma bg wr cl um mn tm Sh m ρ pw s Ti ti Ki So k so hR eM hm hkm hso hgT hgI eI eK eS
  · exact c_M_as_3_2 E l L h o mw mk mt mr mki mso mst mpr msh mwa mpu mtx mor mbo tO tVi tSm ts ma bg wr cl um mn tm Sh m ρ pw s Ti ti Ki So k so hR eM hm hkm hso hgT hgI eI eK eS
  · exact c_M_as_3_3 E l L h o mw mk mt mr mki mso mst mpr msh mwa mpu mtx mor mbo tO tVi tSm ts ma bg wr cl um mn tm Sh m ρ pw s Ti ti Ki So k so hR eM hm hkm hso hgT hgI eI eK eS
  · exact absurd hy2 (by decide)

set_option maxHeartbeats 4000000 in
theorem c_M_as (E : vEnv) (l : Launch) (L : List Nat) (h : Nat → va_E) (o : Nat) (mw : Nat) (mk : Nat) (mt : Nat) (mr : Nat) (mki : Nat) (mso : Nat) (mst : Nat) (mpr : Nat) (msh : Nat) (mwa : Nat) (mpu : Nat) (mtx : Nat) (mor : Nat) (mbo : Nat) (tO : Nat) (tVi : Nat) (tSm : Nat) (ts : Int32) (ma : Int32) (bg : Int32) (wr : Int32) (cl : Int32) (um : Int32) (mn : Int32) (tm : Int32) (Sh : Nat → Int32) (m : Nat) (ρ : Nat → MR) (pw : Nat → Int32) (s : NS) (Ti : Nat → Int32) (ti : Nat → Int32) (Ki : Nat → Int32) (So : Nat → Int32) (k : Nat) (so : Nat) (κ : Nat) (y : Int32) (hR : ρ 0 = (pw, s)) (eM : Sh 0 = nI m) (hm : m ≤ 6) (hkm : k < m) (hso : so < 4) (hgT : gT s) (hgI : gI ti) (eI : ∀ j, j < 4 → Ti j = ti j) (eK : Ki k = kindI κ) (eS : So k = nI so) (hκ : κ < 4) (hy : withinI y 0 4 = 1) (hy2 : ofKindI κ y = 1) : CT E l yX11_as cX11_as 5 (some (.int)) 2 0 0 L h [(o, ob 10 [.ref mw, .ref mk, .ref mt, .ref mr, .ref mki, .ref mso, .ref mst, .ref mpr, .ref msh, .ref mwa, .ref mpu, .ref mtx, .int ts, .int ma, .int bg, .int wr, .int cl, .int um, .ref mor, .ref mbo, .int mn, .ref tO, .ref tVi, .ref tSm, .int tm]), (msh, aI E 2 Sh), (mw, aI E 192 (mW ρ)), (mt, aI E 8 Ti), (mki, aI E 12 Ki), (mso, aI E 12 So)] [.ref o, .int (nI k), .int y] (qP L h (fun (_ : Unit) => [(o, ob 10 [.ref mw, .ref mk, .ref mt, .ref mr, .ref mki, .ref mso, .ref mst, .ref mpr, .ref msh, .ref mwa, .ref mpu, .ref mtx, .int ts, .int ma, .int bg, .int wr, .int cl, .int um, .ref mor, .ref mbo, .int mn, .ref tO, .ref tVi, .ref tSm, .int tm]), (msh, aI E 2 Sh), (mw, aI E 192 (mW (va_up ρ 1 (pw, tireN κ so ti s)))), (mt, aI E 8 Ti), (mki, aI E 12 Ki), (mso, aI E 12 So)]) (fun _ => some (.int (asI κ so ti s))) (fun _ => True)) := by
  obtain ⟨yy, -, hyy, rfl⟩ := withinN_of (lo := 0) (hi := 4) (by omega) (by omega) hy
  rcases (show κ = 0 ∨ κ = 1 ∨ κ = 2 ∨ κ = 3 by omega) with rfl | rfl | rfl | rfl <;> rcases (show yy = 0 ∨ yy = 1 ∨ yy = 2 ∨ yy = 3 ∨ yy = 4 by omega) with rfl | rfl | rfl | rfl | rfl
  · exact c_M_as_0_0 E l L h o mw mk mt mr mki mso mst mpr msh mwa mpu mtx mor mbo tO tVi tSm ts ma bg wr cl um mn tm Sh m ρ pw s Ti ti Ki So k so hR eM hm hkm hso hgT hgI eI eK eS
  · exact c_M_as_0_1 E l L h o mw mk mt mr mki mso mst mpr msh mwa mpu mtx mor mbo tO tVi tSm ts ma bg wr cl um mn tm Sh m ρ pw s Ti ti Ki So k so hR eM hm hkm hso hgT hgI eI eK eS
  · exact absurd hy2 (by decide)
  · exact absurd hy2 (by decide)
  · exact absurd hy2 (by decide)
  · exact c_M_as_1_0 E l L h o mw mk mt mr mki mso mst mpr msh mwa mpu mtx mor mbo tO tVi tSm ts ma bg wr cl um mn tm Sh m ρ pw s Ti ti Ki So k so hR eM hm hkm hso hgT hgI eI eK eS
  · exact c_M_as_1_1 E l L h o mw mk mt mr mki mso mst mpr msh mwa mpu mtx mor mbo tO tVi tSm ts ma bg wr cl um mn tm Sh m ρ pw s Ti ti Ki So k so hR eM hm hkm hso hgT hgI eI eK eS
  · exact c_M_as_1_2 E l L h o mw mk mt mr mki mso mst mpr msh mwa mpu mtx mor mbo tO tVi tSm ts ma bg wr cl um mn tm Sh m ρ pw s Ti ti Ki So k so hR eM hm hkm hso hgT hgI eI eK eS
  · exact absurd hy2 (by decide)
  · exact absurd hy2 (by decide)
  · exact c_M_as_2_0 E l L h o mw mk mt mr mki mso mst mpr msh mwa mpu mtx mor mbo tO tVi tSm ts ma bg wr cl um mn tm Sh m ρ pw s Ti ti Ki So k so hR eM hm hkm hso hgT hgI eI eK eS
  · exact absurd hy2 (by decide)
  · exact absurd hy2 (by decide)
  · exact c_M_as_2_3 E l L h o mw mk mt mr mki mso mst mpr msh mwa mpu mtx mor mbo tO tVi tSm ts ma bg wr cl um mn tm Sh m ρ pw s Ti ti Ki So k so hR eM hm hkm hso hgT hgI eI eK eS
  · exact absurd hy2 (by decide)
  · exact c_M_as_3_0 E l L h o mw mk mt mr mki mso mst mpr msh mwa mpu mtx mor mbo tO tVi tSm ts ma bg wr cl um mn tm Sh m ρ pw s Ti ti Ki So k so hR eM hm hkm hso hgT hgI eI eK eS
  · exact absurd hy2 (by decide)
  · exact absurd hy2 (by decide)
  · exact absurd hy2 (by decide)
  · exact c_M_as_3_4 E l L h o mw mk mt mr mki mso mst mpr msh mwa mpu mtx mor mbo tO tVi tSm ts ma bg wr cl um mn tm Sh m ρ pw s Ti ti Ki So k so hR eM hm hkm hso hgT hgI eI eK eS

set_option maxHeartbeats 4000000 in
set_option maxRecDepth 100000 in
theorem c_M_init (E : vEnv) (l : Launch) (L : List Nat) (h : Nat → va_E) (o : Nat) : CT E l yX11_init cX11_init 1 none 1 17 454 L h [(o, ob 10 [.null, .null, .null, .null, .null, .null, .null, .null, .null, .null, .null, .null, .int 0, .int 0, .int 0, .int 0, .int 0, .int 0, .null, .null, .int 0, .null, .null, .null, .int 0])] [.ref o] (qN L h (fun (x : Nat → Nat) => [(o, ob 10 [.ref (x 0), .ref (x 1), .ref (x 2), .ref (x 3), .ref (x 4), .ref (x 5), .ref (x 6), .ref (x 7), .ref (x 8), .ref (x 9), .ref (x 10), .ref (x 11), .int 0, .int 0, .int 0, .int 0, .int 0, .int 0, .ref (x 12), .ref (x 13), .int 0, .ref (x 14), .ref (x 15), .ref (x 16), .int 0])]) (fun (x : Nat → Nat) => [((x 0), aI E 192 (mW (va_up (fun _ => zRow) 0 ((fun _ => 0), ((fun _ => 0), 0, 0, 0, 60, 0, 0, 0))))), ((x 1), aZ E 2 (fun _ => 0)), ((x 2), aI E 8 (putH 4 (fun _ => 0) 0 (fun _ => 4))), ((x 3), aI E 8 (putH 4 (fun _ => 0) 0 (fun _ => 1))), ((x 4), aI E 12 (fun _ => 0)), ((x 5), aI E 12 (fun _ => 0)), ((x 6), aI E 12 (fun _ => 0)), ((x 7), aI E 12 (fun _ => 0)), ((x 8), aI E 2 (upd (fun _ => 0) 0 0)), ((x 9), aI E 2 (upd (fun _ => 0) 0 10)), ((x 10), aI E 2 (upd (fun _ => 0) 0 60)), ((x 11), aI E 160 (fun _ => 0)), ((x 12), aI E 6 (fun _ => 0)), ((x 13), aI E 6 (fun _ => 0)), ((x 14), aI E 6 (fun _ => 0)), ((x 15), aI E 6 (fun _ => 0)), ((x 16), aI E 6 (fun _ => 0))]) (fun x => none) (fun x => True)) := by
  refine CT.ofV (by decide +kernel) (Nat.le_of_ble_eq_true rfl) ?_
  refine V.locals2 (lv2 := [(0, .ref o)]) rfl ?_
  refine V.aload_n dX11_init_0 0 rfl ?_
  refine V.objInit w_703 (Nat.le_of_ble_eq_true rfl) ⟨by decide, by decide⟩ dX11_init_1 ?_
  refine V.aload_n dX11_init_4 0 rfl ?_
  refine V.sipush (v := 192) dX11_init_5 (by decide) ?_
  refine V.newa (atype := .int) (N := 192) 0 w_62 rfl (fun _ => rfl) (by decide) (by decide) (by decide) (by decide) (by decide) dX11_init_8 (fun q1_8 hq1_8 => ?_)
  refine V.view (vw2 := [(o, ob 10 [.null, .null, .null, .null, .null, .null, .null, .null, .null, .null, .null, .null, .int 0, .int 0, .int 0, .int 0, .int 0, .int 0, .null, .null, .int 0, .null, .null, .null, .int 0]), (q1_8, aI E 192 (fun _ => 0))]) (L2 := (L ++ [q1_8])) rfl (rfl) ?_
  have fr2 : Fr L [q1_8] := Fr.one (Fr.nil) (by simpa using hq1_8)
  refine V.putF 0 0 (vw2 := [(o, ob 10 [.ref q1_8, .null, .null, .null, .null, .null, .null, .null, .null, .null, .null, .null, .int 0, .int 0, .int 0, .int 0, .int 0, .int 0, .null, .null, .int 0, .null, .null, .null, .int 0]), (q1_8, aI E 192 (fun _ => 0))]) rfl fp_X11_7_10 rfl rfl rfl (Nat.le_of_ble_eq_true rfl) rfl dX11_init_10 ?_
  refine V.aload_n dX11_init_13 0 rfl ?_
  refine V.iconst (v := 2) dX11_init_14 (by decide) ?_
  refine V.newa (atype := .boolean) (N := 2) 1 w_186 rfl (fun _ => rfl) (by decide) (by decide) (by decide) (by decide) (by decide) dX11_init_15 (fun q3_15 hq3_15 => ?_)
  refine V.view (vw2 := [(o, ob 10 [.ref q1_8, .null, .null, .null, .null, .null, .null, .null, .null, .null, .null, .null, .int 0, .int 0, .int 0, .int 0, .int 0, .int 0, .null, .null, .int 0, .null, .null, .null, .int 0]), (q1_8, aI E 192 (fun _ => 0)), (q3_15, aZ E 2 (fun _ => 0))]) (L2 := (L ++ [q1_8, q3_15])) rfl (by rw [List.append_assoc]; rfl) ?_
  have fr4 : Fr L [q1_8, q3_15] := Fr.one (fr2) (by simpa using hq3_15)
  refine V.putF 0 1 (vw2 := [(o, ob 10 [.ref q1_8, .ref q3_15, .null, .null, .null, .null, .null, .null, .null, .null, .null, .null, .int 0, .int 0, .int 0, .int 0, .int 0, .int 0, .null, .null, .int 0, .null, .null, .null, .int 0]), (q1_8, aI E 192 (fun _ => 0)), (q3_15, aZ E 2 (fun _ => 0))]) rfl fp_X11_13_10 rfl rfl rfl (Nat.le_of_ble_eq_true rfl) rfl dX11_init_17 ?_
  refine V.aload_n dX11_init_20 0 rfl ?_
  refine V.bipush (v := 8) dX11_init_21 (by decide) ?_
  refine V.newa (atype := .int) (N := 8) 0 w_62 rfl (fun _ => rfl) (by decide) (by decide) (by decide) (by decide) (by decide) dX11_init_23 (fun q5_23 hq5_23 => ?_)
  refine V.view (vw2 := [(o, ob 10 [.ref q1_8, .ref q3_15, .null, .null, .null, .null, .null, .null, .null, .null, .null, .null, .int 0, .int 0, .int 0, .int 0, .int 0, .int 0, .null, .null, .int 0, .null, .null, .null, .int 0]), (q1_8, aI E 192 (fun _ => 0)), (q3_15, aZ E 2 (fun _ => 0)), (q5_23, aI E 8 (fun _ => 0))]) (L2 := (L ++ [q1_8, q3_15, q5_23])) rfl (by rw [List.append_assoc]; rfl) ?_
  have fr6 : Fr L [q1_8, q3_15, q5_23] := Fr.one (fr4) (by simpa using hq5_23)
  refine V.putF 0 2 (vw2 := [(o, ob 10 [.ref q1_8, .ref q3_15, .ref q5_23, .null, .null, .null, .null, .null, .null, .null, .null, .null, .int 0, .int 0, .int 0, .int 0, .int 0, .int 0, .null, .null, .int 0, .null, .null, .null, .int 0]), (q1_8, aI E 192 (fun _ => 0)), (q3_15, aZ E 2 (fun _ => 0)), (q5_23, aI E 8 (fun _ => 0))]) rfl fp_X11_17_10 rfl rfl rfl (Nat.le_of_ble_eq_true rfl) rfl dX11_init_25 ?_
  refine V.aload_n dX11_init_28 0 rfl ?_
  refine V.bipush (v := 8) dX11_init_29 (by decide) ?_
  refine V.newa (atype := .int) (N := 8) 0 w_62 rfl (fun _ => rfl) (by decide) (by decide) (by decide) (by decide) (by decide) dX11_init_31 (fun q7_31 hq7_31 => ?_)
  refine V.view (vw2 := [(o, ob 10 [.ref q1_8, .ref q3_15, .ref q5_23, .null, .null, .null, .null, .null, .null, .null, .null, .null, .int 0, .int 0, .int 0, .int 0, .int 0, .int 0, .null, .null, .int 0, .null, .null, .null, .int 0]), (q1_8, aI E 192 (fun _ => 0)), (q3_15, aZ E 2 (fun _ => 0)), (q5_23, aI E 8 (fun _ => 0)), (q7_31, aI E 8 (fun _ => 0))]) (L2 := (L ++ [q1_8, q3_15, q5_23, q7_31])) rfl (by rw [List.append_assoc]; rfl) ?_
  have fr8 : Fr L [q1_8, q3_15, q5_23, q7_31] := Fr.one (fr6) (by simpa using hq7_31)
  refine V.putF 0 3 (vw2 := [(o, ob 10 [.ref q1_8, .ref q3_15, .ref q5_23, .ref q7_31, .null, .null, .null, .null, .null, .null, .null, .null, .int 0, .int 0, .int 0, .int 0, .int 0, .int 0, .null, .null, .int 0, .null, .null, .null, .int 0]), (q1_8, aI E 192 (fun _ => 0)), (q3_15, aZ E 2 (fun _ => 0)), (q5_23, aI E 8 (fun _ => 0)), (q7_31, aI E 8 (fun _ => 0))]) rfl fp_X11_20_10 rfl rfl rfl (Nat.le_of_ble_eq_true rfl) rfl dX11_init_33 ?_
  refine V.aload_n dX11_init_36 0 rfl ?_
  refine V.bipush (v := 12) dX11_init_37 (by decide) ?_
  refine V.newa (atype := .int) (N := 12) 0 w_62 rfl (fun _ => rfl) (by decide) (by decide) (by decide) (by decide) (by decide) dX11_init_39 (fun q9_39 hq9_39 => ?_)
  refine V.view (vw2 := [(o, ob 10 [.ref q1_8, .ref q3_15, .ref q5_23, .ref q7_31, .null, .null, .null, .null, .null, .null, .null, .null, .int 0, .int 0, .int 0, .int 0, .int 0, .int 0, .null, .null, .int 0, .null, .null, .null, .int 0]), (q1_8, aI E 192 (fun _ => 0)), (q3_15, aZ E 2 (fun _ => 0)), (q5_23, aI E 8 (fun _ => 0)), (q7_31, aI E 8 (fun _ => 0)), (q9_39, aI E 12 (fun _ => 0))]) (L2 := (L ++ [q1_8, q3_15, q5_23, q7_31, q9_39])) rfl (by rw [List.append_assoc]; rfl) ?_
  have fr10 : Fr L [q1_8, q3_15, q5_23, q7_31, q9_39] := Fr.one (fr8) (by simpa using hq9_39)
  refine V.putF 0 4 (vw2 := [(o, ob 10 [.ref q1_8, .ref q3_15, .ref q5_23, .ref q7_31, .ref q9_39, .null, .null, .null, .null, .null, .null, .null, .int 0, .int 0, .int 0, .int 0, .int 0, .int 0, .null, .null, .int 0, .null, .null, .null, .int 0]), (q1_8, aI E 192 (fun _ => 0)), (q3_15, aZ E 2 (fun _ => 0)), (q5_23, aI E 8 (fun _ => 0)), (q7_31, aI E 8 (fun _ => 0)), (q9_39, aI E 12 (fun _ => 0))]) rfl fp_X11_23_10 rfl rfl rfl (Nat.le_of_ble_eq_true rfl) rfl dX11_init_41 ?_
  refine V.aload_n dX11_init_44 0 rfl ?_
  refine V.bipush (v := 12) dX11_init_45 (by decide) ?_
  refine V.newa (atype := .int) (N := 12) 0 w_62 rfl (fun _ => rfl) (by decide) (by decide) (by decide) (by decide) (by decide) dX11_init_47 (fun q11_47 hq11_47 => ?_)
  refine V.view (vw2 := [(o, ob 10 [.ref q1_8, .ref q3_15, .ref q5_23, .ref q7_31, .ref q9_39, .null, .null, .null, .null, .null, .null, .null, .int 0, .int 0, .int 0, .int 0, .int 0, .int 0, .null, .null, .int 0, .null, .null, .null, .int 0]), (q1_8, aI E 192 (fun _ => 0)), (q3_15, aZ E 2 (fun _ => 0)), (q5_23, aI E 8 (fun _ => 0)), (q7_31, aI E 8 (fun _ => 0)), (q9_39, aI E 12 (fun _ => 0)), (q11_47, aI E 12 (fun _ => 0))]) (L2 := (L ++ [q1_8, q3_15, q5_23, q7_31, q9_39, q11_47])) rfl (by rw [List.append_assoc]; rfl) ?_
  have fr12 : Fr L [q1_8, q3_15, q5_23, q7_31, q9_39, q11_47] := Fr.one (fr10) (by simpa using hq11_47)
  refine V.putF 0 5 (vw2 := [(o, ob 10 [.ref q1_8, .ref q3_15, .ref q5_23, .ref q7_31, .ref q9_39, .ref q11_47, .null, .null, .null, .null, .null, .null, .int 0, .int 0, .int 0, .int 0, .int 0, .int 0, .null, .null, .int 0, .null, .null, .null, .int 0]), (q1_8, aI E 192 (fun _ => 0)), (q3_15, aZ E 2 (fun _ => 0)), (q5_23, aI E 8 (fun _ => 0)), (q7_31, aI E 8 (fun _ => 0)), (q9_39, aI E 12 (fun _ => 0)), (q11_47, aI E 12 (fun _ => 0))]) rfl fp_X11_26_10 rfl rfl rfl (Nat.le_of_ble_eq_true rfl) rfl dX11_init_49 ?_
  refine V.aload_n dX11_init_52 0 rfl ?_
  refine V.bipush (v := 12) dX11_init_53 (by decide) ?_
  refine V.newa (atype := .int) (N := 12) 0 w_62 rfl (fun _ => rfl) (by decide) (by decide) (by decide) (by decide) (by decide) dX11_init_55 (fun q13_55 hq13_55 => ?_)
  refine V.view (vw2 := [(o, ob 10 [.ref q1_8, .ref q3_15, .ref q5_23, .ref q7_31, .ref q9_39, .ref q11_47, .null, .null, .null, .null, .null, .null, .int 0, .int 0, .int 0, .int 0, .int 0, .int 0, .null, .null, .int 0, .null, .null, .null, .int 0]), (q1_8, aI E 192 (fun _ => 0)), (q3_15, aZ E 2 (fun _ => 0)), (q5_23, aI E 8 (fun _ => 0)), (q7_31, aI E 8 (fun _ => 0)), (q9_39, aI E 12 (fun _ => 0)), (q11_47, aI E 12 (fun _ => 0)), (q13_55, aI E 12 (fun _ => 0))]) (L2 := (L ++ [q1_8, q3_15, q5_23, q7_31, q9_39, q11_47, q13_55])) rfl (by rw [List.append_assoc]; rfl) ?_
  have fr14 : Fr L [q1_8, q3_15, q5_23, q7_31, q9_39, q11_47, q13_55] := Fr.one (fr12) (by simpa using hq13_55)
  refine V.putF 0 6 (vw2 := [(o, ob 10 [.ref q1_8, .ref q3_15, .ref q5_23, .ref q7_31, .ref q9_39, .ref q11_47, .ref q13_55, .null, .null, .null, .null, .null, .int 0, .int 0, .int 0, .int 0, .int 0, .int 0, .null, .null, .int 0, .null, .null, .null, .int 0]), (q1_8, aI E 192 (fun _ => 0)), (q3_15, aZ E 2 (fun _ => 0)), (q5_23, aI E 8 (fun _ => 0)), (q7_31, aI E 8 (fun _ => 0)), (q9_39, aI E 12 (fun _ => 0)), (q11_47, aI E 12 (fun _ => 0)), (q13_55, aI E 12 (fun _ => 0))]) rfl fp_X11_29_10 rfl rfl rfl (Nat.le_of_ble_eq_true rfl) rfl dX11_init_57 ?_
  refine V.aload_n dX11_init_60 0 rfl ?_
  refine V.bipush (v := 12) dX11_init_61 (by decide) ?_
  refine V.newa (atype := .int) (N := 12) 0 w_62 rfl (fun _ => rfl) (by decide) (by decide) (by decide) (by decide) (by decide) dX11_init_63 (fun q15_63 hq15_63 => ?_)
  refine V.view (vw2 := [(o, ob 10 [.ref q1_8, .ref q3_15, .ref q5_23, .ref q7_31, .ref q9_39, .ref q11_47, .ref q13_55, .null, .null, .null, .null, .null, .int 0, .int 0, .int 0, .int 0, .int 0, .int 0, .null, .null, .int 0, .null, .null, .null, .int 0]), (q1_8, aI E 192 (fun _ => 0)), (q3_15, aZ E 2 (fun _ => 0)), (q5_23, aI E 8 (fun _ => 0)), (q7_31, aI E 8 (fun _ => 0)), (q9_39, aI E 12 (fun _ => 0)), (q11_47, aI E 12 (fun _ => 0)), (q13_55, aI E 12 (fun _ => 0)), (q15_63, aI E 12 (fun _ => 0))]) (L2 := (L ++ [q1_8, q3_15, q5_23, q7_31, q9_39, q11_47, q13_55, q15_63])) rfl (by rw [List.append_assoc]; rfl) ?_
  have fr16 : Fr L [q1_8, q3_15, q5_23, q7_31, q9_39, q11_47, q13_55, q15_63] := Fr.one (fr14) (by simpa using hq15_63)
  refine V.putF 0 7 (vw2 := [(o, ob 10 [.ref q1_8, .ref q3_15, .ref q5_23, .ref q7_31, .ref q9_39, .ref q11_47, .ref q13_55, .ref q15_63, .null, .null, .null, .null, .int 0, .int 0, .int 0, .int 0, .int 0, .int 0, .null, .null, .int 0, .null, .null, .null, .int 0]), (q1_8, aI E 192 (fun _ => 0)), (q3_15, aZ E 2 (fun _ => 0)), (q5_23, aI E 8 (fun _ => 0)), (q7_31, aI E 8 (fun _ => 0)), (q9_39, aI E 12 (fun _ => 0)), (q11_47, aI E 12 (fun _ => 0)), (q13_55, aI E 12 (fun _ => 0)), (q15_63, aI E 12 (fun _ => 0))]) rfl fp_X11_32_10 rfl rfl rfl (Nat.le_of_ble_eq_true rfl) rfl dX11_init_65 ?_
  refine V.aload_n dX11_init_68 0 rfl ?_
  refine V.iconst (v := 2) dX11_init_69 (by decide) ?_
  refine V.newa (atype := .int) (N := 2) 0 w_62 rfl (fun _ => rfl) (by decide) (by decide) (by decide) (by decide) (by decide) dX11_init_70 (fun q17_70 hq17_70 => ?_)
  refine V.view (vw2 := [(o, ob 10 [.ref q1_8, .ref q3_15, .ref q5_23, .ref q7_31, .ref q9_39, .ref q11_47, .ref q13_55, .ref q15_63, .null, .null, .null, .null, .int 0, .int 0, .int 0, .int 0, .int 0, .int 0, .null, .null, .int 0, .null, .null, .null, .int 0]), (q1_8, aI E 192 (fun _ => 0)), (q3_15, aZ E 2 (fun _ => 0)), (q5_23, aI E 8 (fun _ => 0)), (q7_31, aI E 8 (fun _ => 0)), (q9_39, aI E 12 (fun _ => 0)), (q11_47, aI E 12 (fun _ => 0)), (q13_55, aI E 12 (fun _ => 0)), (q15_63, aI E 12 (fun _ => 0)), (q17_70, aI E 2 (fun _ => 0))]) (L2 := (L ++ [q1_8, q3_15, q5_23, q7_31, q9_39, q11_47, q13_55, q15_63, q17_70])) rfl (by rw [List.append_assoc]; rfl) ?_
  have fr18 : Fr L [q1_8, q3_15, q5_23, q7_31, q9_39, q11_47, q13_55, q15_63, q17_70] := Fr.one (fr16) (by simpa using hq17_70)
  refine V.putF 0 8 (vw2 := [(o, ob 10 [.ref q1_8, .ref q3_15, .ref q5_23, .ref q7_31, .ref q9_39, .ref q11_47, .ref q13_55, .ref q15_63, .ref q17_70, .null, .null, .null, .int 0, .int 0, .int 0, .int 0, .int 0, .int 0, .null, .null, .int 0, .null, .null, .null, .int 0]), (q1_8, aI E 192 (fun _ => 0)), (q3_15, aZ E 2 (fun _ => 0)), (q5_23, aI E 8 (fun _ => 0)), (q7_31, aI E 8 (fun _ => 0)), (q9_39, aI E 12 (fun _ => 0)), (q11_47, aI E 12 (fun _ => 0)), (q13_55, aI E 12 (fun _ => 0)), (q15_63, aI E 12 (fun _ => 0)), (q17_70, aI E 2 (fun _ => 0))]) rfl fp_X11_35_10 rfl rfl rfl (Nat.le_of_ble_eq_true rfl) rfl dX11_init_72 ?_
  refine V.aload_n dX11_init_75 0 rfl ?_
  refine V.iconst (v := 2) dX11_init_76 (by decide) ?_
  refine V.newa (atype := .int) (N := 2) 0 w_62 rfl (fun _ => rfl) (by decide) (by decide) (by decide) (by decide) (by decide) dX11_init_77 (fun q19_77 hq19_77 => ?_)
  refine V.view (vw2 := [(o, ob 10 [.ref q1_8, .ref q3_15, .ref q5_23, .ref q7_31, .ref q9_39, .ref q11_47, .ref q13_55, .ref q15_63, .ref q17_70, .null, .null, .null, .int 0, .int 0, .int 0, .int 0, .int 0, .int 0, .null, .null, .int 0, .null, .null, .null, .int 0]), (q1_8, aI E 192 (fun _ => 0)), (q3_15, aZ E 2 (fun _ => 0)), (q5_23, aI E 8 (fun _ => 0)), (q7_31, aI E 8 (fun _ => 0)), (q9_39, aI E 12 (fun _ => 0)), (q11_47, aI E 12 (fun _ => 0)), (q13_55, aI E 12 (fun _ => 0)), (q15_63, aI E 12 (fun _ => 0)), (q17_70, aI E 2 (fun _ => 0)), (q19_77, aI E 2 (fun _ => 0))]) (L2 := (L ++ [q1_8, q3_15, q5_23, q7_31, q9_39, q11_47, q13_55, q15_63, q17_70, q19_77])) rfl (by rw [List.append_assoc]; rfl) ?_
  have fr20 : Fr L [q1_8, q3_15, q5_23, q7_31, q9_39, q11_47, q13_55, q15_63, q17_70, q19_77] := Fr.one (fr18) (by simpa using hq19_77)
  refine V.putF 0 9 (vw2 := [(o, ob 10 [.ref q1_8, .ref q3_15, .ref q5_23, .ref q7_31, .ref q9_39, .ref q11_47, .ref q13_55, .ref q15_63, .ref q17_70, .ref q19_77, .null, .null, .int 0, .int 0, .int 0, .int 0, .int 0, .int 0, .null, .null, .int 0, .null, .null, .null, .int 0]), (q1_8, aI E 192 (fun _ => 0)), (q3_15, aZ E 2 (fun _ => 0)), (q5_23, aI E 8 (fun _ => 0)), (q7_31, aI E 8 (fun _ => 0)), (q9_39, aI E 12 (fun _ => 0)), (q11_47, aI E 12 (fun _ => 0)), (q13_55, aI E 12 (fun _ => 0)), (q15_63, aI E 12 (fun _ => 0)), (q17_70, aI E 2 (fun _ => 0)), (q19_77, aI E 2 (fun _ => 0))]) rfl fp_X11_38_10 rfl rfl rfl (Nat.le_of_ble_eq_true rfl) rfl dX11_init_79 ?_
  refine V.aload_n dX11_init_82 0 rfl ?_
  refine V.iconst (v := 2) dX11_init_83 (by decide) ?_
  refine V.newa (atype := .int) (N := 2) 0 w_62 rfl (fun _ => rfl) (by decide) (by decide) (by decide) (by decide) (by decide) dX11_init_84 (fun q21_84 hq21_84 => ?_)
  refine V.view (vw2 := [(o, ob 10 [.ref q1_8, .ref q3_15, .ref q5_23, .ref q7_31, .ref q9_39, .ref q11_47, .ref q13_55, .ref q15_63, .ref q17_70, .ref q19_77, .null, .null, .int 0, .int 0, .int 0, .int 0, .int 0, .int 0, .null, .null, .int 0, .null, .null, .null, .int 0]), (q1_8, aI E 192 (fun _ => 0)), (q3_15, aZ E 2 (fun _ => 0)), (q5_23, aI E 8 (fun _ => 0)), (q7_31, aI E 8 (fun _ => 0)), (q9_39, aI E 12 (fun _ => 0)), (q11_47, aI E 12 (fun _ => 0)), (q13_55, aI E 12 (fun _ => 0)), (q15_63, aI E 12 (fun _ => 0)), (q17_70, aI E 2 (fun _ => 0)), (q19_77, aI E 2 (fun _ => 0)), (q21_84, aI E 2 (fun _ => 0))]) (L2 := (L ++ [q1_8, q3_15, q5_23, q7_31, q9_39, q11_47, q13_55, q15_63, q17_70, q19_77, q21_84])) rfl (by rw [List.append_assoc]; rfl) ?_
  have fr22 : Fr L [q1_8, q3_15, q5_23, q7_31, q9_39, q11_47, q13_55, q15_63, q17_70, q19_77, q21_84] := Fr.one (fr20) (by simpa using hq21_84)
  refine V.putF 0 10 (vw2 := [(o, ob 10 [.ref q1_8, .ref q3_15, .ref q5_23, .ref q7_31, .ref q9_39, .ref q11_47, .ref q13_55, .ref q15_63, .ref q17_70, .ref q19_77, .ref q21_84, .null, .int 0, .int 0, .int 0, .int 0, .int 0, .int 0, .null, .null, .int 0, .null, .null, .null, .int 0]), (q1_8, aI E 192 (fun _ => 0)), (q3_15, aZ E 2 (fun _ => 0)), (q5_23, aI E 8 (fun _ => 0)), (q7_31, aI E 8 (fun _ => 0)), (q9_39, aI E 12 (fun _ => 0)), (q11_47, aI E 12 (fun _ => 0)), (q13_55, aI E 12 (fun _ => 0)), (q15_63, aI E 12 (fun _ => 0)), (q17_70, aI E 2 (fun _ => 0)), (q19_77, aI E 2 (fun _ => 0)), (q21_84, aI E 2 (fun _ => 0))]) rfl fp_X11_41_10 rfl rfl rfl (Nat.le_of_ble_eq_true rfl) rfl dX11_init_86 ?_
  refine V.aload_n dX11_init_89 0 rfl ?_
  refine V.sipush (v := 160) dX11_init_90 (by decide) ?_
  refine V.newa (atype := .int) (N := 160) 0 w_62 rfl (fun _ => rfl) (by decide) (by decide) (by decide) (by decide) (by decide) dX11_init_93 (fun q23_93 hq23_93 => ?_)
  refine V.view (vw2 := [(o, ob 10 [.ref q1_8, .ref q3_15, .ref q5_23, .ref q7_31, .ref q9_39, .ref q11_47, .ref q13_55, .ref q15_63, .ref q17_70, .ref q19_77, .ref q21_84, .null, .int 0, .int 0, .int 0, .int 0, .int 0, .int 0, .null, .null, .int 0, .null, .null, .null, .int 0]), (q1_8, aI E 192 (fun _ => 0)), (q3_15, aZ E 2 (fun _ => 0)), (q5_23, aI E 8 (fun _ => 0)), (q7_31, aI E 8 (fun _ => 0)), (q9_39, aI E 12 (fun _ => 0)), (q11_47, aI E 12 (fun _ => 0)), (q13_55, aI E 12 (fun _ => 0)), (q15_63, aI E 12 (fun _ => 0)), (q17_70, aI E 2 (fun _ => 0)), (q19_77, aI E 2 (fun _ => 0)), (q21_84, aI E 2 (fun _ => 0)), (q23_93, aI E 160 (fun _ => 0))]) (L2 := (L ++ [q1_8, q3_15, q5_23, q7_31, q9_39, q11_47, q13_55, q15_63, q17_70, q19_77, q21_84, q23_93])) rfl (by rw [List.append_assoc]; rfl) ?_
  have fr24 : Fr L [q1_8, q3_15, q5_23, q7_31, q9_39, q11_47, q13_55, q15_63, q17_70, q19_77, q21_84, q23_93] := Fr.one (fr22) (by simpa using hq23_93)
  refine V.putF 0 11 (vw2 := [(o, ob 10 [.ref q1_8, .ref q3_15, .ref q5_23, .ref q7_31, .ref q9_39, .ref q11_47, .ref q13_55, .ref q15_63, .ref q17_70, .ref q19_77, .ref q21_84, .ref q23_93, .int 0, .int 0, .int 0, .int 0, .int 0, .int 0, .null, .null, .int 0, .null, .null, .null, .int 0]), (q1_8, aI E 192 (fun _ => 0)), (q3_15, aZ E 2 (fun _ => 0)), (q5_23, aI E 8 (fun _ => 0)), (q7_31, aI E 8 (fun _ => 0)), (q9_39, aI E 12 (fun _ => 0)), (q11_47, aI E 12 (fun _ => 0)), (q13_55, aI E 12 (fun _ => 0)), (q15_63, aI E 12 (fun _ => 0)), (q17_70, aI E 2 (fun _ => 0)), (q19_77, aI E 2 (fun _ => 0)), (q21_84, aI E 2 (fun _ => 0)), (q23_93, aI E 160 (fun _ => 0))]) rfl fp_X11_44_10 rfl rfl rfl (Nat.le_of_ble_eq_true rfl) rfl dX11_init_95 ?_
  refine V.aload_n dX11_init_98 0 rfl ?_
  refine V.bipush (v := 6) dX11_init_99 (by decide) ?_
  refine V.newa (atype := .int) (N := 6) 0 w_62 rfl (fun _ => rfl) (by decide) (by decide) (by decide) (by decide) (by decide) dX11_init_101 (fun q25_101 hq25_101 => ?_)
  refine V.view (vw2 := [(o, ob 10 [.ref q1_8, .ref q3_15, .ref q5_23, .ref q7_31, .ref q9_39, .ref q11_47, .ref q13_55, .ref q15_63, .ref q17_70, .ref q19_77, .ref q21_84, .ref q23_93, .int 0, .int 0, .int 0, .int 0, .int 0, .int 0, .null, .null, .int 0, .null, .null, .null, .int 0]), (q1_8, aI E 192 (fun _ => 0)), (q3_15, aZ E 2 (fun _ => 0)), (q5_23, aI E 8 (fun _ => 0)), (q7_31, aI E 8 (fun _ => 0)), (q9_39, aI E 12 (fun _ => 0)), (q11_47, aI E 12 (fun _ => 0)), (q13_55, aI E 12 (fun _ => 0)), (q15_63, aI E 12 (fun _ => 0)), (q17_70, aI E 2 (fun _ => 0)), (q19_77, aI E 2 (fun _ => 0)), (q21_84, aI E 2 (fun _ => 0)), (q23_93, aI E 160 (fun _ => 0)), (q25_101, aI E 6 (fun _ => 0))]) (L2 := (L ++ [q1_8, q3_15, q5_23, q7_31, q9_39, q11_47, q13_55, q15_63, q17_70, q19_77, q21_84, q23_93, q25_101])) rfl (by rw [List.append_assoc]; rfl) ?_
  have fr26 : Fr L [q1_8, q3_15, q5_23, q7_31, q9_39, q11_47, q13_55, q15_63, q17_70, q19_77, q21_84, q23_93, q25_101] := Fr.one (fr24) (by simpa using hq25_101)
  refine V.putF 0 18 (vw2 := [(o, ob 10 [.ref q1_8, .ref q3_15, .ref q5_23, .ref q7_31, .ref q9_39, .ref q11_47, .ref q13_55, .ref q15_63, .ref q17_70, .ref q19_77, .ref q21_84, .ref q23_93, .int 0, .int 0, .int 0, .int 0, .int 0, .int 0, .ref q25_101, .null, .int 0, .null, .null, .null, .int 0]), (q1_8, aI E 192 (fun _ => 0)), (q3_15, aZ E 2 (fun _ => 0)), (q5_23, aI E 8 (fun _ => 0)), (q7_31, aI E 8 (fun _ => 0)), (q9_39, aI E 12 (fun _ => 0)), (q11_47, aI E 12 (fun _ => 0)), (q13_55, aI E 12 (fun _ => 0)), (q15_63, aI E 12 (fun _ => 0)), (q17_70, aI E 2 (fun _ => 0)), (q19_77, aI E 2 (fun _ => 0)), (q21_84, aI E 2 (fun _ => 0)), (q23_93, aI E 160 (fun _ => 0)), (q25_101, aI E 6 (fun _ => 0))]) rfl fp_X11_47_10 rfl rfl rfl (Nat.le_of_ble_eq_true rfl) rfl dX11_init_103 ?_
  refine V.aload_n dX11_init_106 0 rfl ?_
  refine V.bipush (v := 6) dX11_init_107 (by decide) ?_
  refine V.newa (atype := .int) (N := 6) 0 w_62 rfl (fun _ => rfl) (by decide) (by decide) (by decide) (by decide) (by decide) dX11_init_109 (fun q27_109 hq27_109 => ?_)
  refine V.view (vw2 := [(o, ob 10 [.ref q1_8, .ref q3_15, .ref q5_23, .ref q7_31, .ref q9_39, .ref q11_47, .ref q13_55, .ref q15_63, .ref q17_70, .ref q19_77, .ref q21_84, .ref q23_93, .int 0, .int 0, .int 0, .int 0, .int 0, .int 0, .ref q25_101, .null, .int 0, .null, .null, .null, .int 0]), (q1_8, aI E 192 (fun _ => 0)), (q3_15, aZ E 2 (fun _ => 0)), (q5_23, aI E 8 (fun _ => 0)), (q7_31, aI E 8 (fun _ => 0)), (q9_39, aI E 12 (fun _ => 0)), (q11_47, aI E 12 (fun _ => 0)), (q13_55, aI E 12 (fun _ => 0)), (q15_63, aI E 12 (fun _ => 0)), (q17_70, aI E 2 (fun _ => 0)), (q19_77, aI E 2 (fun _ => 0)), (q21_84, aI E 2 (fun _ => 0)), (q23_93, aI E 160 (fun _ => 0)), (q25_101, aI E 6 (fun _ => 0)), (q27_109, aI E 6 (fun _ => 0))]) (L2 := (L ++ [q1_8, q3_15, q5_23, q7_31, q9_39, q11_47, q13_55, q15_63, q17_70, q19_77, q21_84, q23_93, q25_101, q27_109])) rfl (by rw [List.append_assoc]; rfl) ?_
  have fr28 : Fr L [q1_8, q3_15, q5_23, q7_31, q9_39, q11_47, q13_55, q15_63, q17_70, q19_77, q21_84, q23_93, q25_101, q27_109] := Fr.one (fr26) (by simpa using hq27_109)
  refine V.putF 0 19 (vw2 := [(o, ob 10 [.ref q1_8, .ref q3_15, .ref q5_23, .ref q7_31, .ref q9_39, .ref q11_47, .ref q13_55, .ref q15_63, .ref q17_70, .ref q19_77, .ref q21_84, .ref q23_93, .int 0, .int 0, .int 0, .int 0, .int 0, .int 0, .ref q25_101, .ref q27_109, .int 0, .null, .null, .null, .int 0]), (q1_8, aI E 192 (fun _ => 0)), (q3_15, aZ E 2 (fun _ => 0)), (q5_23, aI E 8 (fun _ => 0)), (q7_31, aI E 8 (fun _ => 0)), (q9_39, aI E 12 (fun _ => 0)), (q11_47, aI E 12 (fun _ => 0)), (q13_55, aI E 12 (fun _ => 0)), (q15_63, aI E 12 (fun _ => 0)), (q17_70, aI E 2 (fun _ => 0)), (q19_77, aI E 2 (fun _ => 0)), (q21_84, aI E 2 (fun _ => 0)), (q23_93, aI E 160 (fun _ => 0)), (q25_101, aI E 6 (fun _ => 0)), (q27_109, aI E 6 (fun _ => 0))]) rfl fp_X11_50_10 rfl rfl rfl (Nat.le_of_ble_eq_true rfl) rfl dX11_init_111 ?_
  refine V.aload_n dX11_init_114 0 rfl ?_
  refine V.bipush (v := 6) dX11_init_115 (by decide) ?_
  refine V.newa (atype := .int) (N := 6) 0 w_62 rfl (fun _ => rfl) (by decide) (by decide) (by decide) (by decide) (by decide) dX11_init_117 (fun q29_117 hq29_117 => ?_)
  refine V.view (vw2 := [(o, ob 10 [.ref q1_8, .ref q3_15, .ref q5_23, .ref q7_31, .ref q9_39, .ref q11_47, .ref q13_55, .ref q15_63, .ref q17_70, .ref q19_77, .ref q21_84, .ref q23_93, .int 0, .int 0, .int 0, .int 0, .int 0, .int 0, .ref q25_101, .ref q27_109, .int 0, .null, .null, .null, .int 0]), (q1_8, aI E 192 (fun _ => 0)), (q3_15, aZ E 2 (fun _ => 0)), (q5_23, aI E 8 (fun _ => 0)), (q7_31, aI E 8 (fun _ => 0)), (q9_39, aI E 12 (fun _ => 0)), (q11_47, aI E 12 (fun _ => 0)), (q13_55, aI E 12 (fun _ => 0)), (q15_63, aI E 12 (fun _ => 0)), (q17_70, aI E 2 (fun _ => 0)), (q19_77, aI E 2 (fun _ => 0)), (q21_84, aI E 2 (fun _ => 0)), (q23_93, aI E 160 (fun _ => 0)), (q25_101, aI E 6 (fun _ => 0)), (q27_109, aI E 6 (fun _ => 0)), (q29_117, aI E 6 (fun _ => 0))]) (L2 := (L ++ [q1_8, q3_15, q5_23, q7_31, q9_39, q11_47, q13_55, q15_63, q17_70, q19_77, q21_84, q23_93, q25_101, q27_109, q29_117])) rfl (by rw [List.append_assoc]; rfl) ?_
  have fr30 : Fr L [q1_8, q3_15, q5_23, q7_31, q9_39, q11_47, q13_55, q15_63, q17_70, q19_77, q21_84, q23_93, q25_101, q27_109, q29_117] := Fr.one (fr28) (by simpa using hq29_117)
  refine V.putF 0 21 (vw2 := [(o, ob 10 [.ref q1_8, .ref q3_15, .ref q5_23, .ref q7_31, .ref q9_39, .ref q11_47, .ref q13_55, .ref q15_63, .ref q17_70, .ref q19_77, .ref q21_84, .ref q23_93, .int 0, .int 0, .int 0, .int 0, .int 0, .int 0, .ref q25_101, .ref q27_109, .int 0, .ref q29_117, .null, .null, .int 0]), (q1_8, aI E 192 (fun _ => 0)), (q3_15, aZ E 2 (fun _ => 0)), (q5_23, aI E 8 (fun _ => 0)), (q7_31, aI E 8 (fun _ => 0)), (q9_39, aI E 12 (fun _ => 0)), (q11_47, aI E 12 (fun _ => 0)), (q13_55, aI E 12 (fun _ => 0)), (q15_63, aI E 12 (fun _ => 0)), (q17_70, aI E 2 (fun _ => 0)), (q19_77, aI E 2 (fun _ => 0)), (q21_84, aI E 2 (fun _ => 0)), (q23_93, aI E 160 (fun _ => 0)), (q25_101, aI E 6 (fun _ => 0)), (q27_109, aI E 6 (fun _ => 0)), (q29_117, aI E 6 (fun _ => 0))]) rfl fp_X11_53_10 rfl rfl rfl (Nat.le_of_ble_eq_true rfl) rfl dX11_init_119 ?_
  refine V.aload_n dX11_init_122 0 rfl ?_
  refine V.bipush (v := 6) dX11_init_123 (by decide) ?_
  refine V.newa (atype := .int) (N := 6) 0 w_62 rfl (fun _ => rfl) (by decide) (by decide) (by decide) (by decide) (by decide) dX11_init_125 (fun q31_125 hq31_125 => ?_)
  refine V.view (vw2 := [(o, ob 10 [.ref q1_8, .ref q3_15, .ref q5_23, .ref q7_31, .ref q9_39, .ref q11_47, .ref q13_55, .ref q15_63, .ref q17_70, .ref q19_77, .ref q21_84, .ref q23_93, .int 0, .int 0, .int 0, .int 0, .int 0, .int 0, .ref q25_101, .ref q27_109, .int 0, .ref q29_117, .null, .null, .int 0]), (q1_8, aI E 192 (fun _ => 0)), (q3_15, aZ E 2 (fun _ => 0)), (q5_23, aI E 8 (fun _ => 0)), (q7_31, aI E 8 (fun _ => 0)), (q9_39, aI E 12 (fun _ => 0)), (q11_47, aI E 12 (fun _ => 0)), (q13_55, aI E 12 (fun _ => 0)), (q15_63, aI E 12 (fun _ => 0)), (q17_70, aI E 2 (fun _ => 0)), (q19_77, aI E 2 (fun _ => 0)), (q21_84, aI E 2 (fun _ => 0)), (q23_93, aI E 160 (fun _ => 0)), (q25_101, aI E 6 (fun _ => 0)), (q27_109, aI E 6 (fun _ => 0)), (q29_117, aI E 6 (fun _ => 0)), (q31_125, aI E 6 (fun _ => 0))]) (L2 := (L ++ [q1_8, q3_15, q5_23, q7_31, q9_39, q11_47, q13_55, q15_63, q17_70, q19_77, q21_84, q23_93, q25_101, q27_109, q29_117, q31_125])) rfl (by rw [List.append_assoc]; rfl) ?_
  have fr32 : Fr L [q1_8, q3_15, q5_23, q7_31, q9_39, q11_47, q13_55, q15_63, q17_70, q19_77, q21_84, q23_93, q25_101, q27_109, q29_117, q31_125] := Fr.one (fr30) (by simpa using hq31_125)
  refine V.putF 0 22 (vw2 := [(o, ob 10 [.ref q1_8, .ref q3_15, .ref q5_23, .ref q7_31, .ref q9_39, .ref q11_47, .ref q13_55, .ref q15_63, .ref q17_70, .ref q19_77, .ref q21_84, .ref q23_93, .int 0, .int 0, .int 0, .int 0, .int 0, .int 0, .ref q25_101, .ref q27_109, .int 0, .ref q29_117, .ref q31_125, .null, .int 0]), (q1_8, aI E 192 (fun _ => 0)), (q3_15, aZ E 2 (fun _ => 0)), (q5_23, aI E 8 (fun _ => 0)), (q7_31, aI E 8 (fun _ => 0)), (q9_39, aI E 12 (fun _ => 0)), (q11_47, aI E 12 (fun _ => 0)), (q13_55, aI E 12 (fun _ => 0)), (q15_63, aI E 12 (fun _ => 0)), (q17_70, aI E 2 (fun _ => 0)), (q19_77, aI E 2 (fun _ => 0)), (q21_84, aI E 2 (fun _ => 0)), (q23_93, aI E 160 (fun _ => 0)), (q25_101, aI E 6 (fun _ => 0)), (q27_109, aI E 6 (fun _ => 0)), (q29_117, aI E 6 (fun _ => 0)), (q31_125, aI E 6 (fun _ => 0))]) rfl fp_X11_56_10 rfl rfl rfl (Nat.le_of_ble_eq_true rfl) rfl dX11_init_127 ?_
  refine V.aload_n dX11_init_130 0 rfl ?_
  refine V.bipush (v := 6) dX11_init_131 (by decide) ?_
  refine V.newa (atype := .int) (N := 6) 0 w_62 rfl (fun _ => rfl) (by decide) (by decide) (by decide) (by decide) (by decide) dX11_init_133 (fun q33_133 hq33_133 => ?_)
  refine V.view (vw2 := [(o, ob 10 [.ref q1_8, .ref q3_15, .ref q5_23, .ref q7_31, .ref q9_39, .ref q11_47, .ref q13_55, .ref q15_63, .ref q17_70, .ref q19_77, .ref q21_84, .ref q23_93, .int 0, .int 0, .int 0, .int 0, .int 0, .int 0, .ref q25_101, .ref q27_109, .int 0, .ref q29_117, .ref q31_125, .null, .int 0]), (q1_8, aI E 192 (fun _ => 0)), (q3_15, aZ E 2 (fun _ => 0)), (q5_23, aI E 8 (fun _ => 0)), (q7_31, aI E 8 (fun _ => 0)), (q9_39, aI E 12 (fun _ => 0)), (q11_47, aI E 12 (fun _ => 0)), (q13_55, aI E 12 (fun _ => 0)), (q15_63, aI E 12 (fun _ => 0)), (q17_70, aI E 2 (fun _ => 0)), (q19_77, aI E 2 (fun _ => 0)), (q21_84, aI E 2 (fun _ => 0)), (q23_93, aI E 160 (fun _ => 0)), (q25_101, aI E 6 (fun _ => 0)), (q27_109, aI E 6 (fun _ => 0)), (q29_117, aI E 6 (fun _ => 0)), (q31_125, aI E 6 (fun _ => 0)), (q33_133, aI E 6 (fun _ => 0))]) (L2 := (L ++ [q1_8, q3_15, q5_23, q7_31, q9_39, q11_47, q13_55, q15_63, q17_70, q19_77, q21_84, q23_93, q25_101, q27_109, q29_117, q31_125, q33_133])) rfl (by rw [List.append_assoc]; rfl) ?_
  have fr34 : Fr L [q1_8, q3_15, q5_23, q7_31, q9_39, q11_47, q13_55, q15_63, q17_70, q19_77, q21_84, q23_93, q25_101, q27_109, q29_117, q31_125, q33_133] := Fr.one (fr32) (by simpa using hq33_133)
  refine V.putF 0 23 (vw2 := [(o, ob 10 [.ref q1_8, .ref q3_15, .ref q5_23, .ref q7_31, .ref q9_39, .ref q11_47, .ref q13_55, .ref q15_63, .ref q17_70, .ref q19_77, .ref q21_84, .ref q23_93, .int 0, .int 0, .int 0, .int 0, .int 0, .int 0, .ref q25_101, .ref q27_109, .int 0, .ref q29_117, .ref q31_125, .ref q33_133, .int 0]), (q1_8, aI E 192 (fun _ => 0)), (q3_15, aZ E 2 (fun _ => 0)), (q5_23, aI E 8 (fun _ => 0)), (q7_31, aI E 8 (fun _ => 0)), (q9_39, aI E 12 (fun _ => 0)), (q11_47, aI E 12 (fun _ => 0)), (q13_55, aI E 12 (fun _ => 0)), (q15_63, aI E 12 (fun _ => 0)), (q17_70, aI E 2 (fun _ => 0)), (q19_77, aI E 2 (fun _ => 0)), (q21_84, aI E 2 (fun _ => 0)), (q23_93, aI E 160 (fun _ => 0)), (q25_101, aI E 6 (fun _ => 0)), (q27_109, aI E 6 (fun _ => 0)), (q29_117, aI E 6 (fun _ => 0)), (q31_125, aI E 6 (fun _ => 0)), (q33_133, aI E 6 (fun _ => 0))]) rfl fp_X11_59_10 rfl rfl rfl (Nat.le_of_ble_eq_true rfl) rfl dX11_init_135 ?_
  refine V.aload_n dX11_init_138 0 rfl ?_
  refine V.iconst (v := 0) dX11_init_139 (by decide) ?_
  refine V.callVp (As := [.int 0]) (rest := []) [0, 3, 4, 9, 10, 11] (c_M_asAtFirst_0 E l (L ++ [q1_8, q3_15, q5_23, q7_31, q9_39, q11_47, q13_55, q15_63, q17_70, q19_77, q21_84, q23_93, q25_101, q27_109, q29_117, q31_125, q33_133]) _ o q1_8 q3_15 q5_23 q7_31 q9_39 q11_47 q13_55 q15_63 q17_70 q19_77 q21_84 q23_93 q25_101 q27_109 q29_117 q31_125 q33_133 0 0 0 0 0 0 0 0 ((fun _ => 0)) ((fun _ => 0)) ((fun _ => 0)) ((fun _ => 0)) ((fun _ => 0))) rfl (by decide) mi_X11_asAtFirst 0 rfl rfl w_704 w_706 wp_7 rfl rfl (Nat.le_of_ble_eq_true rfl) ⟨by decide, by decide⟩ ⟨by decide, by decide⟩ dX11_init_140 (vw2 := fun _ => [(o, ob 10 [.ref q1_8, .ref q3_15, .ref q5_23, .ref q7_31, .ref q9_39, .ref q11_47, .ref q13_55, .ref q15_63, .ref q17_70, .ref q19_77, .ref q21_84, .ref q23_93, .int 0, .int 0, .int 0, .int 0, .int 0, .int 0, .ref q25_101, .ref q27_109, .int 0, .ref q29_117, .ref q31_125, .ref q33_133, .int 0]), (q1_8, aI E 192 (fun _ => 0)), (q3_15, aZ E 2 (fun _ => 0)), (q5_23, aI E 8 (putH 4 (fun _ => 0) 0 (fun _ => 4))), (q7_31, aI E 8 (putH 4 (fun _ => 0) 0 (fun _ => 1))), (q9_39, aI E 12 (fun _ => 0)), (q11_47, aI E 12 (fun _ => 0)), (q13_55, aI E 12 (fun _ => 0)), (q15_63, aI E 12 (fun _ => 0)), (q17_70, aI E 2 (upd (fun _ => 0) 0 0)), (q19_77, aI E 2 (upd (fun _ => 0) 0 10)), (q21_84, aI E 2 (upd (fun _ => 0) 0 60)), (q23_93, aI E 160 (fun _ => 0)), (q25_101, aI E 6 (fun _ => 0)), (q27_109, aI E 6 (fun _ => 0)), (q29_117, aI E 6 (fun _ => 0)), (q31_125, aI E 6 (fun _ => 0)), (q33_133, aI E 6 (fun _ => 0))]) (st2 := fun _ => []) (fun _ => rfl) (fun _ => rfl) (fun _ => rfl) (fun _ _ => ?_)
  refine V.aload_n dX11_init_143 0 rfl ?_
  refine V.getf 0 0 rfl fa_X11_7_10 rfl dX11_init_144 ?_
  refine V.bipush (v := 12) dX11_init_147 (by decide) ?_
  refine V.aload_n dX11_init_149 0 rfl ?_
  refine V.getf 0 10 rfl fa_X11_41_10 rfl dX11_init_150 ?_
  refine V.iconst (v := 0) dX11_init_153 (by decide) ?_
  refine V.iald 11 rfl (vin rfl) dX11_init_154 ?_
  refine V.topc (v := ((upd (fun _ => 0) 0 60) 0)) (rfl) ?_
  refine V.topc (v := 60) (by rfl) ?_
  refine V.iast (vw2 := [(o, ob 10 [.ref q1_8, .ref q3_15, .ref q5_23, .ref q7_31, .ref q9_39, .ref q11_47, .ref q13_55, .ref q15_63, .ref q17_70, .ref q19_77, .ref q21_84, .ref q23_93, .int 0, .int 0, .int 0, .int 0, .int 0, .int 0, .ref q25_101, .ref q27_109, .int 0, .ref q29_117, .ref q31_125, .ref q33_133, .int 0]), (q1_8, aI E 192 (upd (fun _ => 0) 12 60)), (q3_15, aZ E 2 (fun _ => 0)), (q5_23, aI E 8 (putH 4 (fun _ => 0) 0 (fun _ => 4))), (q7_31, aI E 8 (putH 4 (fun _ => 0) 0 (fun _ => 1))), (q9_39, aI E 12 (fun _ => 0)), (q11_47, aI E 12 (fun _ => 0)), (q13_55, aI E 12 (fun _ => 0)), (q15_63, aI E 12 (fun _ => 0)), (q17_70, aI E 2 (upd (fun _ => 0) 0 0)), (q19_77, aI E 2 (upd (fun _ => 0) 0 10)), (q21_84, aI E 2 (upd (fun _ => 0) 0 60)), (q23_93, aI E 160 (fun _ => 0)), (q25_101, aI E 6 (fun _ => 0)), (q27_109, aI E 6 (fun _ => 0)), (q29_117, aI E 6 (fun _ => 0)), (q31_125, aI E 6 (fun _ => 0)), (q33_133, aI E 6 (fun _ => 0))]) 1 rfl (vin rfl) (rfl) dX11_init_155 ?_
  obtain ⟨x, hx⟩ : ∃ x : Nat → Nat, x = (fun i => ([q1_8, q3_15, q5_23, q7_31, q9_39, q11_47, q13_55, q15_63, q17_70, q19_77, q21_84, q23_93, q25_101, q27_109, q29_117, q31_125, q33_133] : List Nat).getD i 0) := ⟨_, rfl⟩
  refine V.arrEq (vw2 := [(o, ob 10 [.ref q1_8, .ref q3_15, .ref q5_23, .ref q7_31, .ref q9_39, .ref q11_47, .ref q13_55, .ref q15_63, .ref q17_70, .ref q19_77, .ref q21_84, .ref q23_93, .int 0, .int 0, .int 0, .int 0, .int 0, .int 0, .ref q25_101, .ref q27_109, .int 0, .ref q29_117, .ref q31_125, .ref q33_133, .int 0]), (q1_8, aI E 192 (mW (va_up (fun _ => zRow) 0 ((fun _ => 0), ((fun _ => 0), 0, 0, 0, 60, 0, 0, 0))))), (q3_15, aZ E 2 (fun _ => 0)), (q5_23, aI E 8 (putH 4 (fun _ => 0) 0 (fun _ => 4))), (q7_31, aI E 8 (putH 4 (fun _ => 0) 0 (fun _ => 1))), (q9_39, aI E 12 (fun _ => 0)), (q11_47, aI E 12 (fun _ => 0)), (q13_55, aI E 12 (fun _ => 0)), (q15_63, aI E 12 (fun _ => 0)), (q17_70, aI E 2 (upd (fun _ => 0) 0 0)), (q19_77, aI E 2 (upd (fun _ => 0) 0 10)), (q21_84, aI E 2 (upd (fun _ => 0) 0 60)), (q23_93, aI E 160 (fun _ => 0)), (q25_101, aI E 6 (fun _ => 0)), (q27_109, aI E 6 (fun _ => 0)), (q29_117, aI E 6 (fun _ => 0)), (q31_125, aI E 6 (fun _ => 0)), (q33_133, aI E 6 (fun _ => 0))]) 1 0 rfl (fun j hj => by
    have h9 : upd (fun _ => 0) 12 60 j = upd (mW (fun _ => zRow)) (16 * 0 + 12) 60 j := by
      by_cases h8 : j = 12
      · rw [h8, pk_us]; exact pk_us.symm
      · rw [pk_un h8, pk_un (by omega)]; exact mW_z j
    rw [h9]
    exact mW_upd (R := zRow) rfl (by decide) (by rfl) (row_but (by rfl) (by rfl) (by first | exact Or.inl rfl | exact Or.inr rfl) (by first | exact Or.inl rfl | exact Or.inr rfl) (by first | exact Or.inl rfl | exact Or.inr rfl) (by first | exact Or.inl rfl | exact Or.inr rfl) (by first | exact Or.inl rfl | exact Or.inr rfl) (by first | exact Or.inl rfl | exact Or.inr rfl)) j) rfl ?_
  exact V.vret rfl dX11_init_156 (⟨x, rfl, by rw [hx]; rfl, by rw [hx]; rfl, by rw [hx]; exact fr34.1, by rw [hx]; exact fr34.2, trivial⟩)

set_option maxHeartbeats 4000000 in
set_option maxRecDepth 100000 in
theorem c_M_exchange (E : vEnv) (l : Launch) (L : List Nat) (h : Nat → va_E) (o : Nat) (mw : Nat) (mk : Nat) (mt : Nat) (mr : Nat) (mki : Nat) (mso : Nat) (mst : Nat) (mpr : Nat) (msh : Nat) (mwa : Nat) (mpu : Nat) (mtx : Nat) (mor : Nat) (mbo : Nat) (tO : Nat) (tVi : Nat) (tSm : Nat) (ts : Int32) (ma : Int32) (bg : Int32) (wr : Int32) (cl : Int32) (um : Int32) (mn : Int32) (tm : Int32) (ω : Nat → Nat) (i1 : Nat) (j1 : Nat) (hi : i1 < 6) (hj : j1 < 6) : CT E l yX11_exchange cX11_exchange 4 none 0 0 0 L h [(o, ob 10 [.ref mw, .ref mk, .ref mt, .ref mr, .ref mki, .ref mso, .ref mst, .ref mpr, .ref msh, .ref mwa, .ref mpu, .ref mtx, .int ts, .int ma, .int bg, .int wr, .int cl, .int um, .ref mor, .ref mbo, .int mn, .ref tO, .ref tVi, .ref tSm, .int tm]), (mor, aI E 6 (fun j => nI (ω j)))] [.ref o, .int (nI i1), .int (nI j1)] (qP L h (fun (_ : Unit) => [(o, ob 10 [.ref mw, .ref mk, .ref mt, .ref mr, .ref mki, .ref mso, .ref mst, .ref mpr, .ref msh, .ref mwa, .ref mpu, .ref mtx, .int ts, .int ma, .int bg, .int wr, .int cl, .int um, .ref mor, .ref mbo, .int mn, .ref tO, .ref tVi, .ref tSm, .int tm]), (mor, aI E 6 (fun j => nI ((swapR ω i1 j1) j)))]) (fun _ => none) (fun _ => True)) := by
  refine CT.ofV (by decide +kernel) (Nat.le_of_ble_eq_true rfl) ?_
  refine V.locals2 (lv2 := [(0, .ref o), (1, .int (nI i1)), (2, .int (nI j1))]) rfl ?_
  refine V.aload_n dX11_exchange_0 0 rfl ?_
  refine V.getf 0 18 rfl fa_X11_47_10 rfl dX11_exchange_1 ?_
  refine V.iload_n dX11_exchange_4 1 rfl ?_
  refine V.iald 1 rfl (vinI (by omega)) dX11_exchange_5 ?_
  refine V.topc (v := (nI (ω i1))) (by rw [nI_clamp (by omega)]) ?_
  refine V.istore_n (lv2 := [(3, .int (nI (ω i1))), (0, .ref o), (1, .int (nI i1)), (2, .int (nI j1))]) dX11_exchange_6 rfl (by decide) rfl ?_
  refine V.aload_n dX11_exchange_7 1 rfl ?_
  refine V.getf 0 18 rfl fa_X11_47_10 rfl dX11_exchange_8 ?_
  refine V.iload_n dX11_exchange_11 2 rfl ?_
  refine V.aload_n dX11_exchange_12 1 rfl ?_
  refine V.getf 0 18 rfl fa_X11_47_10 rfl dX11_exchange_13 ?_
  refine V.iload_n dX11_exchange_16 3 rfl ?_
  refine V.iald 1 rfl (vinI (by omega)) dX11_exchange_17 ?_
  refine V.topc (v := (nI (ω j1))) (by rw [nI_clamp (by omega)]) ?_
  refine V.iast (vw2 := [(o, ob 10 [.ref mw, .ref mk, .ref mt, .ref mr, .ref mki, .ref mso, .ref mst, .ref mpr, .ref msh, .ref mwa, .ref mpu, .ref mtx, .int ts, .int ma, .int bg, .int wr, .int cl, .int um, .ref mor, .ref mbo, .int mn, .ref tO, .ref tVi, .ref tSm, .int tm]), (mor, aI E 6 (upd (fun j => nI (ω j)) i1 (nI (ω j1))))]) 1 rfl (vinI (by omega)) (by rw [nI_clamp (by omega)] <;> rfl) dX11_exchange_18 ?_
  refine V.aload_n dX11_exchange_19 1 rfl ?_
  refine V.getf 0 18 rfl fa_X11_47_10 rfl dX11_exchange_20 ?_
  refine V.iload_n dX11_exchange_23 3 rfl ?_
  refine V.iload_n dX11_exchange_24 0 rfl ?_
  refine V.iast (vw2 := [(o, ob 10 [.ref mw, .ref mk, .ref mt, .ref mr, .ref mki, .ref mso, .ref mst, .ref mpr, .ref msh, .ref mwa, .ref mpu, .ref mtx, .int ts, .int ma, .int bg, .int wr, .int cl, .int um, .ref mor, .ref mbo, .int mn, .ref tO, .ref tVi, .ref tSm, .int tm]), (mor, aI E 6 (upd (upd (fun j => nI (ω j)) i1 (nI (ω j1))) j1 (nI (ω i1))))]) 1 rfl (vinI (by omega)) (by rw [nI_clamp (by omega)] <;> rfl) dX11_exchange_25 ?_
  refine V.arrEq (vw2 := [(o, ob 10 [.ref mw, .ref mk, .ref mt, .ref mr, .ref mki, .ref mso, .ref mst, .ref mpr, .ref msh, .ref mwa, .ref mpu, .ref mtx, .int ts, .int ma, .int bg, .int wr, .int cl, .int um, .ref mor, .ref mbo, .int mn, .ref tO, .ref tVi, .ref tSm, .int tm]), (mor, aI E 6 (fun j => nI (swapR ω i1 j1 j)))]) 1 0 rfl (fun x _ => by simp only [swapR, upd, va_up]; (repeat' split) <;> rfl) rfl ?_
  exact V.vret rfl dX11_exchange_26 (⟨(), rfl, rfl, rfl, trivial⟩)

set_option maxHeartbeats 4000000 in
set_option maxRecDepth 100000 in
theorem c_M_firstOrder (E : vEnv) (l : Launch) (L : List Nat) (h : Nat → va_E) (o : Nat) (mw : Nat) (mk : Nat) (mt : Nat) (mr : Nat) (mki : Nat) (mso : Nat) (mst : Nat) (mpr : Nat) (msh : Nat) (mwa : Nat) (mpu : Nat) (mtx : Nat) (mor : Nat) (mbo : Nat) (tO : Nat) (tVi : Nat) (tSm : Nat) (ts : Int32) (ma : Int32) (bg : Int32) (wr : Int32) (cl : Int32) (um : Int32) (tm : Int32) (Sh : Nat → Int32) (m : Nat) (ω : Nat → Nat) (x : Int32) (mn : Int32) (eM : Sh 0 = nI m) (hm : m ≤ 6) : CT E l yX11_firstOrder cX11_firstOrder 3 (some (.boolean)) 1 0 0 L h [(o, ob 10 [.ref mw, .ref mk, .ref mt, .ref mr, .ref mki, .ref mso, .ref mst, .ref mpr, .ref msh, .ref mwa, .ref mpu, .ref mtx, .int ts, .int ma, .int bg, .int wr, .int cl, .int um, .ref mor, .ref mbo, .int mn, .ref tO, .ref tVi, .ref tSm, .int tm]), (msh, aI E 2 Sh), (mor, aI E 6 (fun j => nI (ω j)))] [.ref o, .int x] (qP L h (fun (_ : Unit) => [(o, ob 10 [.ref mw, .ref mk, .ref mt, .ref mr, .ref mki, .ref mso, .ref mst, .ref mpr, .ref msh, .ref mwa, .ref mpu, .ref mtx, .int ts, .int ma, .int bg, .int wr, .int cl, .int um, .ref mor, .ref mbo, .int (nI (fillW x ω m).1), .ref tO, .ref tVi, .ref tSm, .int tm]), (msh, aI E 2 Sh), (mor, aI E 6 (fun j => nI ((fillW x ω m).2 j)))]) (fun _ => some (.int 1)) (fun _ => True)) := by
  refine CT.ofV (by decide +kernel) (Nat.le_of_ble_eq_true rfl) ?_
  obtain ⟨Z, hZ⟩ : ∃ Z, Z = mZ E (qP L h (fun (_ : Unit) => [(o, ob 10 [.ref mw, .ref mk, .ref mt, .ref mr, .ref mki, .ref mso, .ref mst, .ref mpr, .ref msh, .ref mwa, .ref mpu, .ref mtx, .int ts, .int ma, .int bg, .int wr, .int cl, .int um, .ref mor, .ref mbo, .int (nI (fillW x ω m).1), .ref tO, .ref tVi, .ref tSm, .int tm]), (msh, aI E 2 Sh), (mor, aI E 6 (fun j => nI ((fillW x ω m).2 j)))]) (fun _ => some (.int 1)) (fun _ => True)) 0 0 := ⟨_, rfl⟩
  rw [← hZ]
  refine V.locals2 (lv2 := [(0, .ref o), (1, .int x)]) rfl ?_
  refine V.aload_n dX11_firstOrder_0 0 rfl ?_
  refine V.iconst (v := 0) dX11_firstOrder_1 (by decide) ?_
  refine V.putf 0 20 (vw2 := [(o, ob 10 [.ref mw, .ref mk, .ref mt, .ref mr, .ref mki, .ref mso, .ref mst, .ref mpr, .ref msh, .ref mwa, .ref mpu, .ref mtx, .int ts, .int ma, .int bg, .int wr, .int cl, .int um, .ref mor, .ref mbo, .int 0, .ref tO, .ref tVi, .ref tSm, .int tm]), (msh, aI E 2 Sh), (mor, aI E 6 (fun j => nI (ω j)))]) rfl fp_X11_188_10 rfl rfl (Nat.le_of_ble_eq_true rfl) rfl dX11_firstOrder_2 ?_
  refine V.iconst (v := 0) dX11_firstOrder_5 (by decide) ?_
  refine V.istore_n (lv2 := [(2, .int 0), (0, .ref o), (1, .int x)]) dX11_firstOrder_6 rfl (by decide) rfl ?_
  refine V.locals [1, 2, 0] (by rfl) ?_
  have lp_7 : ∀ (fuel : Nat) (k : Nat) (hkm : k ≤ m) (hf : m < k + fuel), V E l yX11_firstOrder cX11_firstOrder 3 (some (.boolean)) (rmk 1 0 0) Z L h 0 0 [(o, ob 10 [.ref mw, .ref mk, .ref mt, .ref mr, .ref mki, .ref mso, .ref mst, .ref mpr, .ref msh, .ref mwa, .ref mpu, .ref mtx, .int ts, .int ma, .int bg, .int wr, .int cl, .int um, .ref mor, .ref mbo, .int (nI (fillW x ω k).1), .ref tO, .ref tVi, .ref tSm, .int tm]), (msh, aI E 2 Sh), (mor, aI E 6 (fun j => nI ((fillW x ω k).2 j)))] 7 [(0, .ref o), (1, .int x), (2, .int (nI k))] [] := by
    intro fuel
    induction fuel with
    | zero =>
      intro k hkm hf
      exfalso; omega
    | succ fuel ih_7 =>
      intro k hkm hf
      refine V.iload_n dX11_firstOrder_7 2 rfl ?_
      refine V.aload_n dX11_firstOrder_8 0 rfl ?_
      refine V.getf 0 8 rfl fa_X11_35_10 rfl dX11_firstOrder_9 ?_
      refine V.iconst (v := 0) dX11_firstOrder_12 (by decide) ?_
      refine V.iald 1 rfl (vin rfl) dX11_firstOrder_13 ?_
      refine V.topc (v := (Sh 0)) (rfl) ?_
      refine V.topc (v := (nI m)) (eM) ?_
      refine V.icmp_ge (tgt := 51) dX11_firstOrder_14 (by decide) (fun c1_14 => ?_) (fun c1_14 => ?_)
      · skip
        have hxc1_14 : m ≤ k := (nI_leI (a := m) (by omega) (by omega)).mp c1_14
        have hqc1_14 : k = m := by omega
        refine V.iconst (v := 1) dX11_firstOrder_51 (by decide) ?_
        subst hZ
        exact V.zret rfl (rfl) dX11_firstOrder_52 (⟨(), rfl, rfl, by rw [← hqc1_14], trivial⟩)
      · skip
        have hxc1_14 : k < m := Nat.lt_of_not_le (fun hh => c1_14 (nI_le (a := m) hh (by omega)))
        refine V.iload_n dX11_firstOrder_17 1 rfl ?_
        refine V.iload_n dX11_firstOrder_18 2 rfl ?_
        refine V.callSp (As := [.int x, .int (nI k)]) (rest := []) [] (c_M_has E l L _ x k) rfl (by decide) mi_X11_has w_864 w_865 rfl rfl (Nat.le_of_ble_eq_true rfl) ⟨by decide, by decide⟩ ⟨by decide, by decide⟩ dX11_firstOrder_19 (vw2 := fun _ => [(o, ob 10 [.ref mw, .ref mk, .ref mt, .ref mr, .ref mki, .ref mso, .ref mst, .ref mpr, .ref msh, .ref mwa, .ref mpu, .ref mtx, .int ts, .int ma, .int bg, .int wr, .int cl, .int um, .ref mor, .ref mbo, .int (nI (fillW x ω k).1), .ref tO, .ref tVi, .ref tSm, .int tm]), (msh, aI E 2 Sh), (mor, aI E 6 (fun j => nI ((fillW x ω k).2 j)))]) (st2 := fun _ => [.int (boolI (hasI x k))]) (fun _ => rfl) (fun _ => rfl) (fun _ => rfl) (fun _ _ => ?_)
        refine V.if_eq (tgt := 45) dX11_firstOrder_22 (by decide) (fun c2_22 => ?_) (fun c2_22 => ?_)
        · skip
          have hfe : fillW x ω (k + 1) = fillW x ω k := by rw [fillW, if_neg (has_in.mp c2_22)]
          rw [← hfe]
          refine V.iinc (v := (nI (k + 1))) (lv2 := [(2, .int (nI (k + 1))), (0, .ref o), (1, .int x)]) dX11_firstOrder_45 2 rfl (nI_1 _) (by decide) rfl ?_
          refine V.goto (tgt := 7) dX11_firstOrder_48 (by decide) ?_
          refine V.locals [1, 2, 0] (by rfl) ?_
          exact ih_7 (k + 1) (by omega) (by omega)
        · skip
          have hbit : (x >>> (nI k &&& 31)) &&& 1 = 1 := Classical.byContradiction (fun h9 => c2_22 (has_in.mpr h9))
          have hfl : (fillW x ω k).1 ≤ k := fillW_le _ _ _
          refine V.aload_n dX11_firstOrder_25 0 rfl ?_
          refine V.getf 0 18 rfl fa_X11_47_10 rfl dX11_firstOrder_26 ?_
          refine V.aload_n dX11_firstOrder_29 0 rfl ?_
          refine V.getf 0 20 rfl fa_X11_188_10 rfl dX11_firstOrder_30 ?_
          refine V.iload_n dX11_firstOrder_33 2 rfl ?_
          refine V.iast (vw2 := [(o, ob 10 [.ref mw, .ref mk, .ref mt, .ref mr, .ref mki, .ref mso, .ref mst, .ref mpr, .ref msh, .ref mwa, .ref mpu, .ref mtx, .int ts, .int ma, .int bg, .int wr, .int cl, .int um, .ref mor, .ref mbo, .int (nI (fillW x ω k).1), .ref tO, .ref tVi, .ref tSm, .int tm]), (msh, aI E 2 Sh), (mor, aI E 6 (upd (fun j => nI ((fillW x ω k).2 j)) (fillW x ω k).1 (nI k)))]) 2 rfl (vinI (by omega)) (by rw [nI_clamp (by omega)] <;> rfl) dX11_firstOrder_34 ?_
          refine V.arrEq (vw2 := [(o, ob 10 [.ref mw, .ref mk, .ref mt, .ref mr, .ref mki, .ref mso, .ref mst, .ref mpr, .ref msh, .ref mwa, .ref mpu, .ref mtx, .int ts, .int ma, .int bg, .int wr, .int cl, .int um, .ref mor, .ref mbo, .int (nI (fillW x ω k).1), .ref tO, .ref tVi, .ref tSm, .int tm]), (msh, aI E 2 Sh), (mor, aI E 6 (fun j => nI ((fillW x ω (k + 1)).2 j)))]) 2 0 rfl (fun j _ => by rw [fillW, if_pos hbit]; show upd _ _ _ _ = nI (va_up _ _ _ _); simp only [upd, va_up]; split <;> rfl) rfl ?_
          refine V.aload_n dX11_firstOrder_35 0 rfl ?_
          refine V.dup dX11_firstOrder_36 rfl ?_
          refine V.getf 0 20 rfl fa_X11_188_10 rfl dX11_firstOrder_37 ?_
          refine V.iconst (v := 1) dX11_firstOrder_40 (by decide) ?_
          refine V.iadd dX11_firstOrder_41 ?_
          refine V.topc (v := (nI (fillW x ω (k + 1)).1)) (by rw [fillW, if_pos hbit]; exact nI_1 _) ?_
          refine V.putf 0 20 (vw2 := [(o, ob 10 [.ref mw, .ref mk, .ref mt, .ref mr, .ref mki, .ref mso, .ref mst, .ref mpr, .ref msh, .ref mwa, .ref mpu, .ref mtx, .int ts, .int ma, .int bg, .int wr, .int cl, .int um, .ref mor, .ref mbo, .int (nI (fillW x ω (k + 1)).1), .ref tO, .ref tVi, .ref tSm, .int tm]), (msh, aI E 2 Sh), (mor, aI E 6 (fun j => nI ((fillW x ω (k + 1)).2 j)))]) rfl fp_X11_188_10 rfl rfl (Nat.le_of_ble_eq_true rfl) rfl dX11_firstOrder_42 ?_
          refine V.iinc (v := (nI (k + 1))) (lv2 := [(2, .int (nI (k + 1))), (0, .ref o), (1, .int x)]) dX11_firstOrder_45 2 rfl (nI_1 _) (by decide) rfl ?_
          refine V.goto (tgt := 7) dX11_firstOrder_48 (by decide) ?_
          refine V.locals [1, 2, 0] (by rfl) ?_
          exact ih_7 (k + 1) (by omega) (by omega)
  exact lp_7 (m + 1) 0 (Nat.zero_le _) (by omega)

set_option maxHeartbeats 4000000 in
set_option maxRecDepth 100000 in
theorem c_M_next0 (E : vEnv) (l : Launch) (L : List Nat) (h : Nat → va_E) (o : Nat) (mw : Nat) (mk : Nat) (mt : Nat) (mr : Nat) (mki : Nat) (mso : Nat) (mst : Nat) (mpr : Nat) (msh : Nat) (mwa : Nat) (mpu : Nat) (mtx : Nat) (mor : Nat) (mbo : Nat) (tO : Nat) (tVi : Nat) (tSm : Nat) (ts : Int32) (ma : Int32) (bg : Int32) (wr : Int32) (cl : Int32) (um : Int32) (tm : Int32) (ω : Nat → Nat) : CT E l yX11_nextOrder cX11_nextOrder 5 (some (.boolean)) 1 0 0 L h [(o, ob 10 [.ref mw, .ref mk, .ref mt, .ref mr, .ref mki, .ref mso, .ref mst, .ref mpr, .ref msh, .ref mwa, .ref mpu, .ref mtx, .int ts, .int ma, .int bg, .int wr, .int cl, .int um, .ref mor, .ref mbo, .int 0, .ref tO, .ref tVi, .ref tSm, .int tm]), (mor, aI E 6 (fun j => nI (ω j)))] [.ref o] (qP L h (fun (_ : Unit) => [(o, ob 10 [.ref mw, .ref mk, .ref mt, .ref mr, .ref mki, .ref mso, .ref mst, .ref mpr, .ref msh, .ref mwa, .ref mpu, .ref mtx, .int ts, .int ma, .int bg, .int wr, .int cl, .int um, .ref mor, .ref mbo, .int 0, .ref tO, .ref tVi, .ref tSm, .int tm]), (mor, aI E 6 (fun j => nI (ω j)))]) (fun _ => some (.int 0)) (fun _ => True)) := by
  refine CT.ofV (by decide +kernel) (Nat.le_of_ble_eq_true rfl) ?_
  refine V.locals2 (lv2 := [(0, .ref o)]) rfl ?_
  refine V.aload_n dX11_nextOrder_0 0 rfl ?_
  refine V.getf 0 20 rfl fa_X11_188_10 rfl dX11_nextOrder_1 ?_
  refine V.iconst (v := 2) dX11_nextOrder_4 (by decide) ?_
  refine V.isub dX11_nextOrder_5 ?_
  refine V.topc (v := (-2)) (by decide) ?_
  refine V.istore_n (lv2 := [(1, .int (-2)), (0, .ref o)]) dX11_nextOrder_6 rfl (by decide) rfl ?_
  refine V.iload_n dX11_nextOrder_7 0 rfl ?_
  refine V.if_lt (tgt := 34) dX11_nextOrder_8 (by decide) (fun _ => ?_) (fun hc => absurd (by decide) hc)
  refine V.iload_n dX11_nextOrder_34 0 rfl ?_
  refine V.if_ge (tgt := 40) dX11_nextOrder_35 (by decide) (fun hc => absurd hc (by decide)) (fun _ => ?_)
  refine V.iconst (v := 0) dX11_nextOrder_38 (by decide) ?_
  exact V.zret rfl (rfl) dX11_nextOrder_39 (⟨(), rfl, rfl, rfl, trivial⟩)

set_option maxHeartbeats 4000000 in
set_option maxRecDepth 100000 in
theorem c_M_next1 (E : vEnv) (l : Launch) (L : List Nat) (h : Nat → va_E) (o : Nat) (mw : Nat) (mk : Nat) (mt : Nat) (mr : Nat) (mki : Nat) (mso : Nat) (mst : Nat) (mpr : Nat) (msh : Nat) (mwa : Nat) (mpu : Nat) (mtx : Nat) (mor : Nat) (mbo : Nat) (tO : Nat) (tVi : Nat) (tSm : Nat) (ts : Int32) (ma : Int32) (bg : Int32) (wr : Int32) (cl : Int32) (um : Int32) (tm : Int32) (nn : Nat) (ω : Nat → Nat) (hn : nn < 6) (hω : ∀ i, i < nn + 1 → ω i < 6) (hp : pivotC ω nn = 0) : CT E l yX11_nextOrder cX11_nextOrder 5 (some (.boolean)) 1 0 0 L h [(o, ob 10 [.ref mw, .ref mk, .ref mt, .ref mr, .ref mki, .ref mso, .ref mst, .ref mpr, .ref msh, .ref mwa, .ref mpu, .ref mtx, .int ts, .int ma, .int bg, .int wr, .int cl, .int um, .ref mor, .ref mbo, .int (nI (nn + 1)), .ref tO, .ref tVi, .ref tSm, .int tm]), (mor, aI E 6 (fun j => nI (ω j)))] [.ref o] (qP L h (fun (_ : Unit) => [(o, ob 10 [.ref mw, .ref mk, .ref mt, .ref mr, .ref mki, .ref mso, .ref mst, .ref mpr, .ref msh, .ref mwa, .ref mpu, .ref mtx, .int ts, .int ma, .int bg, .int wr, .int cl, .int um, .ref mor, .ref mbo, .int (nI (nn + 1)), .ref tO, .ref tVi, .ref tSm, .int tm]), (mor, aI E 6 (fun j => nI (ω j)))]) (fun _ => some (.int 0)) (fun _ => True)) := by
  refine CT.ofV (by decide +kernel) (Nat.le_of_ble_eq_true rfl) ?_
  obtain ⟨Z, hZ⟩ : ∃ Z, Z = mZ E (qP L h (fun (_ : Unit) => [(o, ob 10 [.ref mw, .ref mk, .ref mt, .ref mr, .ref mki, .ref mso, .ref mst, .ref mpr, .ref msh, .ref mwa, .ref mpu, .ref mtx, .int ts, .int ma, .int bg, .int wr, .int cl, .int um, .ref mor, .ref mbo, .int (nI (nn + 1)), .ref tO, .ref tVi, .ref tSm, .int tm]), (mor, aI E 6 (fun j => nI (ω j)))]) (fun _ => some (.int 0)) (fun _ => True)) 0 0 := ⟨_, rfl⟩
  rw [← hZ]
  refine V.locals2 (lv2 := [(0, .ref o)]) rfl ?_
  refine V.aload_n dX11_nextOrder_0 0 rfl ?_
  refine V.getf 0 20 rfl fa_X11_188_10 rfl dX11_nextOrder_1 ?_
  refine V.iconst (v := 2) dX11_nextOrder_4 (by decide) ?_
  refine V.isub dX11_nextOrder_5 ?_
  refine V.topc (v := (pI nn)) (pI_m2 nn) ?_
  refine V.istore_n (lv2 := [(1, .int (pI nn)), (0, .ref o)]) dX11_nextOrder_6 rfl (by decide) rfl ?_
  refine V.locals [1, 0] (by rfl) ?_
  have lp_7 : ∀ (fuel : Nat) (c : Nat) (hc : c ≤ nn) (hpv : pivotC ω c = pivotC ω nn) (hf : c < fuel), V E l yX11_nextOrder cX11_nextOrder 5 (some (.boolean)) (rmk 1 0 0) Z L h 0 0 [(o, ob 10 [.ref mw, .ref mk, .ref mt, .ref mr, .ref mki, .ref mso, .ref mst, .ref mpr, .ref msh, .ref mwa, .ref mpu, .ref mtx, .int ts, .int ma, .int bg, .int wr, .int cl, .int um, .ref mor, .ref mbo, .int (nI (nn + 1)), .ref tO, .ref tVi, .ref tSm, .int tm]), (mor, aI E 6 (fun j => nI (ω j)))] 7 [(0, .ref o), (1, .int (pI c))] [] := by
    intro fuel
    induction fuel with
    | zero =>
      intro c hc hpv hf
      exfalso; omega
    | succ fuel ih_7 =>
      intro c hc hpv hf
      refine V.iload_n dX11_nextOrder_7 1 rfl ?_
      refine V.if_lt (tgt := 34) dX11_nextOrder_8 (by decide) (fun c1_8 => ?_) (fun c1_8 => ?_)
      · skip
        have hc0 : c = 0 := (pI_neg (by omega)).mp c1_8
        subst hc0
        refine V.iload_n dX11_nextOrder_34 1 rfl ?_
        refine V.if_ge (tgt := 40) dX11_nextOrder_35 (by decide) (fun hc => absurd hc (by decide)) (fun _ => ?_)
        refine V.iconst (v := 0) dX11_nextOrder_38 (by decide) ?_
        subst hZ
        exact V.zret rfl (rfl) dX11_nextOrder_39 (⟨(), rfl, rfl, rfl, trivial⟩)
      · skip
        obtain ⟨c', rfl⟩ : ∃ c', c = c' + 1 := ⟨c - 1, by have h9 : c ≠ 0 := fun h9 => c1_8 ((pI_neg (by omega)).mpr h9); omega⟩
        rw [pI_s]
        refine V.aload_n dX11_nextOrder_11 0 rfl ?_
        refine V.getf 0 18 rfl fa_X11_47_10 rfl dX11_nextOrder_12 ?_
        refine V.iload_n dX11_nextOrder_15 1 rfl ?_
        refine V.iald 1 rfl (vinI (by omega)) dX11_nextOrder_16 ?_
        refine V.topc (v := (nI (ω c'))) (by rw [nI_clamp (by omega)]) ?_
        refine V.aload_n dX11_nextOrder_17 0 rfl ?_
        refine V.getf 0 18 rfl fa_X11_47_10 rfl dX11_nextOrder_18 ?_
        refine V.iload_n dX11_nextOrder_21 1 rfl ?_
        refine V.iconst (v := 1) dX11_nextOrder_22 (by decide) ?_
        refine V.iadd dX11_nextOrder_23 ?_
        refine V.topc (v := (nI (c' + 1))) (nI_1 _) ?_
        refine V.iald 1 rfl (vinI (by omega)) dX11_nextOrder_24 ?_
        refine V.topc (v := (nI (ω (c' + 1)))) (by rw [nI_clamp (by omega)]) ?_
        refine V.icmp_le (tgt := 34) dX11_nextOrder_25 (by decide) (fun c2_25 => ?_) (fun c2_25 => ?_)
        · skip
          have hpc : pivotC ω (c' + 1) = c' + 1 := by rw [pivotC, if_neg (fun h9 => absurd c2_25 (by rw [nI_leI (by have := hω c' (by omega); omega) (by have := hω (c' + 1) (by omega); omega)]; omega))]
          exfalso; omega
        · skip
          have hpc : pivotC ω (c' + 1) = pivotC ω c' := by rw [pivotC, if_pos (Nat.lt_of_not_le (fun h9 => c2_25 (nI_le h9 (by have := hω (c' + 1) (by omega); omega))))]
          refine V.iinc (v := (pI c')) (lv2 := [(1, .int (pI c')), (0, .ref o)]) dX11_nextOrder_28 1 rfl (inc_m1 _) (by decide) rfl ?_
          refine V.goto (tgt := 7) dX11_nextOrder_31 (by decide) ?_
          refine V.locals [1, 0] (by rfl) ?_
          exact ih_7 c' (by omega) (hpc.symm.trans hpv) (by omega)
  exact lp_7 (nn + 1) nn (Nat.le_refl _) rfl (by omega)

set_option maxHeartbeats 4000000 in
set_option maxRecDepth 100000 in
theorem c_M_next (E : vEnv) (l : Launch) (L : List Nat) (h : Nat → va_E) (o : Nat) (mw : Nat) (mk : Nat) (mt : Nat) (mr : Nat) (mki : Nat) (mso : Nat) (mst : Nat) (mpr : Nat) (msh : Nat) (mwa : Nat) (mpu : Nat) (mtx : Nat) (mor : Nat) (mbo : Nat) (tO : Nat) (tVi : Nat) (tSm : Nat) (ts : Int32) (ma : Int32) (bg : Int32) (wr : Int32) (cl : Int32) (um : Int32) (tm : Int32) (nn : Nat) (p : Nat) (ω : Nat → Nat) (hn : nn < 6) (hω : ∀ i, i < nn + 1 → ω i < 6) (hp : pivotC ω nn = p + 1) : CT E l yX11_nextOrder cX11_nextOrder 5 (some (.boolean)) 1 0 0 L h [(o, ob 10 [.ref mw, .ref mk, .ref mt, .ref mr, .ref mki, .ref mso, .ref mst, .ref mpr, .ref msh, .ref mwa, .ref mpu, .ref mtx, .int ts, .int ma, .int bg, .int wr, .int cl, .int um, .ref mor, .ref mbo, .int (nI (nn + 1)), .ref tO, .ref tVi, .ref tSm, .int tm]), (mor, aI E 6 (fun j => nI (ω j)))] [.ref o] (qP L h (fun (_ : Unit) => [(o, ob 10 [.ref mw, .ref mk, .ref mt, .ref mr, .ref mki, .ref mso, .ref mst, .ref mpr, .ref msh, .ref mwa, .ref mpu, .ref mtx, .int ts, .int ma, .int bg, .int wr, .int cl, .int um, .ref mor, .ref mbo, .int (nI (nn + 1)), .ref tO, .ref tVi, .ref tSm, .int tm]), (mor, aI E 6 (fun j => nI ((nextR ω (nn + 1) p) j)))]) (fun _ => some (.int 1)) (fun _ => True)) := by
  refine CT.ofV (by decide +kernel) (Nat.le_of_ble_eq_true rfl) ?_
  obtain ⟨Z, hZ⟩ : ∃ Z, Z = mZ E (qP L h (fun (_ : Unit) => [(o, ob 10 [.ref mw, .ref mk, .ref mt, .ref mr, .ref mki, .ref mso, .ref mst, .ref mpr, .ref msh, .ref mwa, .ref mpu, .ref mtx, .int ts, .int ma, .int bg, .int wr, .int cl, .int um, .ref mor, .ref mbo, .int (nI (nn + 1)), .ref tO, .ref tVi, .ref tSm, .int tm]), (mor, aI E 6 (fun j => nI ((nextR ω (nn + 1) p) j)))]) (fun _ => some (.int 1)) (fun _ => True)) 0 0 := ⟨_, rfl⟩
  rw [← hZ]
  refine V.locals2 (lv2 := [(0, .ref o)]) rfl ?_
  refine V.aload_n dX11_nextOrder_0 0 rfl ?_
  refine V.getf 0 20 rfl fa_X11_188_10 rfl dX11_nextOrder_1 ?_
  refine V.iconst (v := 2) dX11_nextOrder_4 (by decide) ?_
  refine V.isub dX11_nextOrder_5 ?_
  refine V.topc (v := (pI nn)) (pI_m2 nn) ?_
  refine V.istore_n (lv2 := [(1, .int (pI nn)), (0, .ref o)]) dX11_nextOrder_6 rfl (by decide) rfl ?_
  refine V.locals [1, 0] (by rfl) ?_
  have lp_7 : ∀ (fuel : Nat) (c : Nat) (hc : c ≤ nn) (hpv : pivotC ω c = pivotC ω nn) (hf : c < fuel), V E l yX11_nextOrder cX11_nextOrder 5 (some (.boolean)) (rmk 1 0 0) Z L h 0 0 [(o, ob 10 [.ref mw, .ref mk, .ref mt, .ref mr, .ref mki, .ref mso, .ref mst, .ref mpr, .ref msh, .ref mwa, .ref mpu, .ref mtx, .int ts, .int ma, .int bg, .int wr, .int cl, .int um, .ref mor, .ref mbo, .int (nI (nn + 1)), .ref tO, .ref tVi, .ref tSm, .int tm]), (mor, aI E 6 (fun j => nI (ω j)))] 7 [(0, .ref o), (1, .int (pI c))] [] := by
    intro fuel
    induction fuel with
    | zero =>
      intro c hc hpv hf
      exfalso; omega
    | succ fuel ih_7 =>
      intro c hc hpv hf
      refine V.iload_n dX11_nextOrder_7 1 rfl ?_
      refine V.if_lt (tgt := 34) dX11_nextOrder_8 (by decide) (fun c1_8 => ?_) (fun c1_8 => ?_)
      · skip
        have hc0 : c = 0 := (pI_neg (by omega)).mp c1_8
        subst hc0
        exfalso; have h9 : pivotC ω 0 = 0 := rfl; omega
      · skip
        obtain ⟨c', rfl⟩ : ∃ c', c = c' + 1 := ⟨c - 1, by have h9 : c ≠ 0 := fun h9 => c1_8 ((pI_neg (by omega)).mpr h9); omega⟩
        rw [pI_s]
        refine V.aload_n dX11_nextOrder_11 0 rfl ?_
        refine V.getf 0 18 rfl fa_X11_47_10 rfl dX11_nextOrder_12 ?_
        refine V.iload_n dX11_nextOrder_15 1 rfl ?_
        refine V.iald 1 rfl (vinI (by omega)) dX11_nextOrder_16 ?_
        refine V.topc (v := (nI (ω c'))) (by rw [nI_clamp (by omega)]) ?_
        refine V.aload_n dX11_nextOrder_17 0 rfl ?_
        refine V.getf 0 18 rfl fa_X11_47_10 rfl dX11_nextOrder_18 ?_
        refine V.iload_n dX11_nextOrder_21 1 rfl ?_
        refine V.iconst (v := 1) dX11_nextOrder_22 (by decide) ?_
        refine V.iadd dX11_nextOrder_23 ?_
        refine V.topc (v := (nI (c' + 1))) (nI_1 _) ?_
        refine V.iald 1 rfl (vinI (by omega)) dX11_nextOrder_24 ?_
        refine V.topc (v := (nI (ω (c' + 1)))) (by rw [nI_clamp (by omega)]) ?_
        refine V.icmp_le (tgt := 34) dX11_nextOrder_25 (by decide) (fun c2_25 => ?_) (fun c2_25 => ?_)
        · skip
          have hpc : pivotC ω (c' + 1) = c' + 1 := by rw [pivotC, if_neg (fun h9 => absurd c2_25 (by rw [nI_leI (by have := hω c' (by omega); omega) (by have := hω (c' + 1) (by omega); omega)]; omega))]
          have hcp : c' = p := by omega
          subst hcp
          have hple : c' + 1 ≤ nn := hc
          have hup := pivotC_up hp
          refine V.iload_n dX11_nextOrder_34 1 rfl ?_
          refine V.if_ge (tgt := 40) dX11_nextOrder_35 (by decide) (fun _ => ?_) (fun hc => absurd (nI_pos' (by omega)) hc)
          refine V.aload_n dX11_nextOrder_40 0 rfl ?_
          refine V.getf 0 20 rfl fa_X11_188_10 rfl dX11_nextOrder_41 ?_
          refine V.iconst (v := 1) dX11_nextOrder_44 (by decide) ?_
          refine V.isub dX11_nextOrder_45 ?_
          refine V.topc (v := (nI nn)) (nI_pred nn) ?_
          refine V.istore_n (lv2 := [(2, .int (nI nn)), (0, .ref o), (1, .int (nI c'))]) dX11_nextOrder_46 rfl (by decide) rfl ?_
          refine V.locals [1, 2, 0] (by rfl) ?_
          have lp_47 : ∀ (fuel : Nat) (o9 : Nat) (ho : o9 ≤ nn) (hpo : c' < o9) (hot : otherC ω c' o9 = otherC ω c' nn) (hf2 : o9 < fuel), V E l yX11_nextOrder cX11_nextOrder 5 (some (.boolean)) (rmk 1 0 0) Z L h 0 0 [(o, ob 10 [.ref mw, .ref mk, .ref mt, .ref mr, .ref mki, .ref mso, .ref mst, .ref mpr, .ref msh, .ref mwa, .ref mpu, .ref mtx, .int ts, .int ma, .int bg, .int wr, .int cl, .int um, .ref mor, .ref mbo, .int (nI (nn + 1)), .ref tO, .ref tVi, .ref tSm, .int tm]), (mor, aI E 6 (fun j => nI (ω j)))] 47 [(0, .ref o), (1, .int (nI c')), (2, .int (nI o9))] [] := by
            intro fuel
            induction fuel with
            | zero =>
              intro o9 ho hpo hot hf2
              exfalso; omega
            | succ fuel ih_47 =>
              intro o9 ho hpo hot hf2
              refine V.aload_n dX11_nextOrder_47 0 rfl ?_
              refine V.getf 0 18 rfl fa_X11_47_10 rfl dX11_nextOrder_48 ?_
              refine V.iload_n dX11_nextOrder_51 2 rfl ?_
              refine V.iald 1 rfl (vinI (by omega)) dX11_nextOrder_52 ?_
              refine V.topc (v := (nI (ω o9))) (by rw [nI_clamp (by omega)]) ?_
              refine V.aload_n dX11_nextOrder_53 0 rfl ?_
              refine V.getf 0 18 rfl fa_X11_47_10 rfl dX11_nextOrder_54 ?_
              refine V.iload_n dX11_nextOrder_57 1 rfl ?_
              refine V.iald 1 rfl (vinI (by omega)) dX11_nextOrder_58 ?_
              refine V.topc (v := (nI (ω c'))) (by rw [nI_clamp (by omega)]) ?_
              refine V.icmp_ge (tgt := 68) dX11_nextOrder_59 (by decide) (fun c3_59 => ?_) (fun c3_59 => ?_)
              · skip
                have hge : ω c' ≤ ω o9 := (nI_leI (by have := hω c' (by omega); omega) (by have := hω o9 (by omega); omega)).mp c3_59
                have hoo : otherC ω c' nn = o9 := hot.symm.trans (otherC_stop (by omega) (by omega))
                refine V.aload_n dX11_nextOrder_68 0 rfl ?_
                refine V.iload_n dX11_nextOrder_69 1 rfl ?_
                refine V.iload_n dX11_nextOrder_70 2 rfl ?_
                refine V.callVp (As := [.int (nI c'), .int (nI o9)]) (rest := []) [0, 1] (c_M_exchange E l L _ o mw mk mt mr mki mso mst mpr msh mwa mpu mtx mor mbo tO tVi tSm ts ma bg wr cl um ((nI (nn + 1))) tm ω c' o9 (by omega) (by omega)) rfl (by decide) mi_X11_exchange 0 rfl rfl w_964 w_966 wp_31 rfl rfl (Nat.le_of_ble_eq_true rfl) ⟨by decide, by decide⟩ ⟨by decide, by decide⟩ dX11_nextOrder_71 (vw2 := fun _ => [(o, ob 10 [.ref mw, .ref mk, .ref mt, .ref mr, .ref mki, .ref mso, .ref mst, .ref mpr, .ref msh, .ref mwa, .ref mpu, .ref mtx, .int ts, .int ma, .int bg, .int wr, .int cl, .int um, .ref mor, .ref mbo, .int (nI (nn + 1)), .ref tO, .ref tVi, .ref tSm, .int tm]), (mor, aI E 6 (fun j => nI ((swapR ω c' o9) j)))]) (st2 := fun _ => []) (fun _ => rfl) (fun _ => rfl) (fun _ => rfl) (fun _ _ => ?_)
                refine V.iload_n dX11_nextOrder_74 1 rfl ?_
                refine V.iconst (v := 1) dX11_nextOrder_75 (by decide) ?_
                refine V.iadd dX11_nextOrder_76 ?_
                refine V.topc (v := (nI (c' + 1))) (nI_1 _) ?_
                refine V.istore_n (lv2 := [(3, .int (nI (c' + 1))), (0, .ref o), (1, .int (nI c')), (2, .int (nI o9))]) dX11_nextOrder_77 rfl (by decide) rfl ?_
                refine V.aload_n dX11_nextOrder_78 1 rfl ?_
                refine V.getf 0 20 rfl fa_X11_188_10 rfl dX11_nextOrder_79 ?_
                refine V.iconst (v := 1) dX11_nextOrder_82 (by decide) ?_
                refine V.isub dX11_nextOrder_83 ?_
                refine V.topc (v := (nI nn)) (nI_pred nn) ?_
                refine V.istore (lv2 := [(4, .int (nI nn)), (3, .int (nI (c' + 1))), (0, .ref o), (1, .int (nI c')), (2, .int (nI o9))]) dX11_nextOrder_84 (by decide) rfl ?_
                refine V.locals [2, 3, 1, 0] (by rfl) ?_
                have lp_86 : ∀ (fuel : Nat) (σ : Nat → Nat) (xl : Nat) (zl : Nat) (f : Nat) (hz : zl ≤ nn) (hx : c' < xl) (hx2 : xl ≤ nn + 1) (hrev : revR f σ xl zl = nextR ω (nn + 1) c') (hzf : zl - xl < f) (hf3 : f < fuel), V E l yX11_nextOrder cX11_nextOrder 5 (some (.boolean)) (rmk 1 0 0) Z L h 0 0 [(o, ob 10 [.ref mw, .ref mk, .ref mt, .ref mr, .ref mki, .ref mso, .ref mst, .ref mpr, .ref msh, .ref mwa, .ref mpu, .ref mtx, .int ts, .int ma, .int bg, .int wr, .int cl, .int um, .ref mor, .ref mbo, .int (nI (nn + 1)), .ref tO, .ref tVi, .ref tSm, .int tm]), (mor, aI E 6 (fun j => nI (σ j)))] 86 [(0, .ref o), (1, .int (nI c')), (3, .int (nI xl)), (4, .int (nI zl))] [] := by
                  intro fuel
                  induction fuel with
                  | zero =>
                    intro σ xl zl f hz hx hx2 hrev hzf hf3
                    exfalso; omega
                  | succ fuel ih_86 =>
                    intro σ xl zl f hz hx hx2 hrev hzf hf3
                    refine V.iload_n dX11_nextOrder_86 2 rfl ?_
                    refine V.iload dX11_nextOrder_87 3 rfl ?_
                    refine V.icmp_ge (tgt := 108) dX11_nextOrder_89 (by decide) (fun c4_89 => ?_) (fun c4_89 => ?_)
                    · skip
                      have hσ : σ = nextR ω (nn + 1) c' := by
                        have hba := (nI_leI (by omega) (by omega)).mp c4_89
                        cases f with
                        | zero => exact hrev
                        | succ f => rw [revR, if_neg (by omega)] at hrev; exact hrev
                      subst hσ
                      refine V.iconst (v := 1) dX11_nextOrder_108 (by decide) ?_
                      subst hZ
                      exact V.zret rfl (rfl) dX11_nextOrder_109 (⟨(), rfl, rfl, rfl, trivial⟩)
                    · skip
                      have hab : xl < zl := Nat.lt_of_not_le (fun h9 => c4_89 (nI_le h9 (by omega)))
                      obtain ⟨f', rfl⟩ : ∃ f', f = f' + 1 := ⟨f - 1, by omega⟩
                      rw [revR, if_pos hab] at hrev
                      refine V.aload_n dX11_nextOrder_92 0 rfl ?_
                      refine V.iload_n dX11_nextOrder_93 2 rfl ?_
                      refine V.iload dX11_nextOrder_94 3 rfl ?_
                      refine V.callVp (As := [.int (nI xl), .int (nI zl)]) (rest := []) [0, 1] (c_M_exchange E l L _ o mw mk mt mr mki mso mst mpr msh mwa mpu mtx mor mbo tO tVi tSm ts ma bg wr cl um ((nI (nn + 1))) tm σ xl zl (by omega) (by omega)) rfl (by decide) mi_X11_exchange 0 rfl rfl w_964 w_966 wp_31 rfl rfl (Nat.le_of_ble_eq_true rfl) ⟨by decide, by decide⟩ ⟨by decide, by decide⟩ dX11_nextOrder_96 (vw2 := fun _ => [(o, ob 10 [.ref mw, .ref mk, .ref mt, .ref mr, .ref mki, .ref mso, .ref mst, .ref mpr, .ref msh, .ref mwa, .ref mpu, .ref mtx, .int ts, .int ma, .int bg, .int wr, .int cl, .int um, .ref mor, .ref mbo, .int (nI (nn + 1)), .ref tO, .ref tVi, .ref tSm, .int tm]), (mor, aI E 6 (fun j => nI ((swapR σ xl zl) j)))]) (st2 := fun _ => []) (fun _ => rfl) (fun _ => rfl) (fun _ => rfl) (fun _ _ => ?_)
                      refine V.iinc (v := (nI (xl + 1))) (lv2 := [(3, .int (nI (xl + 1))), (0, .ref o), (1, .int (nI c')), (4, .int (nI zl))]) dX11_nextOrder_99 2 rfl (nI_1 _) (by decide) rfl ?_
                      refine V.iinc (v := (nI (zl - 1))) (lv2 := [(4, .int (nI (zl - 1))), (3, .int (nI (xl + 1))), (0, .ref o), (1, .int (nI c'))]) dX11_nextOrder_102 3 rfl (by rw [show zl = (zl - 1) + 1 by omega]; exact pk_m1 _) (by decide) rfl ?_
                      refine V.goto (tgt := 86) dX11_nextOrder_105 (by decide) ?_
                      refine V.locals [2, 3, 1, 0] (by rfl) ?_
                      exact ih_86 _ _ _ f' (by omega) (by omega) (by omega) hrev (by omega) (by omega)
                exact lp_86 (nn + 2) (swapR ω c' o9) (c' + 1) nn (nn + 1) (Nat.le_refl _) (by omega) (by omega) (by rw [nextR, Nat.add_sub_cancel, hoo]) (by omega) (by omega)
              · skip
                have hlt : ω o9 < ω c' := Nat.lt_of_not_le (fun h9 => c3_59 (nI_le h9 (by have := hω o9 (by omega); omega)))
                have hgt : c' + 1 < o9 := (Nat.lt_or_ge (c' + 1) o9).elim id (fun h9 => absurd hlt (by rw [show o9 = c' + 1 by omega]; omega))
                obtain ⟨o', rfl⟩ : ∃ o', o9 = o' + 1 := ⟨o9 - 1, by omega⟩
                have hoo : otherC ω c' (o' + 1) = otherC ω c' o' := by rw [otherC, if_pos ⟨hgt, hlt⟩]
                refine V.iinc (v := (nI o')) (lv2 := [(2, .int (nI o')), (0, .ref o), (1, .int (nI c'))]) dX11_nextOrder_62 2 rfl (pk_m1 _) (by decide) rfl ?_
                refine V.goto (tgt := 47) dX11_nextOrder_65 (by decide) ?_
                refine V.locals [1, 2, 0] (by rfl) ?_
                exact ih_47 o' (by omega) (by omega) (hoo.symm.trans hot) (by omega)
          exact lp_47 (nn + 1) nn (Nat.le_refl _) (by omega) rfl (by omega)
        · skip
          have hpc : pivotC ω (c' + 1) = pivotC ω c' := by rw [pivotC, if_pos (Nat.lt_of_not_le (fun h9 => c2_25 (nI_le h9 (by have := hω (c' + 1) (by omega); omega))))]
          refine V.iinc (v := (pI c')) (lv2 := [(1, .int (pI c')), (0, .ref o)]) dX11_nextOrder_28 1 rfl (inc_m1 _) (by decide) rfl ?_
          refine V.goto (tgt := 7) dX11_nextOrder_31 (by decide) ?_
          refine V.locals [1, 0] (by rfl) ?_
          exact ih_7 c' (by omega) (hpc.symm.trans hpv) (by omega)
  exact lp_7 (nn + 1) nn (Nat.le_refl _) rfl (by omega)

theorem c_M_nextN (E : vEnv) (l : Launch) (L : List Nat) (h : Nat → va_E) (o : Nat) (mw : Nat) (mk : Nat) (mt : Nat) (mr : Nat) (mki : Nat) (mso : Nat) (mst : Nat) (mpr : Nat) (msh : Nat) (mwa : Nat) (mpu : Nat) (mtx : Nat) (mor : Nat) (mbo : Nat) (tO : Nat) (tVi : Nat) (tSm : Nat) (ts : Int32) (ma : Int32) (bg : Int32) (wr : Int32) (cl : Int32) (um : Int32) (tm : Int32) (N : Nat) (ω : Nat → Nat) (hN : N ≤ 6) (hω : ∀ i, i < N → ω i < 6) (hs : stepR N ω = none) : CT E l yX11_nextOrder cX11_nextOrder 5 (some (.boolean)) 1 0 0 L h [(o, ob 10 [.ref mw, .ref mk, .ref mt, .ref mr, .ref mki, .ref mso, .ref mst, .ref mpr, .ref msh, .ref mwa, .ref mpu, .ref mtx, .int ts, .int ma, .int bg, .int wr, .int cl, .int um, .ref mor, .ref mbo, .int (nI N), .ref tO, .ref tVi, .ref tSm, .int tm]), (mor, aI E 6 (fun j => nI (ω j)))] [.ref o] (qP L h (fun (_ : Unit) => [(o, ob 10 [.ref mw, .ref mk, .ref mt, .ref mr, .ref mki, .ref mso, .ref mst, .ref mpr, .ref msh, .ref mwa, .ref mpu, .ref mtx, .int ts, .int ma, .int bg, .int wr, .int cl, .int um, .ref mor, .ref mbo, .int (nI N), .ref tO, .ref tVi, .ref tSm, .int tm]), (mor, aI E 6 (fun j => nI (ω j)))]) (fun _ => some (.int 0)) (fun _ => True)) := by
  rcases stepR_cases N ω with ⟨h0, e⟩ | ⟨nn, h0, hp, e⟩ | ⟨nn, p, h0, hp, e⟩
  · subst h0; exact c_M_next0 E l L h o mw mk mt mr mki mso mst mpr msh mwa mpu mtx mor mbo tO tVi tSm ts ma bg wr cl um tm ω
  · subst h0; exact c_M_next1 E l L h o mw mk mt mr mki mso mst mpr msh mwa mpu mtx mor mbo tO tVi tSm ts ma bg wr cl um tm nn ω (by omega) hω hp
  · rw [e] at hs; cases hs

theorem c_M_nextS (E : vEnv) (l : Launch) (L : List Nat) (h : Nat → va_E) (o : Nat) (mw : Nat) (mk : Nat) (mt : Nat) (mr : Nat) (mki : Nat) (mso : Nat) (mst : Nat) (mpr : Nat) (msh : Nat) (mwa : Nat) (mpu : Nat) (mtx : Nat) (mor : Nat) (mbo : Nat) (tO : Nat) (tVi : Nat) (tSm : Nat) (ts : Int32) (ma : Int32) (bg : Int32) (wr : Int32) (cl : Int32) (um : Int32) (tm : Int32) (N : Nat) (ω : Nat → Nat) (σ : Nat → Nat) (hN : N ≤ 6) (hω : ∀ i, i < N → ω i < 6) (hs : stepR N ω = some σ) : CT E l yX11_nextOrder cX11_nextOrder 5 (some (.boolean)) 1 0 0 L h [(o, ob 10 [.ref mw, .ref mk, .ref mt, .ref mr, .ref mki, .ref mso, .ref mst, .ref mpr, .ref msh, .ref mwa, .ref mpu, .ref mtx, .int ts, .int ma, .int bg, .int wr, .int cl, .int um, .ref mor, .ref mbo, .int (nI N), .ref tO, .ref tVi, .ref tSm, .int tm]), (mor, aI E 6 (fun j => nI (ω j)))] [.ref o] (qP L h (fun (_ : Unit) => [(o, ob 10 [.ref mw, .ref mk, .ref mt, .ref mr, .ref mki, .ref mso, .ref mst, .ref mpr, .ref msh, .ref mwa, .ref mpu, .ref mtx, .int ts, .int ma, .int bg, .int wr, .int cl, .int um, .ref mor, .ref mbo, .int (nI N), .ref tO, .ref tVi, .ref tSm, .int tm]), (mor, aI E 6 (fun j => nI (σ j)))]) (fun _ => some (.int 1)) (fun _ => True)) := by
  rcases stepR_cases N ω with ⟨h0, e⟩ | ⟨nn, h0, hp, e⟩ | ⟨nn, p, h0, hp, e⟩
  · rw [e] at hs; cases hs
  · rw [e] at hs; cases hs
  · rw [e] at hs; cases hs; subst h0; exact c_M_next E l L h o mw mk mt mr mki mso mst mpr msh mwa mpu mtx mor mbo tO tVi tSm ts ma bg wr cl um tm nn p ω (by omega) hω hp

set_option maxHeartbeats 4000000 in
set_option maxRecDepth 100000 in
theorem c_M_keepOrder (E : vEnv) (l : Launch) (L : List Nat) (h : Nat → va_E) (o : Nat) (mw : Nat) (mk : Nat) (mt : Nat) (mr : Nat) (mki : Nat) (mso : Nat) (mst : Nat) (mpr : Nat) (msh : Nat) (mwa : Nat) (mpu : Nat) (mtx : Nat) (mor : Nat) (mbo : Nat) (tO : Nat) (tVi : Nat) (tSm : Nat) (ts : Int32) (ma : Int32) (bg : Int32) (wr : Int32) (cl : Int32) (um : Int32) (tm : Int32) (N : Nat) (ω : Nat → Nat) (bo : Nat → Int32) (hN : N ≤ 6) : CT E l yX11_keepOrder cX11_keepOrder 2 none 0 0 0 L h [(o, ob 10 [.ref mw, .ref mk, .ref mt, .ref mr, .ref mki, .ref mso, .ref mst, .ref mpr, .ref msh, .ref mwa, .ref mpu, .ref mtx, .int ts, .int ma, .int bg, .int wr, .int cl, .int um, .ref mor, .ref mbo, .int (nI N), .ref tO, .ref tVi, .ref tSm, .int tm]), (mor, aI E 6 (fun j => nI (ω j))), (mbo, aI E 6 bo)] [.ref o] (qP L h (fun (_ : Unit) => [(o, ob 10 [.ref mw, .ref mk, .ref mt, .ref mr, .ref mki, .ref mso, .ref mst, .ref mpr, .ref msh, .ref mwa, .ref mpu, .ref mtx, .int ts, .int ma, .int bg, .int wr, .int cl, .int um, .ref mor, .ref mbo, .int (nI N), .ref tO, .ref tVi, .ref tSm, .int tm]), (mor, aI E 6 (fun j => nI (ω j))), (mbo, aI E 6 (kpO N ω bo))]) (fun _ => none) (fun _ => True)) := by
  refine CT.ofV (by decide +kernel) (Nat.le_of_ble_eq_true rfl) ?_
  obtain ⟨Z, hZ⟩ : ∃ Z, Z = mZ E (qP L h (fun (_ : Unit) => [(o, ob 10 [.ref mw, .ref mk, .ref mt, .ref mr, .ref mki, .ref mso, .ref mst, .ref mpr, .ref msh, .ref mwa, .ref mpu, .ref mtx, .int ts, .int ma, .int bg, .int wr, .int cl, .int um, .ref mor, .ref mbo, .int (nI N), .ref tO, .ref tVi, .ref tSm, .int tm]), (mor, aI E 6 (fun j => nI (ω j))), (mbo, aI E 6 (kpO N ω bo))]) (fun _ => none) (fun _ => True)) 0 0 := ⟨_, rfl⟩
  rw [← hZ]
  refine V.locals2 (lv2 := [(0, .ref o)]) rfl ?_
  refine V.iconst (v := 0) dX11_keepOrder_0 (by decide) ?_
  refine V.istore_n (lv2 := [(1, .int 0), (0, .ref o)]) dX11_keepOrder_1 rfl (by decide) rfl ?_
  refine V.locals [1, 0] (by rfl) ?_
  have lp_2 : ∀ (fuel : Nat) (k : Nat) (hkN : k ≤ N) (hf : N < k + fuel), V E l yX11_keepOrder cX11_keepOrder 2 none (rmk 0 0 0) Z L h 0 0 [(o, ob 10 [.ref mw, .ref mk, .ref mt, .ref mr, .ref mki, .ref mso, .ref mst, .ref mpr, .ref msh, .ref mwa, .ref mpu, .ref mtx, .int ts, .int ma, .int bg, .int wr, .int cl, .int um, .ref mor, .ref mbo, .int (nI N), .ref tO, .ref tVi, .ref tSm, .int tm]), (mor, aI E 6 (fun j => nI (ω j))), (mbo, aI E 6 (kpO k ω bo))] 2 [(0, .ref o), (1, .int (nI k))] [] := by
    intro fuel
    induction fuel with
    | zero =>
      intro k hkN hf
      exfalso; omega
    | succ fuel ih_2 =>
      intro k hkN hf
      refine V.iload_n dX11_keepOrder_2 1 rfl ?_
      refine V.aload_n dX11_keepOrder_3 0 rfl ?_
      refine V.getf 0 20 rfl fa_X11_188_10 rfl dX11_keepOrder_4 ?_
      refine V.icmp_ge (tgt := 28) dX11_keepOrder_7 (by decide) (fun c1_7 => ?_) (fun c1_7 => ?_)
      · skip
        have hxc1_7 : N ≤ k := (nI_leI (a := N) (by omega) (by omega)).mp c1_7
        have hqc1_7 : k = N := by omega
        subst hZ
        exact V.vret rfl dX11_keepOrder_28 (⟨(), rfl, rfl, by rw [← hqc1_7], trivial⟩)
      · skip
        have hxc1_7 : k < N := Nat.lt_of_not_le (fun hh => c1_7 (nI_le (a := N) hh (by omega)))
        refine V.aload_n dX11_keepOrder_10 0 rfl ?_
        refine V.getf 0 19 rfl fa_X11_50_10 rfl dX11_keepOrder_11 ?_
        refine V.iload_n dX11_keepOrder_14 1 rfl ?_
        refine V.aload_n dX11_keepOrder_15 0 rfl ?_
        refine V.getf 0 18 rfl fa_X11_47_10 rfl dX11_keepOrder_16 ?_
        refine V.iload_n dX11_keepOrder_19 1 rfl ?_
        refine V.iald 1 rfl (vinI (by omega)) dX11_keepOrder_20 ?_
        refine V.topc (v := (nI (ω k))) (by rw [nI_clamp (by omega)]) ?_
        refine V.iast (vw2 := [(o, ob 10 [.ref mw, .ref mk, .ref mt, .ref mr, .ref mki, .ref mso, .ref mst, .ref mpr, .ref msh, .ref mwa, .ref mpu, .ref mtx, .int ts, .int ma, .int bg, .int wr, .int cl, .int um, .ref mor, .ref mbo, .int (nI N), .ref tO, .ref tVi, .ref tSm, .int tm]), (mor, aI E 6 (fun j => nI (ω j))), (mbo, aI E 6 (upd (kpO k ω bo) k (nI (ω k))))]) 2 rfl (vinI (by omega)) (by rw [nI_clamp (by omega)] <;> rfl) dX11_keepOrder_21 ?_
        refine V.arrEq (vw2 := [(o, ob 10 [.ref mw, .ref mk, .ref mt, .ref mr, .ref mki, .ref mso, .ref mst, .ref mpr, .ref msh, .ref mwa, .ref mpu, .ref mtx, .int ts, .int ma, .int bg, .int wr, .int cl, .int um, .ref mor, .ref mbo, .int (nI N), .ref tO, .ref tVi, .ref tSm, .int tm]), (mor, aI E 6 (fun j => nI (ω j))), (mbo, aI E 6 (kpO (k + 1) ω bo))]) 2 0 rfl (fun j _ => kpO_s N k ω bo j) rfl ?_
        refine V.iinc (v := (nI (k + 1))) (lv2 := [(1, .int (nI (k + 1))), (0, .ref o)]) dX11_keepOrder_22 1 rfl (nI_1 _) (by decide) rfl ?_
        refine V.goto (tgt := 2) dX11_keepOrder_25 (by decide) ?_
        refine V.locals [1, 0] (by rfl) ?_
        exact ih_2 (k + 1) (by omega) (by omega)
  exact lp_2 (N + 1) 0 (Nat.zero_le _) (by omega)

theorem c_M_visitW (E : vEnv) (l : Launch) (L : List Nat) (h : Nat → va_E) (o : Nat) (mw : Nat) (mk : Nat) (mt : Nat) (mr : Nat) (mki : Nat) (mso : Nat) (mst : Nat) (mpr : Nat) (msh : Nat) (mwa : Nat) (mpu : Nat) (mtx : Nat) (mor : Nat) (mbo : Nat) (tO : Nat) (tVi : Nat) (tSm : Nat) (ts : Int32) (ma : Int32) (bg : Int32) (wr : Int32) (cl : Int32) (um : Int32) (mn : Int32) (tm : Int32) (ρ : Nat → MR) (i : Nat) (pw : Nat → Int32) (s : NS) (Re : Nat → Int32) (r : Nat → Int32) (Ti : Nat → Int32) (ti : Nat → Int32) (Ki : Nat → Int32) (So : Nat → Int32) (St : Nat → Int32) (Pr : Nat → Int32) (Wa : Nat → Int32) (m : Nat) (sf : Nat → SHP) (wa : Int32) (k : Nat) (hi : i < 12) (hR : ρ i = (pw, s)) (hTab : TabS m sf Ki So St Pr) (hm : m ≤ 6) (eW : Wa 0 = wa) (hgR : gR r) (eR : ∀ j, j < 4 → Re j = r j) (hgI : gI ti) (eI : ∀ j, j < 4 → Ti j = ti j) (hkm : k < m) (ePl : pw k = placeI m k s.2.2.2.2.2.2.2) (hgS : gS s) : CT E l yX11_visitAs cX11_visitAs 5 (some (.int)) 2 0 0 L h [(o, ob 10 [.ref mw, .ref mk, .ref mt, .ref mr, .ref mki, .ref mso, .ref mst, .ref mpr, .ref msh, .ref mwa, .ref mpu, .ref mtx, .int ts, .int ma, .int bg, .int wr, .int cl, .int um, .ref mor, .ref mbo, .int mn, .ref tO, .ref tVi, .ref tSm, .int tm]), (mw, aI E 192 (mW ρ)), (mr, aI E 8 Re), (mt, aI E 8 Ti), (mki, aI E 12 Ki), (mso, aI E 12 So), (mst, aI E 12 St), (mpr, aI E 12 Pr), (mwa, aI E 2 Wa)] [.ref o, .int (nI (16 * i)), .int (nI k), .int (kindI (sf k).1)] (qP L h (fun (_ : Unit) => [(o, ob 10 [.ref mw, .ref mk, .ref mt, .ref mr, .ref mki, .ref mso, .ref mst, .ref mpr, .ref msh, .ref mwa, .ref mpu, .ref mtx, .int ts, .int ma, .int bg, .int wr, .int cl, .int um, .ref mor, .ref mbo, .int mn, .ref tO, .ref tVi, .ref tSm, .int tm]), (mw, aI E 192 (mW (va_up ρ i (pw, (visitN (m, sf, wa, ti, r) k s))))), (mr, aI E 8 Re), (mt, aI E 8 Ti), (mki, aI E 12 Ki), (mso, aI E 12 So), (mst, aI E 12 St), (mpr, aI E 12 Pr), (mwa, aI E 2 Wa)]) (fun _ => some (.int (visitS (m, sf, wa, ti, r) k s))) (fun _ => True)) := by
  have hp := placeN_lt (tu := s.2.2.2.2.2.2.2) hkm
  have ep := placeI_N (tu := s.2.2.2.2.2.2.2) hkm
  obtain ⟨t1, t2, t3, t4, t5, t6⟩ := hTab k hkm
  obtain ⟨hT, hC, p0, hp0, e0⟩ := hgS
  have h9 := c_M_visitAs E l L h o mw mk mt mr mki mso mst mpr msh mwa mpu mtx mor mbo tO tVi tSm ts ma bg wr cl um mn tm ρ i pw s Re r Ti ti Ki So St Pr Wa k (sf k).1 (sf k).2.1 (sf k).2.2.1 (sf k).1 (sf k).2.2.2 wa (placeN m k s.2.2.2.2.2.2.2) p0 hi hR (by omega) t5 t6 t1 t2 t3 t4 eW (by omega) hp0 (ePl.trans ep) e0 hT hC hgR eR hgI eI t5
  rw [← ep] at h9
  exact h9
