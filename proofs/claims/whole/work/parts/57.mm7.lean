set_option maxHeartbeats 4000000 in
set_option maxRecDepth 100000 in
theorem c_M_ordersO (E : vEnv) (l : Launch) (L : List Nat) (h : Nat → va_E) (o : Nat) (mw : Nat) (mk : Nat) (mt : Nat) (mr : Nat) (mki : Nat) (mso : Nat) (mst : Nat) (mpr : Nat) (msh : Nat) (mwa : Nat) (mpu : Nat) (mtx : Nat) (mor : Nat) (mbo : Nat) (tO : Nat) (tVi : Nat) (tSm : Nat) (ts : Int32) (ma : Int32) (bg : Int32) (wr : Int32) (cl : Int32) (um : Int32) (mn : Int32) (tm : Int32) (Sh : Nat → Int32) (m : Nat) (xs : Int32) (x : Int32) (eM : Sh 0 = nI m) (hm : m ≤ 6) (hx : withinI xs 0 (nI (2 ^ m - 1)) = 1) (hi : withinI x (-1) 5 = 0) : CT E l yX11_orders cX11_orders 7 (some (.int)) 2 0 0 L h [(o, ob 10 [.ref mw, .ref mk, .ref mt, .ref mr, .ref mki, .ref mso, .ref mst, .ref mpr, .ref msh, .ref mwa, .ref mpu, .ref mtx, .int ts, .int ma, .int bg, .int wr, .int cl, .int um, .ref mor, .ref mbo, .int mn, .ref tO, .ref tVi, .ref tSm, .int tm]), (msh, aI E 2 Sh)] [.ref o, .int xs, .int x] (qP L h (fun (_ : Unit) => [(o, ob 10 [.ref mw, .ref mk, .ref mt, .ref mr, .ref mki, .ref mso, .ref mst, .ref mpr, .ref msh, .ref mwa, .ref mpu, .ref mtx, .int ts, .int ma, .int bg, .int wr, .int cl, .int um, .ref mor, .ref mbo, .int mn, .ref tO, .ref tVi, .ref tSm, .int tm]), (msh, aI E 2 Sh)]) (fun _ => some (.int (-3))) (fun _ => True)) := by
  refine CT.ofV (by decide +kernel) (Nat.le_of_ble_eq_true rfl) ?_
  refine V.locals2 (lv2 := [(0, .ref o), (1, .int xs), (2, .int x)]) rfl ?_
  refine V.aload_n dX11_orders_0 0 rfl ?_
  refine V.iload_n dX11_orders_1 1 rfl ?_
  refine V.callVp (As := [.int xs]) (rest := []) [0, 1] (c_M_isSet E l L _ o mw mk mt mr mki mso mst mpr msh mwa mpu mtx mor mbo tO tVi tSm ts ma bg wr cl um mn tm Sh m xs (eM) (hm)) rfl (by decide) mi_X11_isSet 0 rfl rfl w_941 w_943 wp_26 rfl rfl (Nat.le_of_ble_eq_true rfl) ⟨by decide, by decide⟩ ⟨by decide, by decide⟩ dX11_orders_2 (vw2 := fun _ => [(o, ob 10 [.ref mw, .ref mk, .ref mt, .ref mr, .ref mki, .ref mso, .ref mst, .ref mpr, .ref msh, .ref mwa, .ref mpu, .ref mtx, .int ts, .int ma, .int bg, .int wr, .int cl, .int um, .ref mor, .ref mbo, .int mn, .ref tO, .ref tVi, .ref tSm, .int tm]), (msh, aI E 2 Sh)]) (st2 := fun _ => [.int (withinI xs 0 (nI (2 ^ m - 1)))]) (fun _ => rfl) (fun _ => rfl) (fun _ => rfl) (fun _ _ => ?_)
  refine V.topc (v := 1) (hx) ?_
  refine V.if_ne (tgt := 11) dX11_orders_5 (by decide) (fun _ => ?_) (fun hc => absurd hc (by decide))
  refine V.iload_n dX11_orders_11 2 rfl ?_
  refine V.i2l dX11_orders_12 ?_
  refine V.ldc2 dX11_orders_13 w_999 ?_
  refine V.stack (st2 := [.long (Int32.toInt64 (-1)), .long (Int32.toInt64 x)]) (congrArg (fun z64 => Value.long z64 :: [.long (Int32.toInt64 x)]) (show (-1 : Int64) = Int32.toInt64 (-1) by decide)) ?_
  refine V.ldc2 dX11_orders_16 w_1000 ?_
  refine V.stack (st2 := [.long (Int32.toInt64 5), .long (Int32.toInt64 (-1)), .long (Int32.toInt64 x)]) (congrArg (fun z64 => Value.long z64 :: [.long (Int32.toInt64 (-1)), .long (Int32.toInt64 x)]) (show (5 : Int64) = Int32.toInt64 5 by decide)) ?_
  refine V.callSp (As := [.long (Int32.toInt64 x), .long (Int32.toInt64 (-1)), .long (Int32.toInt64 5)]) (rest := []) [] (c_M_in E l L _ x ((-1)) 5) rfl (by decide) mi_X11_in w_789 w_790 rfl rfl (Nat.le_of_ble_eq_true rfl) ⟨by decide, by decide⟩ ⟨by decide, by decide⟩ dX11_orders_19 (vw2 := fun _ => [(o, ob 10 [.ref mw, .ref mk, .ref mt, .ref mr, .ref mki, .ref mso, .ref mst, .ref mpr, .ref msh, .ref mwa, .ref mpu, .ref mtx, .int ts, .int ma, .int bg, .int wr, .int cl, .int um, .ref mor, .ref mbo, .int mn, .ref tO, .ref tVi, .ref tSm, .int tm]), (msh, aI E 2 Sh)]) (st2 := fun _ => [.int (withinI x (-1) 5)]) (fun _ => rfl) (fun _ => rfl) (fun _ => rfl) (fun _ _ => ?_)
  refine V.topc (v := 0) (hi) ?_
  refine V.if_ne (tgt := 28) dX11_orders_22 (by decide) (fun hc => absurd (by decide) hc) (fun _ => ?_)
  refine V.bipush (v := (-3)) dX11_orders_25 (by decide) ?_
  exact V.iret rfl dX11_orders_27 (⟨(), rfl, rfl, rfl, trivial⟩)

set_option maxHeartbeats 4000000 in
set_option maxRecDepth 100000 in
theorem c_M_orders (E : vEnv) (l : Launch) (L : List Nat) (h : Nat → va_E) (o : Nat) (mw : Nat) (mk : Nat) (mt : Nat) (mr : Nat) (mki : Nat) (mso : Nat) (mst : Nat) (mpr : Nat) (msh : Nat) (mwa : Nat) (mpu : Nat) (mtx : Nat) (mor : Nat) (mbo : Nat) (tO : Nat) (tVi : Nat) (tSm : Nat) (ts : Int32) (ma : Int32) (bg : Int32) (wr : Int32) (cl : Int32) (um : Int32) (tm : Int32) (ρ : Nat → MR) (pw : Nat → Int32) (s : NS) (Re : Nat → Int32) (r : Nat → Int32) (Ti : Nat → Int32) (ti : Nat → Int32) (Ki : Nat → Int32) (So : Nat → Int32) (St : Nat → Int32) (Pr : Nat → Int32) (Wa : Nat → Int32) (m : Nat) (sf : Nat → SHP) (wa : Int32) (Sh : Nat → Int32) (Pu : Nat → Int32) (lp : Int32) (ω0 : Nat → Nat) (ρ0 : Nat → Nat) (mn : Int32) (bo : Nat → Int32) (xs : Int32) (x : Int32) (hR : ρ 0 = (pw, s)) (hTab : TabS m sf Ki So St Pr) (hm : m ≤ 6) (eW : Wa 0 = wa) (hgR : gR r) (eR : ∀ j, j < 4 → Re j = r j) (hgI : gI ti) (eI : ∀ j, j < 4 → Ti j = ti j) (eM : Sh 0 = nI m) (ePl : ∀ k_, k_ < m → pw k_ = placeI m k_ s.2.2.2.2.2.2.2) (hgS : gS s) (hx : withinI xs 0 (nI (2 ^ m - 1)) = 1) (ePu : Pu 0 = lp) (hi : withinI x (-1) 5 = 1) : CT E l yX11_orders cX11_orders 7 (some (.int)) 4 0 0 L h [(o, ob 10 [.ref mw, .ref mk, .ref mt, .ref mr, .ref mki, .ref mso, .ref mst, .ref mpr, .ref msh, .ref mwa, .ref mpu, .ref mtx, .int ts, .int ma, .int bg, .int wr, .int cl, .int um, .ref mor, .ref mbo, .int mn, .ref tO, .ref tVi, .ref tSm, .int tm]), (msh, aI E 2 Sh), (mpu, aI E 2 Pu), (mw, aI E 192 (mW ρ)), (mr, aI E 8 Re), (mt, aI E 8 Ti), (mki, aI E 12 Ki), (mso, aI E 12 So), (mst, aI E 12 St), (mpr, aI E 12 Pr), (mwa, aI E 2 Wa), (mor, aI E 6 (fun j => nI (ω0 j))), (mbo, aI E 6 bo)] [.ref o, .int xs, .int x] (qP L h (fun (u : MR × (Nat → Nat) × (Nat → Int32)) => [(o, ob 10 [.ref mw, .ref mk, .ref mt, .ref mr, .ref mki, .ref mso, .ref mst, .ref mpr, .ref msh, .ref mwa, .ref mpu, .ref mtx, .int ts, .int ma, .int bg, .int wr, .int cl, .int um, .ref mor, .ref mbo, .int (nI (fillW (nI (2 ^ m - 1)) ρ0 6).1), .ref tO, .ref tVi, .ref tSm, .int tm]), (msh, aI E 2 Sh), (mpu, aI E 2 Pu), (mw, aI E 192 (mW (va_up ρ 1 u.1))), (mr, aI E 8 Re), (mt, aI E 8 Ti), (mki, aI E 12 Ki), (mso, aI E 12 So), (mst, aI E 12 St), (mpr, aI E 12 Pr), (mwa, aI E 2 Wa), (mor, aI E 6 (fun j => nI (u.2.1 j))), (mbo, aI E 6 u.2.2)]) (fun u => some (.int (if x = -1 then nI (List.foldl (ordStep (m, sf, wa, ti, r) (freshN lp s) (fillW (nI (2 ^ m - 1)) ρ0 6).1 xs x) (0, -1) (rowsG (fillW (nI (2 ^ m - 1)) ρ0 6).1 720 (fillW (nI (2 ^ m - 1)) ρ0 6).2)).1 else (List.foldl (ordStep (m, sf, wa, ti, r) (freshN lp s) (fillW (nI (2 ^ m - 1)) ρ0 6).1 xs x) (0, -1) (rowsG (fillW (nI (2 ^ m - 1)) ρ0 6).1 720 (fillW (nI (2 ^ m - 1)) ρ0 6).2)).2))) (fun u => True)) := by
  refine CT.ofV (by decide +kernel) (Nat.le_of_ble_eq_true rfl) ?_
  obtain ⟨Z, hZ⟩ : ∃ Z, Z = mZ E (qP L h (fun (u : MR × (Nat → Nat) × (Nat → Int32)) => [(o, ob 10 [.ref mw, .ref mk, .ref mt, .ref mr, .ref mki, .ref mso, .ref mst, .ref mpr, .ref msh, .ref mwa, .ref mpu, .ref mtx, .int ts, .int ma, .int bg, .int wr, .int cl, .int um, .ref mor, .ref mbo, .int (nI (fillW (nI (2 ^ m - 1)) ρ0 6).1), .ref tO, .ref tVi, .ref tSm, .int tm]), (msh, aI E 2 Sh), (mpu, aI E 2 Pu), (mw, aI E 192 (mW (va_up ρ 1 u.1))), (mr, aI E 8 Re), (mt, aI E 8 Ti), (mki, aI E 12 Ki), (mso, aI E 12 So), (mst, aI E 12 St), (mpr, aI E 12 Pr), (mwa, aI E 2 Wa), (mor, aI E 6 (fun j => nI (u.2.1 j))), (mbo, aI E 6 u.2.2)]) (fun u => some (.int (if x = -1 then nI (List.foldl (ordStep (m, sf, wa, ti, r) (freshN lp s) (fillW (nI (2 ^ m - 1)) ρ0 6).1 xs x) (0, -1) (rowsG (fillW (nI (2 ^ m - 1)) ρ0 6).1 720 (fillW (nI (2 ^ m - 1)) ρ0 6).2)).1 else (List.foldl (ordStep (m, sf, wa, ti, r) (freshN lp s) (fillW (nI (2 ^ m - 1)) ρ0 6).1 xs x) (0, -1) (rowsG (fillW (nI (2 ^ m - 1)) ρ0 6).1 720 (fillW (nI (2 ^ m - 1)) ρ0 6).2)).2))) (fun u => True)) 0 0 := ⟨_, rfl⟩
  rw [← hZ]
  refine V.locals2 (lv2 := [(0, .ref o), (1, .int xs), (2, .int x)]) rfl ?_
  refine V.aload_n dX11_orders_0 0 rfl ?_
  refine V.iload_n dX11_orders_1 1 rfl ?_
  refine V.callVp (As := [.int xs]) (rest := []) [0, 1] (c_M_isSet E l L _ o mw mk mt mr mki mso mst mpr msh mwa mpu mtx mor mbo tO tVi tSm ts ma bg wr cl um mn tm Sh m xs (eM) (hm)) rfl (by decide) mi_X11_isSet 0 rfl rfl w_941 w_943 wp_26 rfl rfl (Nat.le_of_ble_eq_true rfl) ⟨by decide, by decide⟩ ⟨by decide, by decide⟩ dX11_orders_2 (vw2 := fun _ => [(o, ob 10 [.ref mw, .ref mk, .ref mt, .ref mr, .ref mki, .ref mso, .ref mst, .ref mpr, .ref msh, .ref mwa, .ref mpu, .ref mtx, .int ts, .int ma, .int bg, .int wr, .int cl, .int um, .ref mor, .ref mbo, .int mn, .ref tO, .ref tVi, .ref tSm, .int tm]), (msh, aI E 2 Sh), (mpu, aI E 2 Pu), (mw, aI E 192 (mW ρ)), (mr, aI E 8 Re), (mt, aI E 8 Ti), (mki, aI E 12 Ki), (mso, aI E 12 So), (mst, aI E 12 St), (mpr, aI E 12 Pr), (mwa, aI E 2 Wa), (mor, aI E 6 (fun j => nI (ω0 j))), (mbo, aI E 6 bo)]) (st2 := fun _ => [.int (withinI xs 0 (nI (2 ^ m - 1)))]) (fun _ => rfl) (fun _ => rfl) (fun _ => rfl) (fun _ _ => ?_)
  refine V.topc (v := 1) (hx) ?_
  refine V.if_ne (tgt := 11) dX11_orders_5 (by decide) (fun _ => ?_) (fun hc => absurd hc (by decide))
  refine V.iload_n dX11_orders_11 2 rfl ?_
  refine V.i2l dX11_orders_12 ?_
  refine V.ldc2 dX11_orders_13 w_999 ?_
  refine V.stack (st2 := [.long (Int32.toInt64 (-1)), .long (Int32.toInt64 x)]) (congrArg (fun z64 => Value.long z64 :: [.long (Int32.toInt64 x)]) (show (-1 : Int64) = Int32.toInt64 (-1) by decide)) ?_
  refine V.ldc2 dX11_orders_16 w_1000 ?_
  refine V.stack (st2 := [.long (Int32.toInt64 5), .long (Int32.toInt64 (-1)), .long (Int32.toInt64 x)]) (congrArg (fun z64 => Value.long z64 :: [.long (Int32.toInt64 (-1)), .long (Int32.toInt64 x)]) (show (5 : Int64) = Int32.toInt64 5 by decide)) ?_
  refine V.callSp (As := [.long (Int32.toInt64 x), .long (Int32.toInt64 (-1)), .long (Int32.toInt64 5)]) (rest := []) [] (c_M_in E l L _ x ((-1)) 5) rfl (by decide) mi_X11_in w_789 w_790 rfl rfl (Nat.le_of_ble_eq_true rfl) ⟨by decide, by decide⟩ ⟨by decide, by decide⟩ dX11_orders_19 (vw2 := fun _ => [(o, ob 10 [.ref mw, .ref mk, .ref mt, .ref mr, .ref mki, .ref mso, .ref mst, .ref mpr, .ref msh, .ref mwa, .ref mpu, .ref mtx, .int ts, .int ma, .int bg, .int wr, .int cl, .int um, .ref mor, .ref mbo, .int mn, .ref tO, .ref tVi, .ref tSm, .int tm]), (msh, aI E 2 Sh), (mpu, aI E 2 Pu), (mw, aI E 192 (mW ρ)), (mr, aI E 8 Re), (mt, aI E 8 Ti), (mki, aI E 12 Ki), (mso, aI E 12 So), (mst, aI E 12 St), (mpr, aI E 12 Pr), (mwa, aI E 2 Wa), (mor, aI E 6 (fun j => nI (ω0 j))), (mbo, aI E 6 bo)]) (st2 := fun _ => [.int (withinI x (-1) 5)]) (fun _ => rfl) (fun _ => rfl) (fun _ => rfl) (fun _ _ => ?_)
  refine V.topc (v := 1) (hi) ?_
  refine V.if_ne (tgt := 28) dX11_orders_22 (by decide) (fun _ => ?_) (fun hc => absurd hc (by decide))
  refine V.iconst (v := 0) dX11_orders_28 (by decide) ?_
  refine V.istore_n (lv2 := [(3, .int 0), (0, .ref o), (1, .int xs), (2, .int x)]) dX11_orders_29 rfl (by decide) rfl ?_
  refine V.aload_n dX11_orders_30 1 rfl ?_
  refine V.iconst (v := 1) dX11_orders_31 (by decide) ?_
  refine V.aload_n dX11_orders_32 1 rfl ?_
  refine V.getf 0 8 rfl fa_X11_35_10 rfl dX11_orders_33 ?_
  refine V.iconst (v := 0) dX11_orders_36 (by decide) ?_
  refine V.iald 1 rfl (vin rfl) dX11_orders_37 ?_
  refine V.topc (v := (Sh 0)) (rfl) ?_
  refine V.topc (v := (nI m)) (eM) ?_
  refine V.ishl dX11_orders_38 ?_
  refine V.iconst (v := 1) dX11_orders_39 (by decide) ?_
  refine V.isub dX11_orders_40 ?_
  refine V.topc (v := (nI (2 ^ m - 1))) (allI m (by omega)) ?_
  refine V.callVp (As := [.int (nI (2 ^ m - 1))]) (rest := []) [0, 1, 11] (c_M_firstOrder E l L _ o mw mk mt mr mki mso mst mpr msh mwa mpu mtx mor mbo tO tVi tSm ts ma bg wr cl um tm Sh m ω0 ((nI (2 ^ m - 1))) mn (eM) (hm)) rfl (by decide) mi_X11_firstOrder 0 rfl rfl w_948 w_950 wp_27 rfl rfl (Nat.le_of_ble_eq_true rfl) ⟨by decide, by decide⟩ ⟨by decide, by decide⟩ dX11_orders_41 (vw2 := fun _ => [(o, ob 10 [.ref mw, .ref mk, .ref mt, .ref mr, .ref mki, .ref mso, .ref mst, .ref mpr, .ref msh, .ref mwa, .ref mpu, .ref mtx, .int ts, .int ma, .int bg, .int wr, .int cl, .int um, .ref mor, .ref mbo, .int (nI (fillW (nI (2 ^ m - 1)) ω0 m).1), .ref tO, .ref tVi, .ref tSm, .int tm]), (msh, aI E 2 Sh), (mpu, aI E 2 Pu), (mw, aI E 192 (mW ρ)), (mr, aI E 8 Re), (mt, aI E 8 Ti), (mki, aI E 12 Ki), (mso, aI E 12 So), (mst, aI E 12 St), (mpr, aI E 12 Pr), (mwa, aI E 2 Wa), (mor, aI E 6 (fun j => nI ((fillW (nI (2 ^ m - 1)) ω0 m).2 j))), (mbo, aI E 6 bo)]) (st2 := fun _ => [.int 1]) (fun _ => rfl) (fun _ => rfl) (fun _ => rfl) (fun _ _ => ?_)
  obtain ⟨-, hNe, hag0, hπ0, hNm, hend0⟩ := setRow hm (within_in (lo := 0) (Nat.zero_le _) (Nat.le_refl _) (by have := Nat.pow_le_pow_right (n := 2) (by decide) hm; omega)) ρ0 ω0
  rw [hNe]
  clear hNe
  have hinj0 : ∀ x z, x < (fillW (nI (2 ^ m - 1)) ρ0 6).1 → z < (fillW (nI (2 ^ m - 1)) ρ0 6).1 → (fillW (nI (2 ^ m - 1)) ρ0 6).2 x = (fillW (nI (2 ^ m - 1)) ρ0 6).2 z → x = z := fun x z hx9 hz9 e9 => (Nat.lt_trichotomy x z).elim (fun h9 => absurd (fillW_mono _ _ _ x z h9 hz9) (by omega)) (fun h9 => h9.elim id (fun h9 => absurd (fillW_mono _ _ _ z x h9 hx9) (by omega)))
  generalize hω1 : (fillW (nI (2 ^ m - 1)) ω0 m).2 = ω1 at hag0 ⊢
  generalize hN : (fillW (nI (2 ^ m - 1)) ρ0 6).1 = N at hag0 hπ0 hNm hend0 hinj0 hZ ⊢
  generalize hπ1 : (fillW (nI (2 ^ m - 1)) ρ0 6).2 = π1 at hag0 hπ0 hend0 hinj0 hZ
  refine V.arrEq (vw2 := [(o, ob 10 [.ref mw, .ref mk, .ref mt, .ref mr, .ref mki, .ref mso, .ref mst, .ref mpr, .ref msh, .ref mwa, .ref mpu, .ref mtx, .int ts, .int ma, .int bg, .int wr, .int cl, .int um, .ref mor, .ref mbo, .int (nI N), .ref tO, .ref tVi, .ref tSm, .int tm]), (msh, aI E 2 Sh), (mpu, aI E 2 Pu), (mw, aI E 192 (mW (va_up ρ 1 (ρ 1)))), (mr, aI E 8 Re), (mt, aI E 8 Ti), (mki, aI E 12 Ki), (mso, aI E 12 So), (mst, aI E 12 St), (mpr, aI E 12 Pr), (mwa, aI E 2 Wa), (mor, aI E 6 (fun j => nI (ω1 j))), (mbo, aI E 6 bo)]) 3 0 rfl (fun j _ => by rw [va_up_id rfl]) rfl ?_
  refine V.istore (lv2 := [(4, .int 1), (3, .int 0), (0, .ref o), (1, .int xs), (2, .int x)]) dX11_orders_44 (by decide) rfl ?_
  refine V.locals [2, 3, 4, 1, 0] (by rfl) ?_
  have lp_46 : ∀ (fuel : Nat) (ω : Nat → Nat) (π : Nat → Nat) (X : MR) (q : Nat × Int32) (mo : Int32) (b2 : Nat → Int32) (d : Nat) (hag : ∀ j, j < N → ω j = π j) (hπm : ∀ j, j < N → π j < m) (hinj : ∀ x z, x < N → z < N → π x = π z → x = z) (hmo : (mo = 1 ∧ endsG N d π ∧ List.foldl (ordStep (m, sf, wa, ti, r) (freshN lp s) N xs x) q (rowsG N d π) = (List.foldl (ordStep (m, sf, wa, ti, r) (freshN lp s) N xs x) (0, -1) (rowsG N 720 π1))) ∨ (mo = 0 ∧ q = (List.foldl (ordStep (m, sf, wa, ti, r) (freshN lp s) N xs x) (0, -1) (rowsG N 720 π1)))) (hrel : oRel N x q b2) (hqd : q.1 + d ≤ 720) (hf : d < fuel), V E l yX11_orders cX11_orders 7 (some (.int)) (rmk 4 0 0) Z L h 0 0 [(o, ob 10 [.ref mw, .ref mk, .ref mt, .ref mr, .ref mki, .ref mso, .ref mst, .ref mpr, .ref msh, .ref mwa, .ref mpu, .ref mtx, .int ts, .int ma, .int bg, .int wr, .int cl, .int um, .ref mor, .ref mbo, .int (nI N), .ref tO, .ref tVi, .ref tSm, .int tm]), (msh, aI E 2 Sh), (mpu, aI E 2 Pu), (mw, aI E 192 (mW (va_up ρ 1 X))), (mr, aI E 8 Re), (mt, aI E 8 Ti), (mki, aI E 12 Ki), (mso, aI E 12 So), (mst, aI E 12 St), (mpr, aI E 12 Pr), (mwa, aI E 2 Wa), (mor, aI E 6 (fun j => nI (ω j))), (mbo, aI E 6 b2)] 46 [(0, .ref o), (1, .int xs), (2, .int x), (3, .int (nI q.1)), (4, .int mo)] [] := by
    intro fuel
    induction fuel with
    | zero =>
      intro ω π X q mo b2 d hag hπm hinj hmo hrel hqd hf
      exfalso; omega
    | succ fuel ih_46 =>
      intro ω π X q mo b2 d hag hπm hinj hmo hrel hqd hf
      refine V.iload dX11_orders_46 4 rfl ?_
      refine V.if_eq (tgt := 140) dX11_orders_48 (by decide) (fun c1_48 => ?_) (fun c1_48 => ?_)
      · skip
        have hfin : q = (List.foldl (ordStep (m, sf, wa, ti, r) (freshN lp s) N xs x) (0, -1) (rowsG N 720 π1)) := (hmo.resolve_left (fun hh => absurd (hh.1.symm.trans c1_48) (by decide))).2
        refine V.iload_n dX11_orders_140 2 rfl ?_
        refine V.iconst (v := (-1)) dX11_orders_141 (by decide) ?_
        refine V.icmp_ne (tgt := 149) dX11_orders_142 (by decide) (fun c2_142 => ?_) (fun c2_142 => ?_)
        · skip
          obtain ⟨xx, hxx, ex⟩ := within_m1 hi c2_142
          refine V.iload_n dX11_orders_149 3 rfl ?_
          refine V.if_eq (tgt := 161) dX11_orders_150 (by decide) (fun c3_150 => ?_) (fun c3_150 => ?_)
          · skip
            have hq0 : q.1 = 0 := (nI_eq (b := 0) (by omega) (by omega)).mp c3_150
            have hq2 := (hrel.resolve_right (fun hh => hh.1 hq0)).2
            refine V.iconst (v := (-1)) dX11_orders_161 (by decide) ?_
            refine V.goto (tgt := 171) dX11_orders_162 (by decide) ?_
            subst hZ
            exact V.iret rfl dX11_orders_171 (⟨(X, ω, b2), by rw [if_neg c2_142, ← hfin, hq2], rfl, rfl, trivial⟩)
          · skip
            have hq0 : ¬ q.1 = 0 := fun hh => c3_150 (by rw [hh]; rfl)
            have hq2 := (hrel.resolve_left (fun hh => hq0 hh.1)).2
            refine V.iload_n dX11_orders_153 2 rfl ?_
            refine V.aload_n dX11_orders_154 0 rfl ?_
            refine V.getf 0 20 rfl fa_X11_188_10 rfl dX11_orders_155 ?_
            refine V.icmp_lt (tgt := 165) dX11_orders_158 (by decide) (fun c4_158 => ?_) (fun c4_158 => ?_)
            · skip
              have hlt : xx < N := (nI_ltI (by omega) (by omega)).mp (ex ▸ c4_158)
              have hsb : shB b2 N x = b2 xx := by unfold shB; rw [ex, if_pos (within_nI hlt (by omega)), nI_clamp (by omega)]
              refine V.aload_n dX11_orders_165 0 rfl ?_
              refine V.getf 0 19 rfl fa_X11_50_10 rfl dX11_orders_166 ?_
              refine V.iload_n dX11_orders_169 2 rfl ?_
              refine V.iald 12 rfl (by rw [ex]; exact vinI (by omega)) dX11_orders_170 ?_
              refine V.topc (v := (b2 xx)) (by rw [ex, nI_clamp (by omega)]) ?_
              subst hZ
              exact V.iret rfl dX11_orders_171 (⟨(X, ω, b2), by rw [if_neg c2_142, ← hfin, hq2, hsb], rfl, rfl, trivial⟩)
            · skip
              have hlt : ¬ xx < N := fun hh => c4_158 (ex ▸ nI_lt hh (by omega))
              have hsb : shB b2 N x = -1 := by unfold shB; rw [if_neg (fun h9 => hlt (by obtain ⟨k9, hk9, e9⟩ := within_of (by omega) h9; rw [ex] at e9; have := (nI_eq (by omega) (by omega)).mp e9; omega))]
              refine V.iconst (v := (-1)) dX11_orders_161 (by decide) ?_
              refine V.goto (tgt := 171) dX11_orders_162 (by decide) ?_
              subst hZ
              exact V.iret rfl dX11_orders_171 (⟨(X, ω, b2), by rw [if_neg c2_142, ← hfin, hq2, hsb], rfl, rfl, trivial⟩)
        · skip
          refine V.iload_n dX11_orders_145 3 rfl ?_
          refine V.goto (tgt := 171) dX11_orders_146 (by decide) ?_
          subst hZ
          exact V.iret rfl dX11_orders_171 (⟨(X, ω, b2), by rw [if_pos c2_142, ← hfin], rfl, rfl, trivial⟩)
      · skip
        obtain ⟨-, hen, hrun⟩ := hmo.resolve_right (fun hh => c1_48 hh.1)
        obtain ⟨d9, rfl⟩ := endsG_pos hen
        refine V.aload_n dX11_orders_51 0 rfl ?_
        refine V.iconst (v := 0) dX11_orders_52 (by decide) ?_
        refine V.bipush (v := 16) dX11_orders_53 (by decide) ?_
        refine V.callVp (As := [.int 0, .int 16]) (rest := []) [0, 3] (c_M_copy E l L _ o mw mk mt mr mki mso mst mpr msh mwa mpu mtx mor mbo tO tVi tSm ts ma bg wr cl um ((nI N)) tm ((va_up ρ 1 X)) 0 1 (by decide) (by decide) (by decide)) rfl (by decide) mi_X11_copy 0 rfl rfl w_879 w_881 wp_19 rfl rfl (Nat.le_of_ble_eq_true rfl) ⟨by decide, by decide⟩ ⟨by decide, by decide⟩ dX11_orders_55 (vw2 := fun _ => [(o, ob 10 [.ref mw, .ref mk, .ref mt, .ref mr, .ref mki, .ref mso, .ref mst, .ref mpr, .ref msh, .ref mwa, .ref mpu, .ref mtx, .int ts, .int ma, .int bg, .int wr, .int cl, .int um, .ref mor, .ref mbo, .int (nI N), .ref tO, .ref tVi, .ref tSm, .int tm]), (msh, aI E 2 Sh), (mpu, aI E 2 Pu), (mw, aI E 192 (mW (va_up (va_up ρ 1 X) 1 ((va_up ρ 1 X) 0)))), (mr, aI E 8 Re), (mt, aI E 8 Ti), (mki, aI E 12 Ki), (mso, aI E 12 So), (mst, aI E 12 St), (mpr, aI E 12 Pr), (mwa, aI E 2 Wa), (mor, aI E 6 (fun j => nI (ω j))), (mbo, aI E 6 b2)]) (st2 := fun _ => []) (fun _ => rfl) (fun _ => rfl) (fun _ => rfl) (fun _ _ => ?_)
        refine V.arrEq (vw2 := [(o, ob 10 [.ref mw, .ref mk, .ref mt, .ref mr, .ref mki, .ref mso, .ref mst, .ref mpr, .ref msh, .ref mwa, .ref mpu, .ref mtx, .int ts, .int ma, .int bg, .int wr, .int cl, .int um, .ref mor, .ref mbo, .int (nI N), .ref tO, .ref tVi, .ref tSm, .int tm]), (msh, aI E 2 Sh), (mpu, aI E 2 Pu), (mw, aI E 192 (mW (va_up ρ 1 (pw, s)))), (mr, aI E 8 Re), (mt, aI E 8 Ti), (mki, aI E 12 Ki), (mso, aI E 12 So), (mst, aI E 12 St), (mpr, aI E 12 Pr), (mwa, aI E 2 Wa), (mor, aI E 6 (fun j => nI (ω j))), (mbo, aI E 6 b2)]) 3 0 rfl (fun j _ => by rw [va_up_up, va_up_ne _ _ (by decide), hR]) rfl ?_
        refine V.aload_n dX11_orders_58 0 rfl ?_
        refine V.bipush (v := 16) dX11_orders_59 (by decide) ?_
        refine V.callVp (As := [.int 16]) (rest := []) [0, 3, 2] (c_M_fresh E l L _ o mw mk mt mr mki mso mst mpr msh mwa mpu mtx mor mbo tO tVi tSm ts ma bg wr cl um ((nI N)) tm ((va_up ρ 1 (pw, s))) 1 pw s Pu lp (by decide) (va_up_self _ _ _) (ePu)) rfl (by decide) mi_X11_fresh 0 rfl rfl w_847 w_849 wp_16 rfl rfl (Nat.le_of_ble_eq_true rfl) ⟨by decide, by decide⟩ ⟨by decide, by decide⟩ dX11_orders_61 (vw2 := fun _ => [(o, ob 10 [.ref mw, .ref mk, .ref mt, .ref mr, .ref mki, .ref mso, .ref mst, .ref mpr, .ref msh, .ref mwa, .ref mpu, .ref mtx, .int ts, .int ma, .int bg, .int wr, .int cl, .int um, .ref mor, .ref mbo, .int (nI N), .ref tO, .ref tVi, .ref tSm, .int tm]), (msh, aI E 2 Sh), (mpu, aI E 2 Pu), (mw, aI E 192 (mW (va_up (va_up ρ 1 (pw, s)) 1 (pw, (freshN lp s))))), (mr, aI E 8 Re), (mt, aI E 8 Ti), (mki, aI E 12 Ki), (mso, aI E 12 So), (mst, aI E 12 St), (mpr, aI E 12 Pr), (mwa, aI E 2 Wa), (mor, aI E 6 (fun j => nI (ω j))), (mbo, aI E 6 b2)]) (st2 := fun _ => []) (fun _ => rfl) (fun _ => rfl) (fun _ => rfl) (fun _ _ => ?_)
        refine V.arrEq (vw2 := [(o, ob 10 [.ref mw, .ref mk, .ref mt, .ref mr, .ref mki, .ref mso, .ref mst, .ref mpr, .ref msh, .ref mwa, .ref mpu, .ref mtx, .int ts, .int ma, .int bg, .int wr, .int cl, .int um, .ref mor, .ref mbo, .int (nI N), .ref tO, .ref tVi, .ref tSm, .int tm]), (msh, aI E 2 Sh), (mpu, aI E 2 Pu), (mw, aI E 192 (mW (va_up ρ 1 (pw, (freshN lp s))))), (mr, aI E 8 Re), (mt, aI E 8 Ti), (mki, aI E 12 Ki), (mso, aI E 12 So), (mst, aI E 12 St), (mpr, aI E 12 Pr), (mwa, aI E 2 Wa), (mor, aI E 6 (fun j => nI (ω j))), (mbo, aI E 6 b2)]) 3 0 rfl (fun j _ => mW_ups j) rfl ?_
        refine V.iconst (v := 0) dX11_orders_64 (by decide) ?_
        refine V.istore (lv2 := [(5, .int 0), (0, .ref o), (1, .int xs), (2, .int x), (3, .int (nI q.1)), (4, .int mo)]) dX11_orders_65 (by decide) rfl ?_
        refine V.locals [1, 2, 3, 4, 5, 0] (by rfl) ?_
        have lp_67 : ∀ (fuel : Nat) (i : Nat) (T : NS) (hi9 : i ≤ N) (hT : T = (walkN (m, sf, wa, ti, r) ω (freshN lp s) i)) (hf2 : N < i + fuel), V E l yX11_orders cX11_orders 7 (some (.int)) (rmk 4 0 0) Z L h 0 0 [(o, ob 10 [.ref mw, .ref mk, .ref mt, .ref mr, .ref mki, .ref mso, .ref mst, .ref mpr, .ref msh, .ref mwa, .ref mpu, .ref mtx, .int ts, .int ma, .int bg, .int wr, .int cl, .int um, .ref mor, .ref mbo, .int (nI N), .ref tO, .ref tVi, .ref tSm, .int tm]), (msh, aI E 2 Sh), (mpu, aI E 2 Pu), (mw, aI E 192 (mW (va_up ρ 1 (pw, T)))), (mr, aI E 8 Re), (mt, aI E 8 Ti), (mki, aI E 12 Ki), (mso, aI E 12 So), (mst, aI E 12 St), (mpr, aI E 12 Pr), (mwa, aI E 2 Wa), (mor, aI E 6 (fun j => nI (ω j))), (mbo, aI E 6 b2)] 67 [(0, .ref o), (1, .int xs), (2, .int x), (3, .int (nI q.1)), (4, .int mo), (5, .int (nI i))] [] := by
          intro fuel
          induction fuel with
          | zero =>
            intro i T hi9 hT hf2
            exfalso; omega
          | succ fuel ih_67 =>
            intro i T hi9 hT hf2
            refine V.iload dX11_orders_67 5 rfl ?_
            refine V.aload_n dX11_orders_69 0 rfl ?_
            refine V.getf 0 20 rfl fa_X11_188_10 rfl dX11_orders_70 ?_
            refine V.icmp_ge (tgt := 109) dX11_orders_73 (by decide) (fun c5_73 => ?_) (fun c5_73 => ?_)
            · skip
              have hxc5_73 : N ≤ i := (nI_leI (a := N) (by omega) (by omega)).mp c5_73
              have hqc5_73 : i = N := by omega
              refine V.aload_n dX11_orders_109 0 rfl ?_
              refine V.getf 0 0 rfl fa_X11_7_10 rfl dX11_orders_110 ?_
              refine V.bipush (v := 29) dX11_orders_113 (by decide) ?_
              refine V.iald 3 rfl (vin rfl) dX11_orders_115 ?_
              refine V.topc (v := ((mW (va_up ρ 1 (pw, T))) 29)) (rfl) ?_
              refine V.topc (v := T.2.2.2.2.2.1) ((mW_bo (i := 1) (va_up_self _ _ _)).trans rfl) ?_
              refine V.iload_n dX11_orders_116 1 rfl ?_
              refine V.icmp_ne (tgt := 131) dX11_orders_117 (by decide) (fun c6_117 => ?_) (fun c6_117 => ?_)
              · skip
                have hbo : T.2.2.2.2.2.1 = (walkN (m, sf, wa, ti, r) π (freshN lp s) N).2.2.2.2.2.1 := by rw [hT, hqc5_73, walkN_congr (fun j hj => hag j hj)]
                have hbs9 : ordStep (m, sf, wa, ti, r) (freshN lp s) N xs x q π = q := if_neg (fun hh => c6_117 (hbo.trans hh))
                refine V.aload_n dX11_orders_131 0 rfl ?_
                rcases stepR_rel (M := m) (σ := id) rel_id hag hπm with ⟨h1, h2⟩ | ⟨a, b, h1, h2, h3, h4⟩
                · skip
                  refine V.callVp (As := []) (rest := []) [0, 11] (c_M_nextN E l L _ o mw mk mt mr mki mso mst mpr msh mwa mpu mtx mor mbo tO tVi tSm ts ma bg wr cl um tm N ω (by omega) (fun i hi => by rw [hag i hi]; have := hπm i hi; omega) (h1)) rfl (by decide) mi_X11_nextOrder 0 rfl rfl w_960 w_962 wp_30 rfl rfl (Nat.le_of_ble_eq_true rfl) ⟨by decide, by decide⟩ ⟨by decide, by decide⟩ dX11_orders_132 (vw2 := fun _ => [(o, ob 10 [.ref mw, .ref mk, .ref mt, .ref mr, .ref mki, .ref mso, .ref mst, .ref mpr, .ref msh, .ref mwa, .ref mpu, .ref mtx, .int ts, .int ma, .int bg, .int wr, .int cl, .int um, .ref mor, .ref mbo, .int (nI N), .ref tO, .ref tVi, .ref tSm, .int tm]), (msh, aI E 2 Sh), (mpu, aI E 2 Pu), (mw, aI E 192 (mW (va_up ρ 1 (pw, T)))), (mr, aI E 8 Re), (mt, aI E 8 Ti), (mki, aI E 12 Ki), (mso, aI E 12 So), (mst, aI E 12 St), (mpr, aI E 12 Pr), (mwa, aI E 2 Wa), (mor, aI E 6 (fun j => nI (ω j))), (mbo, aI E 6 b2)]) (st2 := fun _ => [.int 0]) (fun _ => rfl) (fun _ => rfl) (fun _ => rfl) (fun _ _ => ?_)
                  refine V.istore (lv2 := [(4, .int 0), (0, .ref o), (1, .int xs), (2, .int x), (3, .int (nI q.1)), (5, .int (nI i))]) dX11_orders_135 (by decide) rfl ?_
                  refine V.goto (tgt := 46) dX11_orders_137 (by decide) ?_
                  refine V.locals [1, 2, 3, 4, 0] (by rfl) ?_
                  exact ih_46 ω π _ q _ _ d9 hag hπm hinj (Or.inr ⟨rfl, by rw [rowsG_none h2] at hrun; exact hbs9.symm.trans hrun⟩) hrel (by first | omega | (simp only []; omega)) (by omega)
                · skip
                  refine V.callVp (As := []) (rest := []) [0, 11] (c_M_nextS E l L _ o mw mk mt mr mki mso mst mpr msh mwa mpu mtx mor mbo tO tVi tSm ts ma bg wr cl um tm N ω a (by omega) (fun i hi => by rw [hag i hi]; have := hπm i hi; omega) (h1)) rfl (by decide) mi_X11_nextOrder 0 rfl rfl w_960 w_962 wp_30 rfl rfl (Nat.le_of_ble_eq_true rfl) ⟨by decide, by decide⟩ ⟨by decide, by decide⟩ dX11_orders_132 (vw2 := fun _ => [(o, ob 10 [.ref mw, .ref mk, .ref mt, .ref mr, .ref mki, .ref mso, .ref mst, .ref mpr, .ref msh, .ref mwa, .ref mpu, .ref mtx, .int ts, .int ma, .int bg, .int wr, .int cl, .int um, .ref mor, .ref mbo, .int (nI N), .ref tO, .ref tVi, .ref tSm, .int tm]), (msh, aI E 2 Sh), (mpu, aI E 2 Pu), (mw, aI E 192 (mW (va_up ρ 1 (pw, T)))), (mr, aI E 8 Re), (mt, aI E 8 Ti), (mki, aI E 12 Ki), (mso, aI E 12 So), (mst, aI E 12 St), (mpr, aI E 12 Pr), (mwa, aI E 2 Wa), (mor, aI E 6 (fun j => nI (a j))), (mbo, aI E 6 b2)]) (st2 := fun _ => [.int 1]) (fun _ => rfl) (fun _ => rfl) (fun _ => rfl) (fun _ _ => ?_)
                  refine V.istore (lv2 := [(4, .int 1), (0, .ref o), (1, .int xs), (2, .int x), (3, .int (nI q.1)), (5, .int (nI i))]) dX11_orders_135 (by decide) rfl ?_
                  refine V.goto (tgt := 46) dX11_orders_137 (by decide) ?_
                  refine V.locals [1, 2, 3, 4, 0] (by rfl) ?_
                  exact ih_46 a b _ q _ _ d9 h3 h4 (stepR_inj h2 hinj) (Or.inl ⟨rfl, endsG_s hen h2, by rw [rowsG_some h2] at hrun; rw [← hbs9]; exact hrun⟩) hrel (by first | omega | (simp only []; omega)) (by omega)
              · skip
                have hbo : T.2.2.2.2.2.1 = (walkN (m, sf, wa, ti, r) π (freshN lp s) N).2.2.2.2.2.1 := by rw [hT, hqc5_73, walkN_congr (fun j hj => hag j hj)]
                refine V.iload_n dX11_orders_120 3 rfl ?_
                refine V.if_ne (tgt := 128) dX11_orders_121 (by decide) (fun c7_121 => ?_) (fun c7_121 => ?_)
                · skip
                  have hq0 : ¬ q.1 = 0 := fun hh => c7_121 (by rw [hh]; rfl)
                  have hbs9 : ordStep (m, sf, wa, ti, r) (freshN lp s) N xs x q π = (q.1 + 1, q.2) := by unfold ordStep; rw [if_pos (hbo.symm.trans c6_117), if_neg hq0]
                  refine V.iinc (v := (nI (q.1 + 1))) (lv2 := [(3, .int (nI (q.1 + 1))), (0, .ref o), (1, .int xs), (2, .int x), (4, .int mo), (5, .int (nI i))]) dX11_orders_128 3 rfl (nI_1 _) (by decide) rfl ?_
                  refine V.aload_n dX11_orders_131 1 rfl ?_
                  rcases stepR_rel (M := m) (σ := id) rel_id hag hπm with ⟨h1, h2⟩ | ⟨a, b, h1, h2, h3, h4⟩
                  · skip
                    refine V.callVp (As := []) (rest := []) [0, 11] (c_M_nextN E l L _ o mw mk mt mr mki mso mst mpr msh mwa mpu mtx mor mbo tO tVi tSm ts ma bg wr cl um tm N ω (by omega) (fun i hi => by rw [hag i hi]; have := hπm i hi; omega) (h1)) rfl (by decide) mi_X11_nextOrder 0 rfl rfl w_960 w_962 wp_30 rfl rfl (Nat.le_of_ble_eq_true rfl) ⟨by decide, by decide⟩ ⟨by decide, by decide⟩ dX11_orders_132 (vw2 := fun _ => [(o, ob 10 [.ref mw, .ref mk, .ref mt, .ref mr, .ref mki, .ref mso, .ref mst, .ref mpr, .ref msh, .ref mwa, .ref mpu, .ref mtx, .int ts, .int ma, .int bg, .int wr, .int cl, .int um, .ref mor, .ref mbo, .int (nI N), .ref tO, .ref tVi, .ref tSm, .int tm]), (msh, aI E 2 Sh), (mpu, aI E 2 Pu), (mw, aI E 192 (mW (va_up ρ 1 (pw, T)))), (mr, aI E 8 Re), (mt, aI E 8 Ti), (mki, aI E 12 Ki), (mso, aI E 12 So), (mst, aI E 12 St), (mpr, aI E 12 Pr), (mwa, aI E 2 Wa), (mor, aI E 6 (fun j => nI (ω j))), (mbo, aI E 6 b2)]) (st2 := fun _ => [.int 0]) (fun _ => rfl) (fun _ => rfl) (fun _ => rfl) (fun _ _ => ?_)
                    refine V.istore (lv2 := [(4, .int 0), (3, .int (nI (q.1 + 1))), (0, .ref o), (1, .int xs), (2, .int x), (5, .int (nI i))]) dX11_orders_135 (by decide) rfl ?_
                    refine V.goto (tgt := 46) dX11_orders_137 (by decide) ?_
                    refine V.locals [2, 3, 4, 1, 0] (by rfl) ?_
                    exact ih_46 ω π _ (q.1 + 1, q.2) _ _ d9 hag hπm hinj (Or.inr ⟨rfl, by rw [rowsG_none h2] at hrun; exact hbs9.symm.trans hrun⟩) (Or.inr ⟨Nat.succ_ne_zero _, (hrel.resolve_left (fun hh => hq0 hh.1)).2⟩) (by first | omega | (simp only []; omega)) (by omega)
                  · skip
                    refine V.callVp (As := []) (rest := []) [0, 11] (c_M_nextS E l L _ o mw mk mt mr mki mso mst mpr msh mwa mpu mtx mor mbo tO tVi tSm ts ma bg wr cl um tm N ω a (by omega) (fun i hi => by rw [hag i hi]; have := hπm i hi; omega) (h1)) rfl (by decide) mi_X11_nextOrder 0 rfl rfl w_960 w_962 wp_30 rfl rfl (Nat.le_of_ble_eq_true rfl) ⟨by decide, by decide⟩ ⟨by decide, by decide⟩ dX11_orders_132 (vw2 := fun _ => [(o, ob 10 [.ref mw, .ref mk, .ref mt, .ref mr, .ref mki, .ref mso, .ref mst, .ref mpr, .ref msh, .ref mwa, .ref mpu, .ref mtx, .int ts, .int ma, .int bg, .int wr, .int cl, .int um, .ref mor, .ref mbo, .int (nI N), .ref tO, .ref tVi, .ref tSm, .int tm]), (msh, aI E 2 Sh), (mpu, aI E 2 Pu), (mw, aI E 192 (mW (va_up ρ 1 (pw, T)))), (mr, aI E 8 Re), (mt, aI E 8 Ti), (mki, aI E 12 Ki), (mso, aI E 12 So), (mst, aI E 12 St), (mpr, aI E 12 Pr), (mwa, aI E 2 Wa), (mor, aI E 6 (fun j => nI (a j))), (mbo, aI E 6 b2)]) (st2 := fun _ => [.int 1]) (fun _ => rfl) (fun _ => rfl) (fun _ => rfl) (fun _ _ => ?_)
                    refine V.istore (lv2 := [(4, .int 1), (3, .int (nI (q.1 + 1))), (0, .ref o), (1, .int xs), (2, .int x), (5, .int (nI i))]) dX11_orders_135 (by decide) rfl ?_
                    refine V.goto (tgt := 46) dX11_orders_137 (by decide) ?_
                    refine V.locals [2, 3, 4, 1, 0] (by rfl) ?_
                    exact ih_46 a b _ (q.1 + 1, q.2) _ _ d9 h3 h4 (stepR_inj h2 hinj) (Or.inl ⟨rfl, endsG_s hen h2, by rw [rowsG_some h2] at hrun; rw [← hbs9]; exact hrun⟩) (Or.inr ⟨Nat.succ_ne_zero _, (hrel.resolve_left (fun hh => hq0 hh.1)).2⟩) (by first | omega | (simp only []; omega)) (by omega)
                · skip
                  have hq0 : q.1 = 0 := (nI_eq (b := 0) (by omega) (by omega)).mp c7_121
                  have hbs9 : ordStep (m, sf, wa, ti, r) (freshN lp s) N xs x q π = (q.1 + 1, shA π N x) := by unfold ordStep; rw [if_pos (hbo.symm.trans c6_117), if_pos hq0]
                  refine V.aload_n dX11_orders_124 0 rfl ?_
                  refine V.callVp (As := []) (rest := []) [0, 11, 12] (c_M_keepOrder E l L _ o mw mk mt mr mki mso mst mpr msh mwa mpu mtx mor mbo tO tVi tSm ts ma bg wr cl um tm N ω b2 (by omega)) rfl (by decide) mi_X11_keepOrder 0 rfl rfl w_956 w_958 wp_29 rfl rfl (Nat.le_of_ble_eq_true rfl) ⟨by decide, by decide⟩ ⟨by decide, by decide⟩ dX11_orders_125 (vw2 := fun _ => [(o, ob 10 [.ref mw, .ref mk, .ref mt, .ref mr, .ref mki, .ref mso, .ref mst, .ref mpr, .ref msh, .ref mwa, .ref mpu, .ref mtx, .int ts, .int ma, .int bg, .int wr, .int cl, .int um, .ref mor, .ref mbo, .int (nI N), .ref tO, .ref tVi, .ref tSm, .int tm]), (msh, aI E 2 Sh), (mpu, aI E 2 Pu), (mw, aI E 192 (mW (va_up ρ 1 (pw, T)))), (mr, aI E 8 Re), (mt, aI E 8 Ti), (mki, aI E 12 Ki), (mso, aI E 12 So), (mst, aI E 12 St), (mpr, aI E 12 Pr), (mwa, aI E 2 Wa), (mor, aI E 6 (fun j => nI (ω j))), (mbo, aI E 6 (kpO N ω b2))]) (st2 := fun _ => []) (fun _ => rfl) (fun _ => rfl) (fun _ => rfl) (fun _ _ => ?_)
                  refine V.iinc (v := (nI (q.1 + 1))) (lv2 := [(3, .int (nI (q.1 + 1))), (0, .ref o), (1, .int xs), (2, .int x), (4, .int mo), (5, .int (nI i))]) dX11_orders_128 3 rfl (nI_1 _) (by decide) rfl ?_
                  refine V.aload_n dX11_orders_131 1 rfl ?_
                  rcases stepR_rel (M := m) (σ := id) rel_id hag hπm with ⟨h1, h2⟩ | ⟨a, b, h1, h2, h3, h4⟩
                  · skip
                    refine V.callVp (As := []) (rest := []) [0, 11] (c_M_nextN E l L _ o mw mk mt mr mki mso mst mpr msh mwa mpu mtx mor mbo tO tVi tSm ts ma bg wr cl um tm N ω (by omega) (fun i hi => by rw [hag i hi]; have := hπm i hi; omega) (h1)) rfl (by decide) mi_X11_nextOrder 0 rfl rfl w_960 w_962 wp_30 rfl rfl (Nat.le_of_ble_eq_true rfl) ⟨by decide, by decide⟩ ⟨by decide, by decide⟩ dX11_orders_132 (vw2 := fun _ => [(o, ob 10 [.ref mw, .ref mk, .ref mt, .ref mr, .ref mki, .ref mso, .ref mst, .ref mpr, .ref msh, .ref mwa, .ref mpu, .ref mtx, .int ts, .int ma, .int bg, .int wr, .int cl, .int um, .ref mor, .ref mbo, .int (nI N), .ref tO, .ref tVi, .ref tSm, .int tm]), (msh, aI E 2 Sh), (mpu, aI E 2 Pu), (mw, aI E 192 (mW (va_up ρ 1 (pw, T)))), (mr, aI E 8 Re), (mt, aI E 8 Ti), (mki, aI E 12 Ki), (mso, aI E 12 So), (mst, aI E 12 St), (mpr, aI E 12 Pr), (mwa, aI E 2 Wa), (mor, aI E 6 (fun j => nI (ω j))), (mbo, aI E 6 (kpO N ω b2))]) (st2 := fun _ => [.int 0]) (fun _ => rfl) (fun _ => rfl) (fun _ => rfl) (fun _ _ => ?_)
                    refine V.istore (lv2 := [(4, .int 0), (3, .int (nI (q.1 + 1))), (0, .ref o), (1, .int xs), (2, .int x), (5, .int (nI i))]) dX11_orders_135 (by decide) rfl ?_
                    refine V.goto (tgt := 46) dX11_orders_137 (by decide) ?_
                    refine V.locals [2, 3, 4, 1, 0] (by rfl) ?_
                    exact ih_46 ω π _ (q.1 + 1, shA π N x) _ _ d9 hag hπm hinj (Or.inr ⟨rfl, by rw [rowsG_none h2] at hrun; exact hbs9.symm.trans hrun⟩) (Or.inr ⟨Nat.succ_ne_zero _, shA_kpO (by omega) hag⟩) (by first | omega | (simp only []; omega)) (by omega)
                  · skip
                    refine V.callVp (As := []) (rest := []) [0, 11] (c_M_nextS E l L _ o mw mk mt mr mki mso mst mpr msh mwa mpu mtx mor mbo tO tVi tSm ts ma bg wr cl um tm N ω a (by omega) (fun i hi => by rw [hag i hi]; have := hπm i hi; omega) (h1)) rfl (by decide) mi_X11_nextOrder 0 rfl rfl w_960 w_962 wp_30 rfl rfl (Nat.le_of_ble_eq_true rfl) ⟨by decide, by decide⟩ ⟨by decide, by decide⟩ dX11_orders_132 (vw2 := fun _ => [(o, ob 10 [.ref mw, .ref mk, .ref mt, .ref mr, .ref mki, .ref mso, .ref mst, .ref mpr, .ref msh, .ref mwa, .ref mpu, .ref mtx, .int ts, .int ma, .int bg, .int wr, .int cl, .int um, .ref mor, .ref mbo, .int (nI N), .ref tO, .ref tVi, .ref tSm, .int tm]), (msh, aI E 2 Sh), (mpu, aI E 2 Pu), (mw, aI E 192 (mW (va_up ρ 1 (pw, T)))), (mr, aI E 8 Re), (mt, aI E 8 Ti), (mki, aI E 12 Ki), (mso, aI E 12 So), (mst, aI E 12 St), (mpr, aI E 12 Pr), (mwa, aI E 2 Wa), (mor, aI E 6 (fun j => nI (a j))), (mbo, aI E 6 (kpO N ω b2))]) (st2 := fun _ => [.int 1]) (fun _ => rfl) (fun _ => rfl) (fun _ => rfl) (fun _ _ => ?_)
                    refine V.istore (lv2 := [(4, .int 1), (3, .int (nI (q.1 + 1))), (0, .ref o), (1, .int xs), (2, .int x), (5, .int (nI i))]) dX11_orders_135 (by decide) rfl ?_
                    refine V.goto (tgt := 46) dX11_orders_137 (by decide) ?_
                    refine V.locals [2, 3, 4, 1, 0] (by rfl) ?_
                    exact ih_46 a b _ (q.1 + 1, shA π N x) _ _ d9 h3 h4 (stepR_inj h2 hinj) (Or.inl ⟨rfl, endsG_s hen h2, by rw [rowsG_some h2] at hrun; rw [← hbs9]; exact hrun⟩) (Or.inr ⟨Nat.succ_ne_zero _, shA_kpO (by omega) hag⟩) (by first | omega | (simp only []; omega)) (by omega)
            · skip
              have hxc5_73 : i < N := Nat.lt_of_not_le (fun hh => c5_73 (nI_le (a := N) hh (by omega)))
              have hωi : ω i < m := by rw [hag i hxc5_73]; exact hπm i hxc5_73
              refine V.aload_n dX11_orders_76 0 rfl ?_
              refine V.bipush (v := 16) dX11_orders_77 (by decide) ?_
              refine V.aload_n dX11_orders_79 0 rfl ?_
              refine V.getf 0 18 rfl fa_X11_47_10 rfl dX11_orders_80 ?_
              refine V.iload dX11_orders_83 5 rfl ?_
              refine V.iald 11 rfl (vinI (by omega)) dX11_orders_85 ?_
              refine V.topc (v := (nI (ω i))) (by rw [nI_clamp (by omega)]) ?_
              refine V.aload_n dX11_orders_86 0 rfl ?_
              refine V.getf 0 4 rfl fa_X11_23_10 rfl dX11_orders_87 ?_
              refine V.aload_n dX11_orders_90 0 rfl ?_
              refine V.getf 0 18 rfl fa_X11_47_10 rfl dX11_orders_91 ?_
              refine V.iload dX11_orders_94 5 rfl ?_
              refine V.iald 11 rfl (vinI (by omega)) dX11_orders_96 ?_
              refine V.topc (v := (nI (ω i))) (by rw [nI_clamp (by omega)]) ?_
              refine V.iald 6 rfl (vinI (by omega)) dX11_orders_97 ?_
              refine V.topc (v := (Ki ((ω i)))) (by rw [nI_clamp (by omega)] <;> rfl) ?_
              refine V.topc (v := (kindI (sf (ω i)).1)) ((hTab (ω i) hωi).1) ?_
              refine V.callVp (As := [.int 16, .int (nI (ω i)), .int (kindI (sf (ω i)).1)]) (rest := []) [0, 3, 4, 5, 6, 7, 8, 9, 10] (c_M_visitW E l L _ o mw mk mt mr mki mso mst mpr msh mwa mpu mtx mor mbo tO tVi tSm ts ma bg wr cl um ((nI N)) tm ((va_up ρ 1 (pw, T))) 1 pw T Re r Ti ti Ki So St Pr Wa m sf wa ((ω i)) (by omega) (va_up_self _ _ _) (hTab) (hm) (eW) (hgR) (eR) (hgI) (eI) (hωi) ((ePl _ hωi).trans (by rw [(show T.2.2.2.2.2.2.2 = s.2.2.2.2.2.2.2 by rw [hT]; exact walkN_tu _ _ _ _)])) (by rw [hT]; exact gS_walk ((⟨fun j _ => ⟨0, by omega, rfl⟩, ⟨0, by omega, rfl⟩, ⟨0, by omega, rfl⟩⟩ : gS (freshN lp s))) hm i (fun j hj => by rw [hag j (by omega)]; exact hπm j (by omega)))) rfl (by decide) mi_X11_visitAs 0 rfl rfl w_899 w_901 wp_23 rfl rfl (Nat.le_of_ble_eq_true rfl) ⟨by decide, by decide⟩ ⟨by decide, by decide⟩ dX11_orders_98 (vw2 := fun _ => [(o, ob 10 [.ref mw, .ref mk, .ref mt, .ref mr, .ref mki, .ref mso, .ref mst, .ref mpr, .ref msh, .ref mwa, .ref mpu, .ref mtx, .int ts, .int ma, .int bg, .int wr, .int cl, .int um, .ref mor, .ref mbo, .int (nI N), .ref tO, .ref tVi, .ref tSm, .int tm]), (msh, aI E 2 Sh), (mpu, aI E 2 Pu), (mw, aI E 192 (mW (va_up (va_up ρ 1 (pw, T)) 1 (pw, (visitN (m, sf, wa, ti, r) (ω i) T))))), (mr, aI E 8 Re), (mt, aI E 8 Ti), (mki, aI E 12 Ki), (mso, aI E 12 So), (mst, aI E 12 St), (mpr, aI E 12 Pr), (mwa, aI E 2 Wa), (mor, aI E 6 (fun j => nI (ω j))), (mbo, aI E 6 b2)]) (st2 := fun _ => [.int (visitS (m, sf, wa, ti, r) (ω i) T)]) (fun _ => rfl) (fun _ => rfl) (fun _ => rfl) (fun _ _ => ?_)
              refine V.arrEq (vw2 := [(o, ob 10 [.ref mw, .ref mk, .ref mt, .ref mr, .ref mki, .ref mso, .ref mst, .ref mpr, .ref msh, .ref mwa, .ref mpu, .ref mtx, .int ts, .int ma, .int bg, .int wr, .int cl, .int um, .ref mor, .ref mbo, .int (nI N), .ref tO, .ref tVi, .ref tSm, .int tm]), (msh, aI E 2 Sh), (mpu, aI E 2 Pu), (mw, aI E 192 (mW (va_up ρ 1 (pw, visitN (m, sf, wa, ti, r) (ω i) T)))), (mr, aI E 8 Re), (mt, aI E 8 Ti), (mki, aI E 12 Ki), (mso, aI E 12 So), (mst, aI E 12 St), (mpr, aI E 12 Pr), (mwa, aI E 2 Wa), (mor, aI E 6 (fun j => nI (ω j))), (mbo, aI E 6 b2)]) 3 0 rfl (fun j _ => mW_ups j) rfl ?_
              refine V.istore (lv2 := [(6, .int (visitS (m, sf, wa, ti, r) (ω i) T)), (0, .ref o), (1, .int xs), (2, .int x), (3, .int (nI q.1)), (4, .int mo), (5, .int (nI i))]) dX11_orders_101 (by decide) rfl ?_
              refine V.iinc (v := (nI (i + 1))) (lv2 := [(5, .int (nI (i + 1))), (6, .int (visitS (m, sf, wa, ti, r) (ω i) T)), (0, .ref o), (1, .int xs), (2, .int x), (3, .int (nI q.1)), (4, .int mo)]) dX11_orders_103 6 rfl (nI_1 _) (by decide) rfl ?_
              refine V.goto (tgt := 67) dX11_orders_106 (by decide) ?_
              refine V.locals [2, 3, 4, 5, 6, 0] (by rfl) ?_
              exact ih_67 (i + 1) (visitN (m, sf, wa, ti, r) (ω i) T) (by omega) (by rw [hT]; rfl) (by omega)
        exact lp_67 (N + 1) 0 (freshN lp s) (Nat.zero_le _) rfl (by omega)
  exact lp_46 (721) ω1 π1 (ρ 1) (0, -1) 1 bo 720 hag0 hπ0 hinj0 (Or.inl ⟨rfl, hend0, rfl⟩) (Or.inl ⟨rfl, rfl⟩) (by omega) (by omega)

set_option maxHeartbeats 4000000 in
set_option maxRecDepth 100000 in
theorem c_M_byLotU (E : vEnv) (l : Launch) (L : List Nat) (h : Nat → va_E) (o : Nat) (mw : Nat) (mk : Nat) (mt : Nat) (mr : Nat) (mki : Nat) (mso : Nat) (mst : Nat) (mpr : Nat) (msh : Nat) (mwa : Nat) (mpu : Nat) (mtx : Nat) (mor : Nat) (mbo : Nat) (tO : Nat) (tVi : Nat) (tSm : Nat) (ts : Int32) (ma : Int32) (bg : Int32) (wr : Int32) (cl : Int32) (um : Int32) (mn : Int32) (tm : Int32) (Sh : Nat → Int32) (m : Nat) (x : Int32) (y : Int32) (z : Int32) (eM : Sh 0 = nI m) (hm : m ≤ 6) (hx : withinI x 0 (nI m - 1) = 0) : CT E l yX11_byLot cX11_byLot 9 (some (.int)) 2 0 0 L h [(o, ob 10 [.ref mw, .ref mk, .ref mt, .ref mr, .ref mki, .ref mso, .ref mst, .ref mpr, .ref msh, .ref mwa, .ref mpu, .ref mtx, .int ts, .int ma, .int bg, .int wr, .int cl, .int um, .ref mor, .ref mbo, .int mn, .ref tO, .ref tVi, .ref tSm, .int tm]), (msh, aI E 2 Sh)] [.ref o, .int x, .int y, .int z] (qP L h (fun (_ : Unit) => [(o, ob 10 [.ref mw, .ref mk, .ref mt, .ref mr, .ref mki, .ref mso, .ref mst, .ref mpr, .ref msh, .ref mwa, .ref mpu, .ref mtx, .int ts, .int ma, .int bg, .int wr, .int cl, .int um, .ref mor, .ref mbo, .int mn, .ref tO, .ref tVi, .ref tSm, .int tm]), (msh, aI E 2 Sh)]) (fun _ => some (.int (-2))) (fun _ => True)) := by
  refine CT.ofV (by decide +kernel) (Nat.le_of_ble_eq_true rfl) ?_
  refine V.locals2 (lv2 := [(0, .ref o), (1, .int x), (2, .int y), (3, .int z)]) rfl ?_
  refine V.aload_n dX11_byLot_0 0 rfl ?_
  refine V.iload_n dX11_byLot_1 1 rfl ?_
  refine V.callVp (As := [.int x]) (rest := []) [0, 1] (c_M_isShop E l L _ o mw mk mt mr mki mso mst mpr msh mwa mpu mtx mor mbo tO tVi tSm ts ma bg wr cl um mn tm Sh m x (eM) (hm)) rfl (by decide) mi_X11_isShop 0 rfl rfl w_860 w_862 wp_17 rfl rfl (Nat.le_of_ble_eq_true rfl) ⟨by decide, by decide⟩ ⟨by decide, by decide⟩ dX11_byLot_2 (vw2 := fun _ => [(o, ob 10 [.ref mw, .ref mk, .ref mt, .ref mr, .ref mki, .ref mso, .ref mst, .ref mpr, .ref msh, .ref mwa, .ref mpu, .ref mtx, .int ts, .int ma, .int bg, .int wr, .int cl, .int um, .ref mor, .ref mbo, .int mn, .ref tO, .ref tVi, .ref tSm, .int tm]), (msh, aI E 2 Sh)]) (st2 := fun _ => [.int (withinI x 0 (nI m - 1))]) (fun _ => rfl) (fun _ => rfl) (fun _ => rfl) (fun _ _ => ?_)
  refine V.topc (v := 0) (hx) ?_
  refine V.if_ne (tgt := 11) dX11_byLot_5 (by decide) (fun hc => absurd (by decide) hc) (fun _ => ?_)
  refine V.bipush (v := (-2)) dX11_byLot_8 (by decide) ?_
  exact V.iret rfl dX11_byLot_10 (⟨(), rfl, rfl, rfl, trivial⟩)

set_option maxHeartbeats 4000000 in
set_option maxRecDepth 100000 in
theorem c_M_byLotO1 (E : vEnv) (l : Launch) (L : List Nat) (h : Nat → va_E) (o : Nat) (mw : Nat) (mk : Nat) (mt : Nat) (mr : Nat) (mki : Nat) (mso : Nat) (mst : Nat) (mpr : Nat) (msh : Nat) (mwa : Nat) (mpu : Nat) (mtx : Nat) (mor : Nat) (mbo : Nat) (tO : Nat) (tVi : Nat) (tSm : Nat) (ts : Int32) (ma : Int32) (bg : Int32) (wr : Int32) (cl : Int32) (um : Int32) (mn : Int32) (tm : Int32) (Sh : Nat → Int32) (m : Nat) (k : Nat) (mm : Int32) (y : Int32) (eM : Sh 0 = nI m) (hm : m ≤ 6) (hkm : k < m) (hmm : withinI mm 0 30 = 0) : CT E l yX11_byLot cX11_byLot 9 (some (.int)) 2 0 0 L h [(o, ob 10 [.ref mw, .ref mk, .ref mt, .ref mr, .ref mki, .ref mso, .ref mst, .ref mpr, .ref msh, .ref mwa, .ref mpu, .ref mtx, .int ts, .int ma, .int bg, .int wr, .int cl, .int um, .ref mor, .ref mbo, .int mn, .ref tO, .ref tVi, .ref tSm, .int tm]), (msh, aI E 2 Sh)] [.ref o, .int (nI k), .int mm, .int y] (qP L h (fun (_ : Unit) => [(o, ob 10 [.ref mw, .ref mk, .ref mt, .ref mr, .ref mki, .ref mso, .ref mst, .ref mpr, .ref msh, .ref mwa, .ref mpu, .ref mtx, .int ts, .int ma, .int bg, .int wr, .int cl, .int um, .ref mor, .ref mbo, .int mn, .ref tO, .ref tVi, .ref tSm, .int tm]), (msh, aI E 2 Sh)]) (fun _ => some (.int (-3))) (fun _ => True)) := by
  refine CT.ofV (by decide +kernel) (Nat.le_of_ble_eq_true rfl) ?_
  refine V.locals2 (lv2 := [(0, .ref o), (1, .int (nI k)), (2, .int mm), (3, .int y)]) rfl ?_
  refine V.aload_n dX11_byLot_0 0 rfl ?_
  refine V.iload_n dX11_byLot_1 1 rfl ?_
  refine V.callVp (As := [.int (nI k)]) (rest := []) [0, 1] (c_M_isShop E l L _ o mw mk mt mr mki mso mst mpr msh mwa mpu mtx mor mbo tO tVi tSm ts ma bg wr cl um mn tm Sh m ((nI k)) (eM) (hm)) rfl (by decide) mi_X11_isShop 0 rfl rfl w_860 w_862 wp_17 rfl rfl (Nat.le_of_ble_eq_true rfl) ⟨by decide, by decide⟩ ⟨by decide, by decide⟩ dX11_byLot_2 (vw2 := fun _ => [(o, ob 10 [.ref mw, .ref mk, .ref mt, .ref mr, .ref mki, .ref mso, .ref mst, .ref mpr, .ref msh, .ref mwa, .ref mpu, .ref mtx, .int ts, .int ma, .int bg, .int wr, .int cl, .int um, .ref mor, .ref mbo, .int mn, .ref tO, .ref tVi, .ref tSm, .int tm]), (msh, aI E 2 Sh)]) (st2 := fun _ => [.int (withinI (nI k) 0 (nI m - 1))]) (fun _ => rfl) (fun _ => rfl) (fun _ => rfl) (fun _ _ => ?_)
  refine V.topc (v := 1) (within_nI hkm (by omega)) ?_
  refine V.if_ne (tgt := 11) dX11_byLot_5 (by decide) (fun _ => ?_) (fun hc => absurd hc (by decide))
  refine V.iload_n dX11_byLot_11 2 rfl ?_
  refine V.i2l dX11_byLot_12 ?_
  refine V.lconst (v := 0) dX11_byLot_13 (by decide) ?_
  refine V.stack (st2 := [.long (Int32.toInt64 0), .long (Int32.toInt64 mm)]) (congrArg (fun z64 => Value.long z64 :: [.long (Int32.toInt64 mm)]) (show (0 : Int64) = Int32.toInt64 0 by decide)) ?_
  refine V.ldc2 dX11_byLot_14 w_945 ?_
  refine V.stack (st2 := [.long (Int32.toInt64 30), .long (Int32.toInt64 0), .long (Int32.toInt64 mm)]) (congrArg (fun z64 => Value.long z64 :: [.long (Int32.toInt64 0), .long (Int32.toInt64 mm)]) (show (30 : Int64) = Int32.toInt64 30 by decide)) ?_
  refine V.callSp (As := [.long (Int32.toInt64 mm), .long (Int32.toInt64 0), .long (Int32.toInt64 30)]) (rest := []) [] (c_M_in E l L _ mm 0 30) rfl (by decide) mi_X11_in w_789 w_790 rfl rfl (Nat.le_of_ble_eq_true rfl) ⟨by decide, by decide⟩ ⟨by decide, by decide⟩ dX11_byLot_17 (vw2 := fun _ => [(o, ob 10 [.ref mw, .ref mk, .ref mt, .ref mr, .ref mki, .ref mso, .ref mst, .ref mpr, .ref msh, .ref mwa, .ref mpu, .ref mtx, .int ts, .int ma, .int bg, .int wr, .int cl, .int um, .ref mor, .ref mbo, .int mn, .ref tO, .ref tVi, .ref tSm, .int tm]), (msh, aI E 2 Sh)]) (st2 := fun _ => [.int (withinI mm 0 30)]) (fun _ => rfl) (fun _ => rfl) (fun _ => rfl) (fun _ _ => ?_)
  refine V.topc (v := 0) (hmm) ?_
  refine V.if_eq (tgt := 33) dX11_byLot_20 (by decide) (fun _ => ?_) (fun hc => absurd (by decide) hc)
  refine V.bipush (v := (-3)) dX11_byLot_33 (by decide) ?_
  exact V.iret rfl dX11_byLot_35 (⟨(), rfl, rfl, rfl, trivial⟩)

set_option maxHeartbeats 4000000 in
set_option maxRecDepth 100000 in
theorem c_M_byLotO2 (E : vEnv) (l : Launch) (L : List Nat) (h : Nat → va_E) (o : Nat) (mw : Nat) (mk : Nat) (mt : Nat) (mr : Nat) (mki : Nat) (mso : Nat) (mst : Nat) (mpr : Nat) (msh : Nat) (mwa : Nat) (mpu : Nat) (mtx : Nat) (mor : Nat) (mbo : Nat) (tO : Nat) (tVi : Nat) (tSm : Nat) (ts : Int32) (ma : Int32) (bg : Int32) (wr : Int32) (cl : Int32) (um : Int32) (mn : Int32) (tm : Int32) (Sh : Nat → Int32) (m : Nat) (k : Nat) (mm : Int32) (y : Int32) (eM : Sh 0 = nI m) (hm : m ≤ 6) (hkm : k < m) (hmm : withinI mm 0 30 = 1) (hy : withinI y 0 1 = 0) : CT E l yX11_byLot cX11_byLot 9 (some (.int)) 2 0 0 L h [(o, ob 10 [.ref mw, .ref mk, .ref mt, .ref mr, .ref mki, .ref mso, .ref mst, .ref mpr, .ref msh, .ref mwa, .ref mpu, .ref mtx, .int ts, .int ma, .int bg, .int wr, .int cl, .int um, .ref mor, .ref mbo, .int mn, .ref tO, .ref tVi, .ref tSm, .int tm]), (msh, aI E 2 Sh)] [.ref o, .int (nI k), .int mm, .int y] (qP L h (fun (_ : Unit) => [(o, ob 10 [.ref mw, .ref mk, .ref mt, .ref mr, .ref mki, .ref mso, .ref mst, .ref mpr, .ref msh, .ref mwa, .ref mpu, .ref mtx, .int ts, .int ma, .int bg, .int wr, .int cl, .int um, .ref mor, .ref mbo, .int mn, .ref tO, .ref tVi, .ref tSm, .int tm]), (msh, aI E 2 Sh)]) (fun _ => some (.int (-3))) (fun _ => True)) := by
  refine CT.ofV (by decide +kernel) (Nat.le_of_ble_eq_true rfl) ?_
  refine V.locals2 (lv2 := [(0, .ref o), (1, .int (nI k)), (2, .int mm), (3, .int y)]) rfl ?_
  refine V.aload_n dX11_byLot_0 0 rfl ?_
  refine V.iload_n dX11_byLot_1 1 rfl ?_
  refine V.callVp (As := [.int (nI k)]) (rest := []) [0, 1] (c_M_isShop E l L _ o mw mk mt mr mki mso mst mpr msh mwa mpu mtx mor mbo tO tVi tSm ts ma bg wr cl um mn tm Sh m ((nI k)) (eM) (hm)) rfl (by decide) mi_X11_isShop 0 rfl rfl w_860 w_862 wp_17 rfl rfl (Nat.le_of_ble_eq_true rfl) ⟨by decide, by decide⟩ ⟨by decide, by decide⟩ dX11_byLot_2 (vw2 := fun _ => [(o, ob 10 [.ref mw, .ref mk, .ref mt, .ref mr, .ref mki, .ref mso, .ref mst, .ref mpr, .ref msh, .ref mwa, .ref mpu, .ref mtx, .int ts, .int ma, .int bg, .int wr, .int cl, .int um, .ref mor, .ref mbo, .int mn, .ref tO, .ref tVi, .ref tSm, .int tm]), (msh, aI E 2 Sh)]) (st2 := fun _ => [.int (withinI (nI k) 0 (nI m - 1))]) (fun _ => rfl) (fun _ => rfl) (fun _ => rfl) (fun _ _ => ?_)
  refine V.topc (v := 1) (within_nI hkm (by omega)) ?_
  refine V.if_ne (tgt := 11) dX11_byLot_5 (by decide) (fun _ => ?_) (fun hc => absurd hc (by decide))
  refine V.iload_n dX11_byLot_11 2 rfl ?_
  refine V.i2l dX11_byLot_12 ?_
  refine V.lconst (v := 0) dX11_byLot_13 (by decide) ?_
  refine V.stack (st2 := [.long (Int32.toInt64 0), .long (Int32.toInt64 mm)]) (congrArg (fun z64 => Value.long z64 :: [.long (Int32.toInt64 mm)]) (show (0 : Int64) = Int32.toInt64 0 by decide)) ?_
  refine V.ldc2 dX11_byLot_14 w_945 ?_
  refine V.stack (st2 := [.long (Int32.toInt64 30), .long (Int32.toInt64 0), .long (Int32.toInt64 mm)]) (congrArg (fun z64 => Value.long z64 :: [.long (Int32.toInt64 0), .long (Int32.toInt64 mm)]) (show (30 : Int64) = Int32.toInt64 30 by decide)) ?_
  refine V.callSp (As := [.long (Int32.toInt64 mm), .long (Int32.toInt64 0), .long (Int32.toInt64 30)]) (rest := []) [] (c_M_in E l L _ mm 0 30) rfl (by decide) mi_X11_in w_789 w_790 rfl rfl (Nat.le_of_ble_eq_true rfl) ⟨by decide, by decide⟩ ⟨by decide, by decide⟩ dX11_byLot_17 (vw2 := fun _ => [(o, ob 10 [.ref mw, .ref mk, .ref mt, .ref mr, .ref mki, .ref mso, .ref mst, .ref mpr, .ref msh, .ref mwa, .ref mpu, .ref mtx, .int ts, .int ma, .int bg, .int wr, .int cl, .int um, .ref mor, .ref mbo, .int mn, .ref tO, .ref tVi, .ref tSm, .int tm]), (msh, aI E 2 Sh)]) (st2 := fun _ => [.int (withinI mm 0 30)]) (fun _ => rfl) (fun _ => rfl) (fun _ => rfl) (fun _ _ => ?_)
  refine V.topc (v := 1) (hmm) ?_
  refine V.if_eq (tgt := 33) dX11_byLot_20 (by decide) (fun hc => absurd hc (by decide)) (fun _ => ?_)
  refine V.iload_n dX11_byLot_23 3 rfl ?_
  refine V.i2l dX11_byLot_24 ?_
  refine V.lconst (v := 0) dX11_byLot_25 (by decide) ?_
  refine V.stack (st2 := [.long (Int32.toInt64 0), .long (Int32.toInt64 y)]) (congrArg (fun z64 => Value.long z64 :: [.long (Int32.toInt64 y)]) (show (0 : Int64) = Int32.toInt64 0 by decide)) ?_
  refine V.lconst (v := 1) dX11_byLot_26 (by decide) ?_
  refine V.stack (st2 := [.long (Int32.toInt64 1), .long (Int32.toInt64 0), .long (Int32.toInt64 y)]) (congrArg (fun z64 => Value.long z64 :: [.long (Int32.toInt64 0), .long (Int32.toInt64 y)]) (show (1 : Int64) = Int32.toInt64 1 by decide)) ?_
  refine V.callSp (As := [.long (Int32.toInt64 y), .long (Int32.toInt64 0), .long (Int32.toInt64 1)]) (rest := []) [] (c_M_in E l L _ y 0 1) rfl (by decide) mi_X11_in w_789 w_790 rfl rfl (Nat.le_of_ble_eq_true rfl) ⟨by decide, by decide⟩ ⟨by decide, by decide⟩ dX11_byLot_27 (vw2 := fun _ => [(o, ob 10 [.ref mw, .ref mk, .ref mt, .ref mr, .ref mki, .ref mso, .ref mst, .ref mpr, .ref msh, .ref mwa, .ref mpu, .ref mtx, .int ts, .int ma, .int bg, .int wr, .int cl, .int um, .ref mor, .ref mbo, .int mn, .ref tO, .ref tVi, .ref tSm, .int tm]), (msh, aI E 2 Sh)]) (st2 := fun _ => [.int (withinI y 0 1)]) (fun _ => rfl) (fun _ => rfl) (fun _ => rfl) (fun _ _ => ?_)
  refine V.topc (v := 0) (hy) ?_
  refine V.if_ne (tgt := 36) dX11_byLot_30 (by decide) (fun hc => absurd (by decide) hc) (fun _ => ?_)
  refine V.bipush (v := (-3)) dX11_byLot_33 (by decide) ?_
  exact V.iret rfl dX11_byLot_35 (⟨(), rfl, rfl, rfl, trivial⟩)

set_option maxHeartbeats 4000000 in
set_option maxRecDepth 100000 in
theorem c_M_byLot (E : vEnv) (l : Launch) (L : List Nat) (h : Nat → va_E) (o : Nat) (mw : Nat) (mk : Nat) (mt : Nat) (mr : Nat) (mki : Nat) (mso : Nat) (mst : Nat) (mpr : Nat) (msh : Nat) (mwa : Nat) (mpu : Nat) (mtx : Nat) (mor : Nat) (mbo : Nat) (tO : Nat) (tVi : Nat) (tSm : Nat) (ts : Int32) (ma : Int32) (bg : Int32) (wr : Int32) (cl : Int32) (um : Int32) (tm : Int32) (ρ : Nat → MR) (pw : Nat → Int32) (s : NS) (Re : Nat → Int32) (r : Nat → Int32) (Ti : Nat → Int32) (ti : Nat → Int32) (Ki : Nat → Int32) (So : Nat → Int32) (St : Nat → Int32) (Pr : Nat → Int32) (Wa : Nat → Int32) (m : Nat) (sf : Nat → SHP) (wa : Int32) (Sh : Nat → Int32) (ω0 : Nat → Nat) (ρ0 : Nat → Nat) (mn : Int32) (k : Nat) (mm : Int32) (y : Int32) (hR : ρ 0 = (pw, s)) (hTab : TabS m sf Ki So St Pr) (hm : m ≤ 6) (eW : Wa 0 = wa) (hgR : gR r) (eR : ∀ j, j < 4 → Re j = r j) (hgI : gI ti) (eI : ∀ j, j < 4 → Ti j = ti j) (eM : Sh 0 = nI m) (ePl : ∀ k_, k_ < m → pw k_ = placeI m k_ s.2.2.2.2.2.2.2) (hgS : gS s) (hkm : k < m) (hmm : withinI mm 0 30 = 1) (hy : withinI y 0 1 = 1) : CT E l yX11_byLot cX11_byLot 9 (some (.int)) 4 0 0 L h [(o, ob 10 [.ref mw, .ref mk, .ref mt, .ref mr, .ref mki, .ref mso, .ref mst, .ref mpr, .ref msh, .ref mwa, .ref mpu, .ref mtx, .int ts, .int ma, .int bg, .int wr, .int cl, .int um, .ref mor, .ref mbo, .int mn, .ref tO, .ref tVi, .ref tSm, .int tm]), (msh, aI E 2 Sh), (mw, aI E 192 (mW ρ)), (mr, aI E 8 Re), (mt, aI E 8 Ti), (mki, aI E 12 Ki), (mso, aI E 12 So), (mst, aI E 12 St), (mpr, aI E 12 Pr), (mwa, aI E 2 Wa), (mor, aI E 6 (fun j => nI (ω0 j)))] [.ref o, .int (nI k), .int mm, .int y] (qP L h (fun (u : MR × (Nat → Nat)) => [(o, ob 10 [.ref mw, .ref mk, .ref mt, .ref mr, .ref mki, .ref mso, .ref mst, .ref mpr, .ref msh, .ref mwa, .ref mpu, .ref mtx, .int ts, .int ma, .int bg, .int wr, .int cl, .int um, .ref mor, .ref mbo, .int (nI (fillW (nI (2 ^ m - 1)) ρ0 6).1), .ref tO, .ref tVi, .ref tSm, .int tm]), (msh, aI E 2 Sh), (mw, aI E 192 (mW (va_up ρ 1 u.1))), (mr, aI E 8 Re), (mt, aI E 8 Ti), (mki, aI E 12 Ki), (mso, aI E 12 So), (mst, aI E 12 St), (mpr, aI E 12 Pr), (mwa, aI E 2 Wa), (mor, aI E 6 (fun j => nI (u.2 j)))]) (fun u => some (.int (lotW (List.foldl (lotStep (m, sf, wa, ti, r) s (fillW (nI (2 ^ m - 1)) ρ0 6).1 k mm) (0, 0) (rowsG (fillW (nI (2 ^ m - 1)) ρ0 6).1 720 (fillW (nI (2 ^ m - 1)) ρ0 6).2)) y))) (fun u => True)) := by
  refine CT.ofV (by decide +kernel) (Nat.le_of_ble_eq_true rfl) ?_
  obtain ⟨Z, hZ⟩ : ∃ Z, Z = mZ E (qP L h (fun (u : MR × (Nat → Nat)) => [(o, ob 10 [.ref mw, .ref mk, .ref mt, .ref mr, .ref mki, .ref mso, .ref mst, .ref mpr, .ref msh, .ref mwa, .ref mpu, .ref mtx, .int ts, .int ma, .int bg, .int wr, .int cl, .int um, .ref mor, .ref mbo, .int (nI (fillW (nI (2 ^ m - 1)) ρ0 6).1), .ref tO, .ref tVi, .ref tSm, .int tm]), (msh, aI E 2 Sh), (mw, aI E 192 (mW (va_up ρ 1 u.1))), (mr, aI E 8 Re), (mt, aI E 8 Ti), (mki, aI E 12 Ki), (mso, aI E 12 So), (mst, aI E 12 St), (mpr, aI E 12 Pr), (mwa, aI E 2 Wa), (mor, aI E 6 (fun j => nI (u.2 j)))]) (fun u => some (.int (lotW (List.foldl (lotStep (m, sf, wa, ti, r) s (fillW (nI (2 ^ m - 1)) ρ0 6).1 k mm) (0, 0) (rowsG (fillW (nI (2 ^ m - 1)) ρ0 6).1 720 (fillW (nI (2 ^ m - 1)) ρ0 6).2)) y))) (fun u => True)) 0 0 := ⟨_, rfl⟩
  rw [← hZ]
  refine V.locals2 (lv2 := [(0, .ref o), (1, .int (nI k)), (2, .int mm), (3, .int y)]) rfl ?_
  refine V.aload_n dX11_byLot_0 0 rfl ?_
  refine V.iload_n dX11_byLot_1 1 rfl ?_
  refine V.callVp (As := [.int (nI k)]) (rest := []) [0, 1] (c_M_isShop E l L _ o mw mk mt mr mki mso mst mpr msh mwa mpu mtx mor mbo tO tVi tSm ts ma bg wr cl um mn tm Sh m ((nI k)) (eM) (hm)) rfl (by decide) mi_X11_isShop 0 rfl rfl w_860 w_862 wp_17 rfl rfl (Nat.le_of_ble_eq_true rfl) ⟨by decide, by decide⟩ ⟨by decide, by decide⟩ dX11_byLot_2 (vw2 := fun _ => [(o, ob 10 [.ref mw, .ref mk, .ref mt, .ref mr, .ref mki, .ref mso, .ref mst, .ref mpr, .ref msh, .ref mwa, .ref mpu, .ref mtx, .int ts, .int ma, .int bg, .int wr, .int cl, .int um, .ref mor, .ref mbo, .int mn, .ref tO, .ref tVi, .ref tSm, .int tm]), (msh, aI E 2 Sh), (mw, aI E 192 (mW ρ)), (mr, aI E 8 Re), (mt, aI E 8 Ti), (mki, aI E 12 Ki), (mso, aI E 12 So), (mst, aI E 12 St), (mpr, aI E 12 Pr), (mwa, aI E 2 Wa), (mor, aI E 6 (fun j => nI (ω0 j)))]) (st2 := fun _ => [.int (withinI (nI k) 0 (nI m - 1))]) (fun _ => rfl) (fun _ => rfl) (fun _ => rfl) (fun _ _ => ?_)
  refine V.topc (v := 1) (within_nI hkm (by omega)) ?_
  refine V.if_ne (tgt := 11) dX11_byLot_5 (by decide) (fun _ => ?_) (fun hc => absurd hc (by decide))
  refine V.iload_n dX11_byLot_11 2 rfl ?_
  refine V.i2l dX11_byLot_12 ?_
  refine V.lconst (v := 0) dX11_byLot_13 (by decide) ?_
  refine V.stack (st2 := [.long (Int32.toInt64 0), .long (Int32.toInt64 mm)]) (congrArg (fun z64 => Value.long z64 :: [.long (Int32.toInt64 mm)]) (show (0 : Int64) = Int32.toInt64 0 by decide)) ?_
  refine V.ldc2 dX11_byLot_14 w_945 ?_
  refine V.stack (st2 := [.long (Int32.toInt64 30), .long (Int32.toInt64 0), .long (Int32.toInt64 mm)]) (congrArg (fun z64 => Value.long z64 :: [.long (Int32.toInt64 0), .long (Int32.toInt64 mm)]) (show (30 : Int64) = Int32.toInt64 30 by decide)) ?_
  refine V.callSp (As := [.long (Int32.toInt64 mm), .long (Int32.toInt64 0), .long (Int32.toInt64 30)]) (rest := []) [] (c_M_in E l L _ mm 0 30) rfl (by decide) mi_X11_in w_789 w_790 rfl rfl (Nat.le_of_ble_eq_true rfl) ⟨by decide, by decide⟩ ⟨by decide, by decide⟩ dX11_byLot_17 (vw2 := fun _ => [(o, ob 10 [.ref mw, .ref mk, .ref mt, .ref mr, .ref mki, .ref mso, .ref mst, .ref mpr, .ref msh, .ref mwa, .ref mpu, .ref mtx, .int ts, .int ma, .int bg, .int wr, .int cl, .int um, .ref mor, .ref mbo, .int mn, .ref tO, .ref tVi, .ref tSm, .int tm]), (msh, aI E 2 Sh), (mw, aI E 192 (mW ρ)), (mr, aI E 8 Re), (mt, aI E 8 Ti), (mki, aI E 12 Ki), (mso, aI E 12 So), (mst, aI E 12 St), (mpr, aI E 12 Pr), (mwa, aI E 2 Wa), (mor, aI E 6 (fun j => nI (ω0 j)))]) (st2 := fun _ => [.int (withinI mm 0 30)]) (fun _ => rfl) (fun _ => rfl) (fun _ => rfl) (fun _ _ => ?_)
  refine V.topc (v := 1) (hmm) ?_
  refine V.if_eq (tgt := 33) dX11_byLot_20 (by decide) (fun hc => absurd hc (by decide)) (fun _ => ?_)
  refine V.iload_n dX11_byLot_23 3 rfl ?_
  refine V.i2l dX11_byLot_24 ?_
  refine V.lconst (v := 0) dX11_byLot_25 (by decide) ?_
  refine V.stack (st2 := [.long (Int32.toInt64 0), .long (Int32.toInt64 y)]) (congrArg (fun z64 => Value.long z64 :: [.long (Int32.toInt64 y)]) (show (0 : Int64) = Int32.toInt64 0 by decide)) ?_
  refine V.lconst (v := 1) dX11_byLot_26 (by decide) ?_
  refine V.stack (st2 := [.long (Int32.toInt64 1), .long (Int32.toInt64 0), .long (Int32.toInt64 y)]) (congrArg (fun z64 => Value.long z64 :: [.long (Int32.toInt64 0), .long (Int32.toInt64 y)]) (show (1 : Int64) = Int32.toInt64 1 by decide)) ?_
  refine V.callSp (As := [.long (Int32.toInt64 y), .long (Int32.toInt64 0), .long (Int32.toInt64 1)]) (rest := []) [] (c_M_in E l L _ y 0 1) rfl (by decide) mi_X11_in w_789 w_790 rfl rfl (Nat.le_of_ble_eq_true rfl) ⟨by decide, by decide⟩ ⟨by decide, by decide⟩ dX11_byLot_27 (vw2 := fun _ => [(o, ob 10 [.ref mw, .ref mk, .ref mt, .ref mr, .ref mki, .ref mso, .ref mst, .ref mpr, .ref msh, .ref mwa, .ref mpu, .ref mtx, .int ts, .int ma, .int bg, .int wr, .int cl, .int um, .ref mor, .ref mbo, .int mn, .ref tO, .ref tVi, .ref tSm, .int tm]), (msh, aI E 2 Sh), (mw, aI E 192 (mW ρ)), (mr, aI E 8 Re), (mt, aI E 8 Ti), (mki, aI E 12 Ki), (mso, aI E 12 So), (mst, aI E 12 St), (mpr, aI E 12 Pr), (mwa, aI E 2 Wa), (mor, aI E 6 (fun j => nI (ω0 j)))]) (st2 := fun _ => [.int (withinI y 0 1)]) (fun _ => rfl) (fun _ => rfl) (fun _ => rfl) (fun _ _ => ?_)
  refine V.topc (v := 1) (hy) ?_
  refine V.if_ne (tgt := 36) dX11_byLot_30 (by decide) (fun _ => ?_) (fun hc => absurd hc (by decide))
  refine V.iconst (v := 0) dX11_byLot_36 (by decide) ?_
  refine V.istore (lv2 := [(4, .int 0), (0, .ref o), (1, .int (nI k)), (2, .int mm), (3, .int y)]) dX11_byLot_37 (by decide) rfl ?_
  refine V.iconst (v := 0) dX11_byLot_39 (by decide) ?_
  refine V.istore (lv2 := [(5, .int 0), (4, .int 0), (0, .ref o), (1, .int (nI k)), (2, .int mm), (3, .int y)]) dX11_byLot_40 (by decide) rfl ?_
  refine V.aload_n dX11_byLot_42 2 rfl ?_
  refine V.iconst (v := 1) dX11_byLot_43 (by decide) ?_
  refine V.aload_n dX11_byLot_44 2 rfl ?_
  refine V.getf 0 8 rfl fa_X11_35_10 rfl dX11_byLot_45 ?_
  refine V.iconst (v := 0) dX11_byLot_48 (by decide) ?_
  refine V.iald 1 rfl (vin rfl) dX11_byLot_49 ?_
  refine V.topc (v := (Sh 0)) (rfl) ?_
  refine V.topc (v := (nI m)) (eM) ?_
  refine V.ishl dX11_byLot_50 ?_
  refine V.iconst (v := 1) dX11_byLot_51 (by decide) ?_
  refine V.isub dX11_byLot_52 ?_
  refine V.topc (v := (nI (2 ^ m - 1))) (allI m (by omega)) ?_
  refine V.callVp (As := [.int (nI (2 ^ m - 1))]) (rest := []) [0, 1, 10] (c_M_firstOrder E l L _ o mw mk mt mr mki mso mst mpr msh mwa mpu mtx mor mbo tO tVi tSm ts ma bg wr cl um tm Sh m ω0 ((nI (2 ^ m - 1))) mn (eM) (hm)) rfl (by decide) mi_X11_firstOrder 0 rfl rfl w_948 w_950 wp_27 rfl rfl (Nat.le_of_ble_eq_true rfl) ⟨by decide, by decide⟩ ⟨by decide, by decide⟩ dX11_byLot_53 (vw2 := fun _ => [(o, ob 10 [.ref mw, .ref mk, .ref mt, .ref mr, .ref mki, .ref mso, .ref mst, .ref mpr, .ref msh, .ref mwa, .ref mpu, .ref mtx, .int ts, .int ma, .int bg, .int wr, .int cl, .int um, .ref mor, .ref mbo, .int (nI (fillW (nI (2 ^ m - 1)) ω0 m).1), .ref tO, .ref tVi, .ref tSm, .int tm]), (msh, aI E 2 Sh), (mw, aI E 192 (mW ρ)), (mr, aI E 8 Re), (mt, aI E 8 Ti), (mki, aI E 12 Ki), (mso, aI E 12 So), (mst, aI E 12 St), (mpr, aI E 12 Pr), (mwa, aI E 2 Wa), (mor, aI E 6 (fun j => nI ((fillW (nI (2 ^ m - 1)) ω0 m).2 j)))]) (st2 := fun _ => [.int 1]) (fun _ => rfl) (fun _ => rfl) (fun _ => rfl) (fun _ _ => ?_)
  obtain ⟨-, hNe, hag0, hπ0, hNm, hend0⟩ := setRow hm (within_in (lo := 0) (Nat.zero_le _) (Nat.le_refl _) (by have := Nat.pow_le_pow_right (n := 2) (by decide) hm; omega)) ρ0 ω0
  rw [hNe]
  clear hNe
  have hinj0 : ∀ x z, x < (fillW (nI (2 ^ m - 1)) ρ0 6).1 → z < (fillW (nI (2 ^ m - 1)) ρ0 6).1 → (fillW (nI (2 ^ m - 1)) ρ0 6).2 x = (fillW (nI (2 ^ m - 1)) ρ0 6).2 z → x = z := fun x z hx9 hz9 e9 => (Nat.lt_trichotomy x z).elim (fun h9 => absurd (fillW_mono _ _ _ x z h9 hz9) (by omega)) (fun h9 => h9.elim id (fun h9 => absurd (fillW_mono _ _ _ z x h9 hx9) (by omega)))
  generalize hω1 : (fillW (nI (2 ^ m - 1)) ω0 m).2 = ω1 at hag0 ⊢
  generalize hN : (fillW (nI (2 ^ m - 1)) ρ0 6).1 = N at hag0 hπ0 hNm hend0 hinj0 hZ ⊢
  generalize hπ1 : (fillW (nI (2 ^ m - 1)) ρ0 6).2 = π1 at hag0 hπ0 hend0 hinj0 hZ
  refine V.arrEq (vw2 := [(o, ob 10 [.ref mw, .ref mk, .ref mt, .ref mr, .ref mki, .ref mso, .ref mst, .ref mpr, .ref msh, .ref mwa, .ref mpu, .ref mtx, .int ts, .int ma, .int bg, .int wr, .int cl, .int um, .ref mor, .ref mbo, .int (nI N), .ref tO, .ref tVi, .ref tSm, .int tm]), (msh, aI E 2 Sh), (mw, aI E 192 (mW (va_up ρ 1 (ρ 1)))), (mr, aI E 8 Re), (mt, aI E 8 Ti), (mki, aI E 12 Ki), (mso, aI E 12 So), (mst, aI E 12 St), (mpr, aI E 12 Pr), (mwa, aI E 2 Wa), (mor, aI E 6 (fun j => nI (ω1 j)))]) 2 0 rfl (fun j _ => by rw [va_up_id rfl]) rfl ?_
  refine V.istore (lv2 := [(6, .int 1), (5, .int 0), (4, .int 0), (0, .ref o), (1, .int (nI k)), (2, .int mm), (3, .int y)]) dX11_byLot_56 (by decide) rfl ?_
  refine V.locals [3, 4, 5, 6, 2, 1, 0] (by rfl) ?_
  have lp_58 : ∀ (fuel : Nat) (ω : Nat → Nat) (π : Nat → Nat) (X : MR) (q : Nat × Nat) (mo : Int32) (d : Nat) (hag : ∀ j, j < N → ω j = π j) (hπm : ∀ j, j < N → π j < m) (hinj : ∀ x z, x < N → z < N → π x = π z → x = z) (hmo : (mo = 1 ∧ endsG N d π ∧ List.foldl (lotStep (m, sf, wa, ti, r) s N k mm) q (rowsG N d π) = (List.foldl (lotStep (m, sf, wa, ti, r) s N k mm) (0, 0) (rowsG N 720 π1))) ∨ (mo = 0 ∧ q = (List.foldl (lotStep (m, sf, wa, ti, r) s N k mm) (0, 0) (rowsG N 720 π1)))) (hpos : mo = 0 → 0 < q.2) (hqd : q.1 + 6 * d ≤ 4320) (hqe : q.2 + d ≤ 720) (hf : d < fuel), V E l yX11_byLot cX11_byLot 9 (some (.int)) (rmk 4 0 0) Z L h 0 0 [(o, ob 10 [.ref mw, .ref mk, .ref mt, .ref mr, .ref mki, .ref mso, .ref mst, .ref mpr, .ref msh, .ref mwa, .ref mpu, .ref mtx, .int ts, .int ma, .int bg, .int wr, .int cl, .int um, .ref mor, .ref mbo, .int (nI N), .ref tO, .ref tVi, .ref tSm, .int tm]), (msh, aI E 2 Sh), (mw, aI E 192 (mW (va_up ρ 1 X))), (mr, aI E 8 Re), (mt, aI E 8 Ti), (mki, aI E 12 Ki), (mso, aI E 12 So), (mst, aI E 12 St), (mpr, aI E 12 Pr), (mwa, aI E 2 Wa), (mor, aI E 6 (fun j => nI (ω j)))] 58 [(0, .ref o), (1, .int (nI k)), (2, .int mm), (3, .int y), (4, .int (nI q.1)), (5, .int (nI q.2)), (6, .int mo)] [] := by
    intro fuel
    induction fuel with
    | zero =>
      intro ω π X q mo d hag hπm hinj hmo hpos hqd hqe hf
      exfalso; omega
    | succ fuel ih_58 =>
      intro ω π X q mo d hag hπm hinj hmo hpos hqd hqe hf
      refine V.iload dX11_byLot_58 6 rfl ?_
      refine V.if_eq (tgt := 157) dX11_byLot_60 (by decide) (fun c1_60 => ?_) (fun c1_60 => ?_)
      · skip
        have hfin : q = (List.foldl (lotStep (m, sf, wa, ti, r) s N k mm) (0, 0) (rowsG N 720 π1)) := (hmo.resolve_left (fun hh => absurd (hh.1.symm.trans c1_60) (by decide))).2
        have hq2 : 0 < q.2 := hpos (hmo.resolve_left (fun hh => absurd (hh.1.symm.trans c1_60) (by decide))).1
        have hgl : Nat.gcd q.2 q.1 ≤ q.2 := Nat.le_of_dvd hq2 (Nat.gcd_dvd_left q.2 q.1)
        have hgp : 0 < Nat.gcd q.2 q.1 := Nat.gcd_pos_of_pos_left _ hq2
        refine V.iload dX11_byLot_157 5 rfl ?_
        refine V.iload dX11_byLot_159 4 rfl ?_
        refine V.callSp (As := [.int (nI q.2), .int (nI q.1)]) (rest := []) [] (c_M_gcd E l L _ q.2 q.1 (by omega) (by omega)) rfl (by decide) mi_X11_common w_992 w_993 rfl rfl (Nat.le_of_ble_eq_true rfl) ⟨by decide, by decide⟩ ⟨by decide, by decide⟩ dX11_byLot_161 (vw2 := fun _ => [(o, ob 10 [.ref mw, .ref mk, .ref mt, .ref mr, .ref mki, .ref mso, .ref mst, .ref mpr, .ref msh, .ref mwa, .ref mpu, .ref mtx, .int ts, .int ma, .int bg, .int wr, .int cl, .int um, .ref mor, .ref mbo, .int (nI N), .ref tO, .ref tVi, .ref tSm, .int tm]), (msh, aI E 2 Sh), (mw, aI E 192 (mW (va_up ρ 1 X))), (mr, aI E 8 Re), (mt, aI E 8 Ti), (mki, aI E 12 Ki), (mso, aI E 12 So), (mst, aI E 12 St), (mpr, aI E 12 Pr), (mwa, aI E 2 Wa), (mor, aI E 6 (fun j => nI (ω j)))]) (st2 := fun _ => [.int (nI (Nat.gcd q.2 q.1))]) (fun _ => rfl) (fun _ => rfl) (fun _ => rfl) (fun _ _ => ?_)
        refine V.istore (lv2 := [(7, .int (nI (Nat.gcd q.2 q.1))), (0, .ref o), (1, .int (nI k)), (2, .int mm), (3, .int y), (4, .int (nI q.1)), (5, .int (nI q.2)), (6, .int mo)]) dX11_byLot_164 (by decide) rfl ?_
        refine V.iload_n dX11_byLot_166 4 rfl ?_
        refine V.if_ne (tgt := 178) dX11_byLot_167 (by decide) (fun c2_167 => ?_) (fun c2_167 => ?_)
        · skip
          refine V.iload dX11_byLot_178 6 rfl ?_
          refine V.iload dX11_byLot_180 0 rfl ?_
          refine V.idiv dX11_byLot_182 (fun hh => absurd ((nI_eq (b := 0) (by omega) (by omega)).mp hh) (by omega)) ?_
          refine V.topc (v := (nI (q.2 / Nat.gcd q.2 q.1))) (pk_div (by omega) hgp (by omega)) ?_
          subst hZ
          exact V.iret rfl dX11_byLot_183 (⟨(X, ω), by rw [← hfin]; unfold lotW; rw [if_neg (by omega), if_neg c2_167], rfl, rfl, trivial⟩)
        · skip
          refine V.iload dX11_byLot_170 5 rfl ?_
          refine V.iload dX11_byLot_172 0 rfl ?_
          refine V.idiv dX11_byLot_174 (fun hh => absurd ((nI_eq (b := 0) (by omega) (by omega)).mp hh) (by omega)) ?_
          refine V.topc (v := (nI (q.1 / Nat.gcd q.2 q.1))) (pk_div (by omega) hgp (by omega)) ?_
          refine V.goto (tgt := 183) dX11_byLot_175 (by decide) ?_
          subst hZ
          exact V.iret rfl dX11_byLot_183 (⟨(X, ω), by rw [← hfin]; unfold lotW; rw [if_neg (by omega), if_pos c2_167], rfl, rfl, trivial⟩)
      · skip
        obtain ⟨-, hen, hrun⟩ := hmo.resolve_right (fun hh => c1_60 hh.1)
        obtain ⟨d9, rfl⟩ := endsG_pos hen
        refine V.aload_n dX11_byLot_63 0 rfl ?_
        refine V.iconst (v := 0) dX11_byLot_64 (by decide) ?_
        refine V.bipush (v := 16) dX11_byLot_65 (by decide) ?_
        refine V.callVp (As := [.int 0, .int 16]) (rest := []) [0, 2] (c_M_copy E l L _ o mw mk mt mr mki mso mst mpr msh mwa mpu mtx mor mbo tO tVi tSm ts ma bg wr cl um ((nI N)) tm ((va_up ρ 1 X)) 0 1 (by decide) (by decide) (by decide)) rfl (by decide) mi_X11_copy 0 rfl rfl w_879 w_881 wp_19 rfl rfl (Nat.le_of_ble_eq_true rfl) ⟨by decide, by decide⟩ ⟨by decide, by decide⟩ dX11_byLot_67 (vw2 := fun _ => [(o, ob 10 [.ref mw, .ref mk, .ref mt, .ref mr, .ref mki, .ref mso, .ref mst, .ref mpr, .ref msh, .ref mwa, .ref mpu, .ref mtx, .int ts, .int ma, .int bg, .int wr, .int cl, .int um, .ref mor, .ref mbo, .int (nI N), .ref tO, .ref tVi, .ref tSm, .int tm]), (msh, aI E 2 Sh), (mw, aI E 192 (mW (va_up (va_up ρ 1 X) 1 ((va_up ρ 1 X) 0)))), (mr, aI E 8 Re), (mt, aI E 8 Ti), (mki, aI E 12 Ki), (mso, aI E 12 So), (mst, aI E 12 St), (mpr, aI E 12 Pr), (mwa, aI E 2 Wa), (mor, aI E 6 (fun j => nI (ω j)))]) (st2 := fun _ => []) (fun _ => rfl) (fun _ => rfl) (fun _ => rfl) (fun _ _ => ?_)
        refine V.arrEq (vw2 := [(o, ob 10 [.ref mw, .ref mk, .ref mt, .ref mr, .ref mki, .ref mso, .ref mst, .ref mpr, .ref msh, .ref mwa, .ref mpu, .ref mtx, .int ts, .int ma, .int bg, .int wr, .int cl, .int um, .ref mor, .ref mbo, .int (nI N), .ref tO, .ref tVi, .ref tSm, .int tm]), (msh, aI E 2 Sh), (mw, aI E 192 (mW (va_up ρ 1 (pw, s)))), (mr, aI E 8 Re), (mt, aI E 8 Ti), (mki, aI E 12 Ki), (mso, aI E 12 So), (mst, aI E 12 St), (mpr, aI E 12 Pr), (mwa, aI E 2 Wa), (mor, aI E 6 (fun j => nI (ω j)))]) 2 0 rfl (fun j _ => by rw [va_up_up, va_up_ne _ _ (by decide), hR]) rfl ?_
        refine V.iconst (v := 0) dX11_byLot_70 (by decide) ?_
        refine V.istore (lv2 := [(7, .int 0), (0, .ref o), (1, .int (nI k)), (2, .int mm), (3, .int y), (4, .int (nI q.1)), (5, .int (nI q.2)), (6, .int mo)]) dX11_byLot_71 (by decide) rfl ?_
        refine V.locals [1, 2, 3, 4, 5, 6, 7, 0] (by rfl) ?_
        have lp_73 : ∀ (fuel : Nat) (i : Nat) (T : NS) (hi9 : i ≤ N) (hT : T = (walkN (m, sf, wa, ti, r) ω s i)) (hf2 : N < i + fuel), V E l yX11_byLot cX11_byLot 9 (some (.int)) (rmk 4 0 0) Z L h 0 0 [(o, ob 10 [.ref mw, .ref mk, .ref mt, .ref mr, .ref mki, .ref mso, .ref mst, .ref mpr, .ref msh, .ref mwa, .ref mpu, .ref mtx, .int ts, .int ma, .int bg, .int wr, .int cl, .int um, .ref mor, .ref mbo, .int (nI N), .ref tO, .ref tVi, .ref tSm, .int tm]), (msh, aI E 2 Sh), (mw, aI E 192 (mW (va_up ρ 1 (pw, T)))), (mr, aI E 8 Re), (mt, aI E 8 Ti), (mki, aI E 12 Ki), (mso, aI E 12 So), (mst, aI E 12 St), (mpr, aI E 12 Pr), (mwa, aI E 2 Wa), (mor, aI E 6 (fun j => nI (ω j)))] 73 [(0, .ref o), (1, .int (nI k)), (2, .int mm), (3, .int y), (4, .int (nI (q.1 + cntL (m, sf, wa, ti, r) ω s k mm i))), (5, .int (nI q.2)), (6, .int mo), (7, .int (nI i))] [] := by
          intro fuel
          induction fuel with
          | zero =>
            intro i T hi9 hT hf2
            exfalso; omega
          | succ fuel ih_73 =>
            intro i T hi9 hT hf2
            refine V.iload dX11_byLot_73 7 rfl ?_
            refine V.aload_n dX11_byLot_75 0 rfl ?_
            refine V.getf 0 20 rfl fa_X11_188_10 rfl dX11_byLot_76 ?_
            refine V.icmp_ge (tgt := 145) dX11_byLot_79 (by decide) (fun c3_79 => ?_) (fun c3_79 => ?_)
            · skip
              have hxc3_79 : N ≤ i := (nI_leI (a := N) (by omega) (by omega)).mp c3_79
              have hqc3_79 : i = N := by omega
              have hbs9 : lotStep (m, sf, wa, ti, r) s N k mm q π = (q.1 + cntL (m, sf, wa, ti, r) ω s k mm N, q.2 + 1) := lot_step hmm hag (fun x z hx9 hz9 e9 => hinj x z hx9 hz9 (by rw [← hag x hx9, ← hag z hz9]; exact e9)) q
              have hcl := cntL_le (m, sf, wa, ti, r) ω s k mm N
              rw [hqc3_79]
              refine V.iinc (v := (nI (q.2 + 1))) (lv2 := [(5, .int (nI (q.2 + 1))), (0, .ref o), (1, .int (nI k)), (2, .int mm), (3, .int y), (4, .int (nI (q.1 + cntL (m, sf, wa, ti, r) ω s k mm N))), (6, .int mo), (7, .int (nI N))]) dX11_byLot_145 5 rfl (nI_1 _) (by decide) rfl ?_
              refine V.aload_n dX11_byLot_148 1 rfl ?_
              rcases stepR_rel (M := m) (σ := id) rel_id hag hπm with ⟨h1, h2⟩ | ⟨a, b, h1, h2, h3, h4⟩
              · skip
                refine V.callVp (As := []) (rest := []) [0, 10] (c_M_nextN E l L _ o mw mk mt mr mki mso mst mpr msh mwa mpu mtx mor mbo tO tVi tSm ts ma bg wr cl um tm N ω (by omega) (fun i hi => by rw [hag i hi]; have := hπm i hi; omega) (h1)) rfl (by decide) mi_X11_nextOrder 0 rfl rfl w_960 w_962 wp_30 rfl rfl (Nat.le_of_ble_eq_true rfl) ⟨by decide, by decide⟩ ⟨by decide, by decide⟩ dX11_byLot_149 (vw2 := fun _ => [(o, ob 10 [.ref mw, .ref mk, .ref mt, .ref mr, .ref mki, .ref mso, .ref mst, .ref mpr, .ref msh, .ref mwa, .ref mpu, .ref mtx, .int ts, .int ma, .int bg, .int wr, .int cl, .int um, .ref mor, .ref mbo, .int (nI N), .ref tO, .ref tVi, .ref tSm, .int tm]), (msh, aI E 2 Sh), (mw, aI E 192 (mW (va_up ρ 1 (pw, T)))), (mr, aI E 8 Re), (mt, aI E 8 Ti), (mki, aI E 12 Ki), (mso, aI E 12 So), (mst, aI E 12 St), (mpr, aI E 12 Pr), (mwa, aI E 2 Wa), (mor, aI E 6 (fun j => nI (ω j)))]) (st2 := fun _ => [.int 0]) (fun _ => rfl) (fun _ => rfl) (fun _ => rfl) (fun _ _ => ?_)
                refine V.istore (lv2 := [(6, .int 0), (5, .int (nI (q.2 + 1))), (0, .ref o), (1, .int (nI k)), (2, .int mm), (3, .int y), (4, .int (nI (q.1 + cntL (m, sf, wa, ti, r) ω s k mm N))), (7, .int (nI N))]) dX11_byLot_152 (by decide) rfl ?_
                refine V.goto (tgt := 58) dX11_byLot_154 (by decide) ?_
                refine V.locals [2, 3, 4, 5, 6, 1, 0] (by rfl) ?_
                exact ih_58 ω π _ (q.1 + cntL (m, sf, wa, ti, r) ω s k mm N, q.2 + 1) _ d9 hag hπm hinj (Or.inr ⟨rfl, by rw [rowsG_none h2] at hrun; exact hbs9.symm.trans hrun⟩) (fun _ => Nat.succ_pos _) (by simp only []; omega) (by simp only []; omega) (by omega)
              · skip
                refine V.callVp (As := []) (rest := []) [0, 10] (c_M_nextS E l L _ o mw mk mt mr mki mso mst mpr msh mwa mpu mtx mor mbo tO tVi tSm ts ma bg wr cl um tm N ω a (by omega) (fun i hi => by rw [hag i hi]; have := hπm i hi; omega) (h1)) rfl (by decide) mi_X11_nextOrder 0 rfl rfl w_960 w_962 wp_30 rfl rfl (Nat.le_of_ble_eq_true rfl) ⟨by decide, by decide⟩ ⟨by decide, by decide⟩ dX11_byLot_149 (vw2 := fun _ => [(o, ob 10 [.ref mw, .ref mk, .ref mt, .ref mr, .ref mki, .ref mso, .ref mst, .ref mpr, .ref msh, .ref mwa, .ref mpu, .ref mtx, .int ts, .int ma, .int bg, .int wr, .int cl, .int um, .ref mor, .ref mbo, .int (nI N), .ref tO, .ref tVi, .ref tSm, .int tm]), (msh, aI E 2 Sh), (mw, aI E 192 (mW (va_up ρ 1 (pw, T)))), (mr, aI E 8 Re), (mt, aI E 8 Ti), (mki, aI E 12 Ki), (mso, aI E 12 So), (mst, aI E 12 St), (mpr, aI E 12 Pr), (mwa, aI E 2 Wa), (mor, aI E 6 (fun j => nI (a j)))]) (st2 := fun _ => [.int 1]) (fun _ => rfl) (fun _ => rfl) (fun _ => rfl) (fun _ _ => ?_)
                refine V.istore (lv2 := [(6, .int 1), (5, .int (nI (q.2 + 1))), (0, .ref o), (1, .int (nI k)), (2, .int mm), (3, .int y), (4, .int (nI (q.1 + cntL (m, sf, wa, ti, r) ω s k mm N))), (7, .int (nI N))]) dX11_byLot_152 (by decide) rfl ?_
                refine V.goto (tgt := 58) dX11_byLot_154 (by decide) ?_
                refine V.locals [2, 3, 4, 5, 6, 1, 0] (by rfl) ?_
                exact ih_58 a b _ (q.1 + cntL (m, sf, wa, ti, r) ω s k mm N, q.2 + 1) _ d9 h3 h4 (stepR_inj h2 hinj) (Or.inl ⟨rfl, endsG_s hen h2, by rw [rowsG_some h2] at hrun; rw [← hbs9]; exact hrun⟩) (fun _ => Nat.succ_pos _) (by simp only []; omega) (by simp only []; omega) (by omega)
            · skip
              have hxc3_79 : i < N := Nat.lt_of_not_le (fun hh => c3_79 (nI_le (a := N) hh (by omega)))
              have hωi : ω i < m := by rw [hag i hxc3_79]; exact hπm i hxc3_79
              have hcl := cntL_le (m, sf, wa, ti, r) ω s k mm i
              refine V.aload_n dX11_byLot_82 0 rfl ?_
              refine V.bipush (v := 16) dX11_byLot_83 (by decide) ?_
              refine V.aload_n dX11_byLot_85 0 rfl ?_
              refine V.getf 0 18 rfl fa_X11_47_10 rfl dX11_byLot_86 ?_
              refine V.iload dX11_byLot_89 7 rfl ?_
              refine V.iald 10 rfl (vinI (by omega)) dX11_byLot_91 ?_
              refine V.topc (v := (nI (ω i))) (by rw [nI_clamp (by omega)]) ?_
              refine V.aload_n dX11_byLot_92 0 rfl ?_
              refine V.getf 0 4 rfl fa_X11_23_10 rfl dX11_byLot_93 ?_
              refine V.aload_n dX11_byLot_96 0 rfl ?_
              refine V.getf 0 18 rfl fa_X11_47_10 rfl dX11_byLot_97 ?_
              refine V.iload dX11_byLot_100 7 rfl ?_
              refine V.iald 10 rfl (vinI (by omega)) dX11_byLot_102 ?_
              refine V.topc (v := (nI (ω i))) (by rw [nI_clamp (by omega)]) ?_
              refine V.iald 5 rfl (vinI (by omega)) dX11_byLot_103 ?_
              refine V.topc (v := (Ki ((ω i)))) (by rw [nI_clamp (by omega)] <;> rfl) ?_
              refine V.topc (v := (kindI (sf (ω i)).1)) ((hTab (ω i) hωi).1) ?_
              refine V.callVp (As := [.int 16, .int (nI (ω i)), .int (kindI (sf (ω i)).1)]) (rest := []) [0, 2, 3, 4, 5, 6, 7, 8, 9] (c_M_visitW E l L _ o mw mk mt mr mki mso mst mpr msh mwa mpu mtx mor mbo tO tVi tSm ts ma bg wr cl um ((nI N)) tm ((va_up ρ 1 (pw, T))) 1 pw T Re r Ti ti Ki So St Pr Wa m sf wa ((ω i)) (by omega) (va_up_self _ _ _) (hTab) (hm) (eW) (hgR) (eR) (hgI) (eI) (hωi) ((ePl _ hωi).trans (by rw [(show T.2.2.2.2.2.2.2 = s.2.2.2.2.2.2.2 by rw [hT]; exact walkN_tu _ _ _ _)])) (by rw [hT]; exact gS_walk (hgS) hm i (fun j hj => by rw [hag j (by omega)]; exact hπm j (by omega)))) rfl (by decide) mi_X11_visitAs 0 rfl rfl w_899 w_901 wp_23 rfl rfl (Nat.le_of_ble_eq_true rfl) ⟨by decide, by decide⟩ ⟨by decide, by decide⟩ dX11_byLot_104 (vw2 := fun _ => [(o, ob 10 [.ref mw, .ref mk, .ref mt, .ref mr, .ref mki, .ref mso, .ref mst, .ref mpr, .ref msh, .ref mwa, .ref mpu, .ref mtx, .int ts, .int ma, .int bg, .int wr, .int cl, .int um, .ref mor, .ref mbo, .int (nI N), .ref tO, .ref tVi, .ref tSm, .int tm]), (msh, aI E 2 Sh), (mw, aI E 192 (mW (va_up (va_up ρ 1 (pw, T)) 1 (pw, (visitN (m, sf, wa, ti, r) (ω i) T))))), (mr, aI E 8 Re), (mt, aI E 8 Ti), (mki, aI E 12 Ki), (mso, aI E 12 So), (mst, aI E 12 St), (mpr, aI E 12 Pr), (mwa, aI E 2 Wa), (mor, aI E 6 (fun j => nI (ω j)))]) (st2 := fun _ => [.int (visitS (m, sf, wa, ti, r) (ω i) T)]) (fun _ => rfl) (fun _ => rfl) (fun _ => rfl) (fun _ _ => ?_)
              refine V.arrEq (vw2 := [(o, ob 10 [.ref mw, .ref mk, .ref mt, .ref mr, .ref mki, .ref mso, .ref mst, .ref mpr, .ref msh, .ref mwa, .ref mpu, .ref mtx, .int ts, .int ma, .int bg, .int wr, .int cl, .int um, .ref mor, .ref mbo, .int (nI N), .ref tO, .ref tVi, .ref tSm, .int tm]), (msh, aI E 2 Sh), (mw, aI E 192 (mW (va_up ρ 1 (pw, visitN (m, sf, wa, ti, r) (ω i) T)))), (mr, aI E 8 Re), (mt, aI E 8 Ti), (mki, aI E 12 Ki), (mso, aI E 12 So), (mst, aI E 12 St), (mpr, aI E 12 Pr), (mwa, aI E 2 Wa), (mor, aI E 6 (fun j => nI (ω j)))]) 2 0 rfl (fun j _ => mW_ups j) rfl ?_
              refine V.istore (lv2 := [(8, .int (visitS (m, sf, wa, ti, r) (ω i) T)), (0, .ref o), (1, .int (nI k)), (2, .int mm), (3, .int y), (4, .int (nI (q.1 + cntL (m, sf, wa, ti, r) ω s k mm i))), (5, .int (nI q.2)), (6, .int mo), (7, .int (nI i))]) dX11_byLot_107 (by decide) rfl ?_
              refine V.iload dX11_byLot_109 5 rfl ?_
              refine V.aload_n dX11_byLot_111 1 rfl ?_
              refine V.getf 0 18 rfl fa_X11_47_10 rfl dX11_byLot_112 ?_
              refine V.iload dX11_byLot_115 8 rfl ?_
              refine V.iald 10 rfl (vinI (by omega)) dX11_byLot_117 ?_
              refine V.topc (v := (nI (ω i))) (by rw [nI_clamp (by omega)]) ?_
              refine V.iload_n dX11_byLot_118 2 rfl ?_
              refine V.icmp_ne (tgt := 132) dX11_byLot_119 (by decide) (fun c4_119 => ?_) (fun c4_119 => ?_)
              · skip
                have hcnt : cntL (m, sf, wa, ti, r) ω s k mm (i + 1) = cntL (m, sf, wa, ti, r) ω s k mm i := by rw [cntL, if_neg (fun h9 => c4_119 (congrArg nI h9.1)), Nat.add_zero]
                refine V.iconst (v := 0) dX11_byLot_132 (by decide) ?_
                refine V.callSp (As := [.int 0]) (rest := [.int (nI (q.1 + cntL (m, sf, wa, ti, r) ω s k mm i))]) [] (c_M_one E l L _ 0) rfl (by decide) mi_X11_one w_867 w_868 rfl rfl (Nat.le_of_ble_eq_true rfl) ⟨by decide, by decide⟩ ⟨by decide, by decide⟩ dX11_byLot_133 (vw2 := fun _ => [(o, ob 10 [.ref mw, .ref mk, .ref mt, .ref mr, .ref mki, .ref mso, .ref mst, .ref mpr, .ref msh, .ref mwa, .ref mpu, .ref mtx, .int ts, .int ma, .int bg, .int wr, .int cl, .int um, .ref mor, .ref mbo, .int (nI N), .ref tO, .ref tVi, .ref tSm, .int tm]), (msh, aI E 2 Sh), (mw, aI E 192 (mW (va_up ρ 1 (pw, visitN (m, sf, wa, ti, r) (ω i) T)))), (mr, aI E 8 Re), (mt, aI E 8 Ti), (mki, aI E 12 Ki), (mso, aI E 12 So), (mst, aI E 12 St), (mpr, aI E 12 Pr), (mwa, aI E 2 Wa), (mor, aI E 6 (fun j => nI (ω j)))]) (st2 := fun _ => [.int (if 0 = 0 then 0 else 1), .int (nI (q.1 + cntL (m, sf, wa, ti, r) ω s k mm i))]) (fun _ => rfl) (fun _ => rfl) (fun _ => rfl) (fun _ _ => ?_)
                refine V.topc (v := 0) (by decide) ?_
                refine V.iadd dX11_byLot_136 ?_
                refine V.topc (v := (nI (q.1 + cntL (m, sf, wa, ti, r) ω s k mm (i + 1)))) (by rw [hcnt]; exact Int32.add_zero _) ?_
                refine V.istore (lv2 := [(4, .int (nI (q.1 + cntL (m, sf, wa, ti, r) ω s k mm (i + 1)))), (8, .int (visitS (m, sf, wa, ti, r) (ω i) T)), (0, .ref o), (1, .int (nI k)), (2, .int mm), (3, .int y), (5, .int (nI q.2)), (6, .int mo), (7, .int (nI i))]) dX11_byLot_137 (by decide) rfl ?_
                refine V.iinc (v := (nI (i + 1))) (lv2 := [(7, .int (nI (i + 1))), (4, .int (nI (q.1 + cntL (m, sf, wa, ti, r) ω s k mm (i + 1)))), (8, .int (visitS (m, sf, wa, ti, r) (ω i) T)), (0, .ref o), (1, .int (nI k)), (2, .int mm), (3, .int y), (5, .int (nI q.2)), (6, .int mo)]) dX11_byLot_139 8 rfl (nI_1 _) (by decide) rfl ?_
                refine V.goto (tgt := 73) dX11_byLot_142 (by decide) ?_
                refine V.locals [3, 4, 5, 6, 1, 7, 8, 0] (by rfl) ?_
                exact ih_73 (i + 1) (visitN (m, sf, wa, ti, r) (ω i) T) (by omega) (by rw [hT]; rfl) (by omega)
              · skip
                have hik : ω i = k := (nI_eq (by omega) (by omega)).mp c4_119
                refine V.iload dX11_byLot_122 0 rfl ?_
                refine V.iload_n dX11_byLot_124 3 rfl ?_
                refine V.icmp_lt (tgt := 132) dX11_byLot_125 (by decide) (fun c5_125 => ?_) (fun c5_125 => ?_)
                · skip
                  have hcnt : cntL (m, sf, wa, ti, r) ω s k mm (i + 1) = cntL (m, sf, wa, ti, r) ω s k mm i := by rw [cntL, ← hT, if_neg (fun h9 => absurd h9.2 (Int32.not_le.mpr c5_125)), Nat.add_zero]
                  refine V.iconst (v := 0) dX11_byLot_132 (by decide) ?_
                  refine V.callSp (As := [.int 0]) (rest := [.int (nI (q.1 + cntL (m, sf, wa, ti, r) ω s k mm i))]) [] (c_M_one E l L _ 0) rfl (by decide) mi_X11_one w_867 w_868 rfl rfl (Nat.le_of_ble_eq_true rfl) ⟨by decide, by decide⟩ ⟨by decide, by decide⟩ dX11_byLot_133 (vw2 := fun _ => [(o, ob 10 [.ref mw, .ref mk, .ref mt, .ref mr, .ref mki, .ref mso, .ref mst, .ref mpr, .ref msh, .ref mwa, .ref mpu, .ref mtx, .int ts, .int ma, .int bg, .int wr, .int cl, .int um, .ref mor, .ref mbo, .int (nI N), .ref tO, .ref tVi, .ref tSm, .int tm]), (msh, aI E 2 Sh), (mw, aI E 192 (mW (va_up ρ 1 (pw, visitN (m, sf, wa, ti, r) (ω i) T)))), (mr, aI E 8 Re), (mt, aI E 8 Ti), (mki, aI E 12 Ki), (mso, aI E 12 So), (mst, aI E 12 St), (mpr, aI E 12 Pr), (mwa, aI E 2 Wa), (mor, aI E 6 (fun j => nI (ω j)))]) (st2 := fun _ => [.int (if 0 = 0 then 0 else 1), .int (nI (q.1 + cntL (m, sf, wa, ti, r) ω s k mm i))]) (fun _ => rfl) (fun _ => rfl) (fun _ => rfl) (fun _ _ => ?_)
                  refine V.topc (v := 0) (by decide) ?_
                  refine V.iadd dX11_byLot_136 ?_
                  refine V.topc (v := (nI (q.1 + cntL (m, sf, wa, ti, r) ω s k mm (i + 1)))) (by rw [hcnt]; exact Int32.add_zero _) ?_
                  refine V.istore (lv2 := [(4, .int (nI (q.1 + cntL (m, sf, wa, ti, r) ω s k mm (i + 1)))), (8, .int (visitS (m, sf, wa, ti, r) (ω i) T)), (0, .ref o), (1, .int (nI k)), (2, .int mm), (3, .int y), (5, .int (nI q.2)), (6, .int mo), (7, .int (nI i))]) dX11_byLot_137 (by decide) rfl ?_
                  refine V.iinc (v := (nI (i + 1))) (lv2 := [(7, .int (nI (i + 1))), (4, .int (nI (q.1 + cntL (m, sf, wa, ti, r) ω s k mm (i + 1)))), (8, .int (visitS (m, sf, wa, ti, r) (ω i) T)), (0, .ref o), (1, .int (nI k)), (2, .int mm), (3, .int y), (5, .int (nI q.2)), (6, .int mo)]) dX11_byLot_139 8 rfl (nI_1 _) (by decide) rfl ?_
                  refine V.goto (tgt := 73) dX11_byLot_142 (by decide) ?_
                  refine V.locals [3, 4, 5, 6, 1, 7, 8, 0] (by rfl) ?_
                  exact ih_73 (i + 1) (visitN (m, sf, wa, ti, r) (ω i) T) (by omega) (by rw [hT]; rfl) (by omega)
                · skip
                  have hcnt : cntL (m, sf, wa, ti, r) ω s k mm (i + 1) = cntL (m, sf, wa, ti, r) ω s k mm i + 1 := by rw [cntL, ← hT, if_pos ⟨hik, Int32.not_lt.mp c5_125⟩]
                  refine V.iconst (v := 1) dX11_byLot_128 (by decide) ?_
                  refine V.goto (tgt := 133) dX11_byLot_129 (by decide) ?_
                  refine V.callSp (As := [.int 1]) (rest := [.int (nI (q.1 + cntL (m, sf, wa, ti, r) ω s k mm i))]) [] (c_M_one E l L _ 1) rfl (by decide) mi_X11_one w_867 w_868 rfl rfl (Nat.le_of_ble_eq_true rfl) ⟨by decide, by decide⟩ ⟨by decide, by decide⟩ dX11_byLot_133 (vw2 := fun _ => [(o, ob 10 [.ref mw, .ref mk, .ref mt, .ref mr, .ref mki, .ref mso, .ref mst, .ref mpr, .ref msh, .ref mwa, .ref mpu, .ref mtx, .int ts, .int ma, .int bg, .int wr, .int cl, .int um, .ref mor, .ref mbo, .int (nI N), .ref tO, .ref tVi, .ref tSm, .int tm]), (msh, aI E 2 Sh), (mw, aI E 192 (mW (va_up ρ 1 (pw, visitN (m, sf, wa, ti, r) (ω i) T)))), (mr, aI E 8 Re), (mt, aI E 8 Ti), (mki, aI E 12 Ki), (mso, aI E 12 So), (mst, aI E 12 St), (mpr, aI E 12 Pr), (mwa, aI E 2 Wa), (mor, aI E 6 (fun j => nI (ω j)))]) (st2 := fun _ => [.int (if 1 = 0 then 0 else 1), .int (nI (q.1 + cntL (m, sf, wa, ti, r) ω s k mm i))]) (fun _ => rfl) (fun _ => rfl) (fun _ => rfl) (fun _ _ => ?_)
                  refine V.topc (v := 1) (by decide) ?_
                  refine V.iadd dX11_byLot_136 ?_
                  refine V.topc (v := (nI (q.1 + cntL (m, sf, wa, ti, r) ω s k mm (i + 1)))) (by rw [hcnt]; exact nI_1 _) ?_
                  refine V.istore (lv2 := [(4, .int (nI (q.1 + cntL (m, sf, wa, ti, r) ω s k mm (i + 1)))), (8, .int (visitS (m, sf, wa, ti, r) (ω i) T)), (0, .ref o), (1, .int (nI k)), (2, .int mm), (3, .int y), (5, .int (nI q.2)), (6, .int mo), (7, .int (nI i))]) dX11_byLot_137 (by decide) rfl ?_
                  refine V.iinc (v := (nI (i + 1))) (lv2 := [(7, .int (nI (i + 1))), (4, .int (nI (q.1 + cntL (m, sf, wa, ti, r) ω s k mm (i + 1)))), (8, .int (visitS (m, sf, wa, ti, r) (ω i) T)), (0, .ref o), (1, .int (nI k)), (2, .int mm), (3, .int y), (5, .int (nI q.2)), (6, .int mo)]) dX11_byLot_139 8 rfl (nI_1 _) (by decide) rfl ?_
                  refine V.goto (tgt := 73) dX11_byLot_142 (by decide) ?_
                  refine V.locals [3, 4, 5, 6, 1, 7, 8, 0] (by rfl) ?_
                  exact ih_73 (i + 1) (visitN (m, sf, wa, ti, r) (ω i) T) (by omega) (by rw [hT]; rfl) (by omega)
        exact lp_73 (N + 1) 0 s (Nat.zero_le _) rfl (by omega)
  exact lp_58 (721) ω1 π1 (ρ 1) (0, 0) 1 720 hag0 hπ0 hinj0 (Or.inl ⟨rfl, hend0, rfl⟩) (fun h9 => absurd h9 (by decide)) (by omega) (by omega) (by omega)
