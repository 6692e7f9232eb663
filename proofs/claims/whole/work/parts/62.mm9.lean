set_option maxHeartbeats 4000000 in
set_option maxRecDepth 100000 in
theorem c_M_newShop (E : vEnv) (l : Launch) (L : List Nat) (h : Nat → va_E) (o : Nat) (mw : Nat) (mk : Nat) (mt : Nat) (mr : Nat) (mki : Nat) (mso : Nat) (mst : Nat) (mpr : Nat) (msh : Nat) (mwa : Nat) (mpu : Nat) (mtx : Nat) (mor : Nat) (mbo : Nat) (tO : Nat) (tVi : Nat) (tSm : Nat) (bg : Int32) (cl : Int32) (um : Int32) (mn : Int32) (tm : Int32) (n : Nat) (MT : Nat → Int32) (F : Nat → Int32) (t : Nat) (Ki : Nat → Int32) (So : Nat → Int32) (St : Nat → Int32) (Pr : Nat → Int32) (Sh : Nat → Int32) (m : Nat) (x : Int32) (ht : t ≤ n) (hn : n ≤ 160) (hT : ∀ j, j < n → MT j = F j) (eM1 : Sh 1 = nI m) (hm5 : m < 6) : CT E l yX11_newShop cX11_newShop 3 none 2 0 0 L h [(o, ob 10 [.ref mw, .ref mk, .ref mt, .ref mr, .ref mki, .ref mso, .ref mst, .ref mpr, .ref msh, .ref mwa, .ref mpu, .ref mtx, .int (nI n), .int (nI t), .int bg, .int 0, .int cl, .int um, .ref mor, .ref mbo, .int mn, .ref tO, .ref tVi, .ref tSm, .int tm]), (mtx, aI E 160 MT), (mki, aI E 12 Ki), (mso, aI E 12 So), (mst, aI E 12 St), (mpr, aI E 12 Pr), (msh, aI E 2 Sh)] [.ref o, .int x] (qP L h (fun (u : Int32 × Int32 × Int32 × Int32 × Int32 × Int32) => [(o, ob 10 [.ref mw, .ref mk, .ref mt, .ref mr, .ref mki, .ref mso, .ref mst, .ref mpr, .ref msh, .ref mwa, .ref mpu, .ref mtx, .int (nI n), .int u.2.2.2.1, .int u.2.2.2.2.1, .int u.2.2.2.2.2, .int cl, .int um, .ref mor, .ref mbo, .int mn, .ref tO, .ref tVi, .ref tSm, .int tm]), (mtx, aI E 160 MT), (mki, aI E 12 (upd Ki (6 + m) x)), (mso, aI E 12 (upd So (6 + m) u.1)), (mst, aI E 12 (upd St (6 + m) u.2.1)), (mpr, aI E 12 (upd Pr (6 + m) u.2.2.1)), (msh, aI E 2 (upd Sh 1 (nI (m + 1))))]) (fun u => none) (fun u => nsR (numsG F n 2 3 0 t) [u.1, u.2.1, u.2.2.1] u.2.2.2.1 u.2.2.2.2.1 u.2.2.2.2.2)) := by
  refine CT.ofV (by decide +kernel) (Nat.le_of_ble_eq_true rfl) ?_
  refine V.locals2 (lv2 := [(0, .ref o), (1, .int x)]) rfl ?_
  refine V.bipush (v := 6) dX11_newShop_0 (by decide) ?_
  refine V.aload_n dX11_newShop_2 0 rfl ?_
  refine V.getf 0 8 rfl fa_X11_35_10 rfl dX11_newShop_3 ?_
  refine V.iconst (v := 1) dX11_newShop_6 (by decide) ?_
  refine V.iald 6 rfl (vin rfl) dX11_newShop_7 ?_
  refine V.topc (v := (Sh 1)) (rfl) ?_
  refine V.topc (v := (nI m)) (eM1) ?_
  refine V.iadd dX11_newShop_8 ?_
  refine V.topc (v := (nI (6 + m))) (nI_add 6 m) ?_
  refine V.istore_n (lv2 := [(2, .int (nI (6 + m))), (0, .ref o), (1, .int x)]) dX11_newShop_9 rfl (by decide) rfl ?_
  refine V.aload_n dX11_newShop_10 1 rfl ?_
  refine V.getf 0 4 rfl fa_X11_23_10 rfl dX11_newShop_11 ?_
  refine V.iload_n dX11_newShop_14 0 rfl ?_
  refine V.iload_n dX11_newShop_15 2 rfl ?_
  refine V.iast (vw2 := [(o, ob 10 [.ref mw, .ref mk, .ref mt, .ref mr, .ref mki, .ref mso, .ref mst, .ref mpr, .ref msh, .ref mwa, .ref mpu, .ref mtx, .int (nI n), .int (nI t), .int bg, .int 0, .int cl, .int um, .ref mor, .ref mbo, .int mn, .ref tO, .ref tVi, .ref tSm, .int tm]), (mtx, aI E 160 MT), (mki, aI E 12 (upd Ki (6 + m) x)), (mso, aI E 12 So), (mst, aI E 12 St), (mpr, aI E 12 Pr), (msh, aI E 2 Sh)]) 2 rfl (vinI (by omega)) (by rw [nI_clamp (by omega)] <;> rfl) dX11_newShop_16 ?_
  refine V.aload_n dX11_newShop_17 1 rfl ?_
  refine V.getf 0 5 rfl fa_X11_26_10 rfl dX11_newShop_18 ?_
  refine V.iload_n dX11_newShop_21 0 rfl ?_
  refine V.aload_n dX11_newShop_22 1 rfl ?_
  refine V.iconst (v := 0) dX11_newShop_23 (by decide) ?_
  refine V.iconst (v := 3) dX11_newShop_24 (by decide) ?_
  refine V.callVp (As := [.int 0, .int 3]) (rest := [.int (nI (6 + m)), .ref mso]) [0, 1] (c_M_take E l L _ o mw mk mt mr mki mso mst mpr msh mwa mpu mtx mor mbo tO tVi tSm bg cl um mn tm n MT F t 0 3 (ht) (hn) (hT) (by omega)) rfl (by decide) mi_X11_take 0 rfl rfl w_832 w_834 wp_14 rfl rfl (Nat.le_of_ble_eq_true rfl) ⟨by decide, by decide⟩ ⟨by decide, by decide⟩ dX11_newShop_25 (vw2 := fun z1 => [(o, ob 10 [.ref mw, .ref mk, .ref mt, .ref mr, .ref mki, .ref mso, .ref mst, .ref mpr, .ref msh, .ref mwa, .ref mpu, .ref mtx, .int (nI n), .int (nI (dgE F n t)), .int (nI (frT F n t)), .int (badW F n t 0 3), .int cl, .int um, .ref mor, .ref mbo, .int mn, .ref tO, .ref tVi, .ref tSm, .int tm]), (mtx, aI E 160 MT), (mki, aI E 12 (upd Ki (6 + m) x)), (mso, aI E 12 So), (mst, aI E 12 St), (mpr, aI E 12 Pr), (msh, aI E 2 Sh)]) (st2 := fun z1 => [.int z1, .int (nI (6 + m)), .ref mso]) (fun _ => rfl) (fun _ => rfl) (fun _ => rfl) (fun z1 hq_25 => ?_)
  rcases withinI_01 (numT F n t) (nI 0) 3 with hb25 | hb25
  · skip
    have e25 : badW F n t 0 3 = 1 := if_neg (by rw [show withinI (numW F (frT F n t) (teT F n t)) (nI 0) 3 = 0 from hb25]; decide)
    rw [e25]
    refine V.view (vw2 := [(o, ob 10 [.ref mw, .ref mk, .ref mt, .ref mr, .ref mki, .ref mso, .ref mst, .ref mpr, .ref msh, .ref mwa, .ref mpu, .ref mtx, .int (nI n), .int (nI (dgE F n t)), .int (nI (frT F n t)), .int 1, .int cl, .int um, .ref mor, .ref mbo, .int mn, .ref tO, .ref tVi, .ref tSm, .int tm]), (mtx, aI E 160 MT), (mki, aI E 12 (upd Ki (6 + m) x)), (mso, aI E 12 So), (mst, aI E 12 St), (mpr, aI E 12 Pr), (msh, aI E 2 Sh)]) (L2 := L) rfl rfl ?_
    refine V.iast (vw2 := [(o, ob 10 [.ref mw, .ref mk, .ref mt, .ref mr, .ref mki, .ref mso, .ref mst, .ref mpr, .ref msh, .ref mwa, .ref mpu, .ref mtx, .int (nI n), .int (nI (dgE F n t)), .int (nI (frT F n t)), .int 1, .int cl, .int um, .ref mor, .ref mbo, .int mn, .ref tO, .ref tVi, .ref tSm, .int tm]), (mtx, aI E 160 MT), (mki, aI E 12 (upd Ki (6 + m) x)), (mso, aI E 12 (upd So (6 + m) z1)), (mst, aI E 12 St), (mpr, aI E 12 Pr), (msh, aI E 2 Sh)]) 3 rfl (vinI (by omega)) (by rw [nI_clamp (by omega)] <;> rfl) dX11_newShop_28 ?_
    refine V.aload_n dX11_newShop_29 1 rfl ?_
    refine V.getf 0 6 rfl fa_X11_29_10 rfl dX11_newShop_30 ?_
    refine V.iload_n dX11_newShop_33 0 rfl ?_
    refine V.aload_n dX11_newShop_34 1 rfl ?_
    refine V.iconst (v := 1) dX11_newShop_35 (by decide) ?_
    refine V.bipush (v := 30) dX11_newShop_36 (by decide) ?_
    refine V.callVp (As := [.int 1, .int 30]) (rest := [.int (nI (6 + m)), .ref mst]) [0] (c_M_takeW E l L _ o mw mk mt mr mki mso mst mpr msh mwa mpu mtx mor mbo tO tVi tSm ((nI n)) ((nI (dgE F n t))) ((nI (frT F n t))) cl um mn tm 1 30) rfl (by decide) mi_X11_take 0 rfl rfl w_832 w_834 wp_14 rfl rfl (Nat.le_of_ble_eq_true rfl) ⟨by decide, by decide⟩ ⟨by decide, by decide⟩ dX11_newShop_38 (vw2 := fun _ => [(o, ob 10 [.ref mw, .ref mk, .ref mt, .ref mr, .ref mki, .ref mso, .ref mst, .ref mpr, .ref msh, .ref mwa, .ref mpu, .ref mtx, .int (nI n), .int (nI (dgE F n t)), .int (nI (frT F n t)), .int 1, .int cl, .int um, .ref mor, .ref mbo, .int mn, .ref tO, .ref tVi, .ref tSm, .int tm]), (mtx, aI E 160 MT), (mki, aI E 12 (upd Ki (6 + m) x)), (mso, aI E 12 (upd So (6 + m) z1)), (mst, aI E 12 St), (mpr, aI E 12 Pr), (msh, aI E 2 Sh)]) (st2 := fun _ => [.int 0, .int (nI (6 + m)), .ref mst]) (fun _ => rfl) (fun _ => rfl) (fun _ => rfl) (fun _ _ => ?_)
    refine V.iast (vw2 := [(o, ob 10 [.ref mw, .ref mk, .ref mt, .ref mr, .ref mki, .ref mso, .ref mst, .ref mpr, .ref msh, .ref mwa, .ref mpu, .ref mtx, .int (nI n), .int (nI (dgE F n t)), .int (nI (frT F n t)), .int 1, .int cl, .int um, .ref mor, .ref mbo, .int mn, .ref tO, .ref tVi, .ref tSm, .int tm]), (mtx, aI E 160 MT), (mki, aI E 12 (upd Ki (6 + m) x)), (mso, aI E 12 (upd So (6 + m) z1)), (mst, aI E 12 (upd St (6 + m) 0)), (mpr, aI E 12 Pr), (msh, aI E 2 Sh)]) 4 rfl (vinI (by omega)) (by rw [nI_clamp (by omega)] <;> rfl) dX11_newShop_41 ?_
    refine V.aload_n dX11_newShop_42 1 rfl ?_
    refine V.getf 0 7 rfl fa_X11_32_10 rfl dX11_newShop_43 ?_
    refine V.iload_n dX11_newShop_46 0 rfl ?_
    refine V.aload_n dX11_newShop_47 1 rfl ?_
    refine V.iconst (v := 0) dX11_newShop_48 (by decide) ?_
    refine V.bipush (v := 50) dX11_newShop_49 (by decide) ?_
    refine V.callVp (As := [.int 0, .int 50]) (rest := [.int (nI (6 + m)), .ref mpr]) [0] (c_M_takeW E l L _ o mw mk mt mr mki mso mst mpr msh mwa mpu mtx mor mbo tO tVi tSm ((nI n)) ((nI (dgE F n t))) ((nI (frT F n t))) cl um mn tm 0 50) rfl (by decide) mi_X11_take 0 rfl rfl w_832 w_834 wp_14 rfl rfl (Nat.le_of_ble_eq_true rfl) ⟨by decide, by decide⟩ ⟨by decide, by decide⟩ dX11_newShop_51 (vw2 := fun _ => [(o, ob 10 [.ref mw, .ref mk, .ref mt, .ref mr, .ref mki, .ref mso, .ref mst, .ref mpr, .ref msh, .ref mwa, .ref mpu, .ref mtx, .int (nI n), .int (nI (dgE F n t)), .int (nI (frT F n t)), .int 1, .int cl, .int um, .ref mor, .ref mbo, .int mn, .ref tO, .ref tVi, .ref tSm, .int tm]), (mtx, aI E 160 MT), (mki, aI E 12 (upd Ki (6 + m) x)), (mso, aI E 12 (upd So (6 + m) z1)), (mst, aI E 12 (upd St (6 + m) 0)), (mpr, aI E 12 Pr), (msh, aI E 2 Sh)]) (st2 := fun _ => [.int 0, .int (nI (6 + m)), .ref mpr]) (fun _ => rfl) (fun _ => rfl) (fun _ => rfl) (fun _ _ => ?_)
    refine V.iast (vw2 := [(o, ob 10 [.ref mw, .ref mk, .ref mt, .ref mr, .ref mki, .ref mso, .ref mst, .ref mpr, .ref msh, .ref mwa, .ref mpu, .ref mtx, .int (nI n), .int (nI (dgE F n t)), .int (nI (frT F n t)), .int 1, .int cl, .int um, .ref mor, .ref mbo, .int mn, .ref tO, .ref tVi, .ref tSm, .int tm]), (mtx, aI E 160 MT), (mki, aI E 12 (upd Ki (6 + m) x)), (mso, aI E 12 (upd So (6 + m) z1)), (mst, aI E 12 (upd St (6 + m) 0)), (mpr, aI E 12 (upd Pr (6 + m) 0)), (msh, aI E 2 Sh)]) 5 rfl (vinI (by omega)) (by rw [nI_clamp (by omega)] <;> rfl) dX11_newShop_54 ?_
    refine V.aload_n dX11_newShop_55 1 rfl ?_
    refine V.getf 0 8 rfl fa_X11_35_10 rfl dX11_newShop_56 ?_
    refine V.iconst (v := 1) dX11_newShop_59 (by decide) ?_
    refine V.dup2 dX11_newShop_60 rfl rfl ?_
    refine V.iald 6 rfl (vin rfl) dX11_newShop_61 ?_
    refine V.topc (v := (Sh 1)) (rfl) ?_
    refine V.topc (v := (nI m)) (eM1) ?_
    refine V.iconst (v := 1) dX11_newShop_62 (by decide) ?_
    refine V.iadd dX11_newShop_63 ?_
    refine V.topc (v := (nI (m + 1))) (nI_1 m) ?_
    refine V.iast (vw2 := [(o, ob 10 [.ref mw, .ref mk, .ref mt, .ref mr, .ref mki, .ref mso, .ref mst, .ref mpr, .ref msh, .ref mwa, .ref mpu, .ref mtx, .int (nI n), .int (nI (dgE F n t)), .int (nI (frT F n t)), .int 1, .int cl, .int um, .ref mor, .ref mbo, .int mn, .ref tO, .ref tVi, .ref tSm, .int tm]), (mtx, aI E 160 MT), (mki, aI E 12 (upd Ki (6 + m) x)), (mso, aI E 12 (upd So (6 + m) z1)), (mst, aI E 12 (upd St (6 + m) 0)), (mpr, aI E 12 (upd Pr (6 + m) 0)), (msh, aI E 2 (upd Sh 1 (nI (m + 1))))]) 6 rfl (vin rfl) (rfl) dX11_newShop_64 ?_
    exact V.vret rfl dX11_newShop_65 (⟨(z1, 0, 0, (nI (dgE F n t)), (nI (frT F n t)), 1), rfl, rfl, rfl, ns_shop_0 hb25⟩)
  · skip
    have e25 : badW F n t 0 3 = 0 := if_pos hb25
    obtain ⟨ez25, et25⟩ := hq_25 hb25
    rw [e25, ← et25]
    refine V.view (vw2 := [(o, ob 10 [.ref mw, .ref mk, .ref mt, .ref mr, .ref mki, .ref mso, .ref mst, .ref mpr, .ref msh, .ref mwa, .ref mpu, .ref mtx, .int (nI n), .int (nI (teT F n t)), .int (nI (frT F n t)), .int 0, .int cl, .int um, .ref mor, .ref mbo, .int mn, .ref tO, .ref tVi, .ref tSm, .int tm]), (mtx, aI E 160 MT), (mki, aI E 12 (upd Ki (6 + m) x)), (mso, aI E 12 So), (mst, aI E 12 St), (mpr, aI E 12 Pr), (msh, aI E 2 Sh)]) (L2 := L) rfl rfl ?_
    refine V.iast (vw2 := [(o, ob 10 [.ref mw, .ref mk, .ref mt, .ref mr, .ref mki, .ref mso, .ref mst, .ref mpr, .ref msh, .ref mwa, .ref mpu, .ref mtx, .int (nI n), .int (nI (teT F n t)), .int (nI (frT F n t)), .int 0, .int cl, .int um, .ref mor, .ref mbo, .int mn, .ref tO, .ref tVi, .ref tSm, .int tm]), (mtx, aI E 160 MT), (mki, aI E 12 (upd Ki (6 + m) x)), (mso, aI E 12 (upd So (6 + m) z1)), (mst, aI E 12 St), (mpr, aI E 12 Pr), (msh, aI E 2 Sh)]) 3 rfl (vinI (by omega)) (by rw [nI_clamp (by omega)] <;> rfl) dX11_newShop_28 ?_
    refine V.aload_n dX11_newShop_29 1 rfl ?_
    refine V.getf 0 6 rfl fa_X11_29_10 rfl dX11_newShop_30 ?_
    refine V.iload_n dX11_newShop_33 0 rfl ?_
    refine V.aload_n dX11_newShop_34 1 rfl ?_
    refine V.iconst (v := 1) dX11_newShop_35 (by decide) ?_
    refine V.bipush (v := 30) dX11_newShop_36 (by decide) ?_
    refine V.callVp (As := [.int 1, .int 30]) (rest := [.int (nI (6 + m)), .ref mst]) [0, 1] (c_M_take E l L _ o mw mk mt mr mki mso mst mpr msh mwa mpu mtx mor mbo tO tVi tSm ((nI (frT F n t))) cl um mn tm n MT F ((teT F n t)) 1 30 (teT_le ht) (hn) (hT) (by omega)) rfl (by decide) mi_X11_take 0 rfl rfl w_832 w_834 wp_14 rfl rfl (Nat.le_of_ble_eq_true rfl) ⟨by decide, by decide⟩ ⟨by decide, by decide⟩ dX11_newShop_38 (vw2 := fun z2 => [(o, ob 10 [.ref mw, .ref mk, .ref mt, .ref mr, .ref mki, .ref mso, .ref mst, .ref mpr, .ref msh, .ref mwa, .ref mpu, .ref mtx, .int (nI n), .int (nI (dgE F n (teT F n t))), .int (nI (frT F n (teT F n t))), .int (badW F n (teT F n t) 1 30), .int cl, .int um, .ref mor, .ref mbo, .int mn, .ref tO, .ref tVi, .ref tSm, .int tm]), (mtx, aI E 160 MT), (mki, aI E 12 (upd Ki (6 + m) x)), (mso, aI E 12 (upd So (6 + m) z1)), (mst, aI E 12 St), (mpr, aI E 12 Pr), (msh, aI E 2 Sh)]) (st2 := fun z2 => [.int z2, .int (nI (6 + m)), .ref mst]) (fun _ => rfl) (fun _ => rfl) (fun _ => rfl) (fun z2 hq_38 => ?_)
    rcases withinI_01 (numT F n (teT F n t)) (nI 1) 30 with hb38 | hb38
    · skip
      have e38 : badW F n (teT F n t) 1 30 = 1 := if_neg (by rw [show withinI (numW F (frT F n (teT F n t)) (teT F n (teT F n t))) (nI 1) 30 = 0 from hb38]; decide)
      rw [e38]
      refine V.view (vw2 := [(o, ob 10 [.ref mw, .ref mk, .ref mt, .ref mr, .ref mki, .ref mso, .ref mst, .ref mpr, .ref msh, .ref mwa, .ref mpu, .ref mtx, .int (nI n), .int (nI (dgE F n (teT F n t))), .int (nI (frT F n (teT F n t))), .int 1, .int cl, .int um, .ref mor, .ref mbo, .int mn, .ref tO, .ref tVi, .ref tSm, .int tm]), (mtx, aI E 160 MT), (mki, aI E 12 (upd Ki (6 + m) x)), (mso, aI E 12 (upd So (6 + m) z1)), (mst, aI E 12 St), (mpr, aI E 12 Pr), (msh, aI E 2 Sh)]) (L2 := L) rfl rfl ?_
      refine V.iast (vw2 := [(o, ob 10 [.ref mw, .ref mk, .ref mt, .ref mr, .ref mki, .ref mso, .ref mst, .ref mpr, .ref msh, .ref mwa, .ref mpu, .ref mtx, .int (nI n), .int (nI (dgE F n (teT F n t))), .int (nI (frT F n (teT F n t))), .int 1, .int cl, .int um, .ref mor, .ref mbo, .int mn, .ref tO, .ref tVi, .ref tSm, .int tm]), (mtx, aI E 160 MT), (mki, aI E 12 (upd Ki (6 + m) x)), (mso, aI E 12 (upd So (6 + m) z1)), (mst, aI E 12 (upd St (6 + m) z2)), (mpr, aI E 12 Pr), (msh, aI E 2 Sh)]) 4 rfl (vinI (by omega)) (by rw [nI_clamp (by omega)] <;> rfl) dX11_newShop_41 ?_
      refine V.aload_n dX11_newShop_42 1 rfl ?_
      refine V.getf 0 7 rfl fa_X11_32_10 rfl dX11_newShop_43 ?_
      refine V.iload_n dX11_newShop_46 0 rfl ?_
      refine V.aload_n dX11_newShop_47 1 rfl ?_
      refine V.iconst (v := 0) dX11_newShop_48 (by decide) ?_
      refine V.bipush (v := 50) dX11_newShop_49 (by decide) ?_
      refine V.callVp (As := [.int 0, .int 50]) (rest := [.int (nI (6 + m)), .ref mpr]) [0] (c_M_takeW E l L _ o mw mk mt mr mki mso mst mpr msh mwa mpu mtx mor mbo tO tVi tSm ((nI n)) ((nI (dgE F n (teT F n t)))) ((nI (frT F n (teT F n t)))) cl um mn tm 0 50) rfl (by decide) mi_X11_take 0 rfl rfl w_832 w_834 wp_14 rfl rfl (Nat.le_of_ble_eq_true rfl) ⟨by decide, by decide⟩ ⟨by decide, by decide⟩ dX11_newShop_51 (vw2 := fun _ => [(o, ob 10 [.ref mw, .ref mk, .ref mt, .ref mr, .ref mki, .ref mso, .ref mst, .ref mpr, .ref msh, .ref mwa, .ref mpu, .ref mtx, .int (nI n), .int (nI (dgE F n (teT F n t))), .int (nI (frT F n (teT F n t))), .int 1, .int cl, .int um, .ref mor, .ref mbo, .int mn, .ref tO, .ref tVi, .ref tSm, .int tm]), (mtx, aI E 160 MT), (mki, aI E 12 (upd Ki (6 + m) x)), (mso, aI E 12 (upd So (6 + m) z1)), (mst, aI E 12 (upd St (6 + m) z2)), (mpr, aI E 12 Pr), (msh, aI E 2 Sh)]) (st2 := fun _ => [.int 0, .int (nI (6 + m)), .ref mpr]) (fun _ => rfl) (fun _ => rfl) (fun _ => rfl) (fun _ _ => ?_)
      refine V.iast (vw2 := [(o, ob 10 [.ref mw, .ref mk, .ref mt, .ref mr, .ref mki, .ref mso, .ref mst, .ref mpr, .ref msh, .ref mwa, .ref mpu, .ref mtx, .int (nI n), .int (nI (dgE F n (teT F n t))), .int (nI (frT F n (teT F n t))), .int 1, .int cl, .int um, .ref mor, .ref mbo, .int mn, .ref tO, .ref tVi, .ref tSm, .int tm]), (mtx, aI E 160 MT), (mki, aI E 12 (upd Ki (6 + m) x)), (mso, aI E 12 (upd So (6 + m) z1)), (mst, aI E 12 (upd St (6 + m) z2)), (mpr, aI E 12 (upd Pr (6 + m) 0)), (msh, aI E 2 Sh)]) 5 rfl (vinI (by omega)) (by rw [nI_clamp (by omega)] <;> rfl) dX11_newShop_54 ?_
      refine V.aload_n dX11_newShop_55 1 rfl ?_
      refine V.getf 0 8 rfl fa_X11_35_10 rfl dX11_newShop_56 ?_
      refine V.iconst (v := 1) dX11_newShop_59 (by decide) ?_
      refine V.dup2 dX11_newShop_60 rfl rfl ?_
      refine V.iald 6 rfl (vin rfl) dX11_newShop_61 ?_
      refine V.topc (v := (Sh 1)) (rfl) ?_
      refine V.topc (v := (nI m)) (eM1) ?_
      refine V.iconst (v := 1) dX11_newShop_62 (by decide) ?_
      refine V.iadd dX11_newShop_63 ?_
      refine V.topc (v := (nI (m + 1))) (nI_1 m) ?_
      refine V.iast (vw2 := [(o, ob 10 [.ref mw, .ref mk, .ref mt, .ref mr, .ref mki, .ref mso, .ref mst, .ref mpr, .ref msh, .ref mwa, .ref mpu, .ref mtx, .int (nI n), .int (nI (dgE F n (teT F n t))), .int (nI (frT F n (teT F n t))), .int 1, .int cl, .int um, .ref mor, .ref mbo, .int mn, .ref tO, .ref tVi, .ref tSm, .int tm]), (mtx, aI E 160 MT), (mki, aI E 12 (upd Ki (6 + m) x)), (mso, aI E 12 (upd So (6 + m) z1)), (mst, aI E 12 (upd St (6 + m) z2)), (mpr, aI E 12 (upd Pr (6 + m) 0)), (msh, aI E 2 (upd Sh 1 (nI (m + 1))))]) 6 rfl (vin rfl) (rfl) dX11_newShop_64 ?_
      exact V.vret rfl dX11_newShop_65 (⟨(z1, z2, 0, (nI (dgE F n (teT F n t))), (nI (frT F n (teT F n t))), 1), rfl, rfl, rfl, ns_shop_1 hb25 hb38⟩)
    · skip
      have e38 : badW F n (teT F n t) 1 30 = 0 := if_pos hb38
      obtain ⟨ez38, et38⟩ := hq_38 hb38
      rw [e38, ← et38]
      refine V.view (vw2 := [(o, ob 10 [.ref mw, .ref mk, .ref mt, .ref mr, .ref mki, .ref mso, .ref mst, .ref mpr, .ref msh, .ref mwa, .ref mpu, .ref mtx, .int (nI n), .int (nI (teT F n (teT F n t))), .int (nI (frT F n (teT F n t))), .int 0, .int cl, .int um, .ref mor, .ref mbo, .int mn, .ref tO, .ref tVi, .ref tSm, .int tm]), (mtx, aI E 160 MT), (mki, aI E 12 (upd Ki (6 + m) x)), (mso, aI E 12 (upd So (6 + m) z1)), (mst, aI E 12 St), (mpr, aI E 12 Pr), (msh, aI E 2 Sh)]) (L2 := L) rfl rfl ?_
      refine V.iast (vw2 := [(o, ob 10 [.ref mw, .ref mk, .ref mt, .ref mr, .ref mki, .ref mso, .ref mst, .ref mpr, .ref msh, .ref mwa, .ref mpu, .ref mtx, .int (nI n), .int (nI (teT F n (teT F n t))), .int (nI (frT F n (teT F n t))), .int 0, .int cl, .int um, .ref mor, .ref mbo, .int mn, .ref tO, .ref tVi, .ref tSm, .int tm]), (mtx, aI E 160 MT), (mki, aI E 12 (upd Ki (6 + m) x)), (mso, aI E 12 (upd So (6 + m) z1)), (mst, aI E 12 (upd St (6 + m) z2)), (mpr, aI E 12 Pr), (msh, aI E 2 Sh)]) 4 rfl (vinI (by omega)) (by rw [nI_clamp (by omega)] <;> rfl) dX11_newShop_41 ?_
      refine V.aload_n dX11_newShop_42 1 rfl ?_
      refine V.getf 0 7 rfl fa_X11_32_10 rfl dX11_newShop_43 ?_
      refine V.iload_n dX11_newShop_46 0 rfl ?_
      refine V.aload_n dX11_newShop_47 1 rfl ?_
      refine V.iconst (v := 0) dX11_newShop_48 (by decide) ?_
      refine V.bipush (v := 50) dX11_newShop_49 (by decide) ?_
      refine V.callVp (As := [.int 0, .int 50]) (rest := [.int (nI (6 + m)), .ref mpr]) [0, 1] (c_M_take E l L _ o mw mk mt mr mki mso mst mpr msh mwa mpu mtx mor mbo tO tVi tSm ((nI (frT F n (teT F n t)))) cl um mn tm n MT F ((teT F n (teT F n t))) 0 50 (teT_le (teT_le ht)) (hn) (hT) (by omega)) rfl (by decide) mi_X11_take 0 rfl rfl w_832 w_834 wp_14 rfl rfl (Nat.le_of_ble_eq_true rfl) ⟨by decide, by decide⟩ ⟨by decide, by decide⟩ dX11_newShop_51 (vw2 := fun z3 => [(o, ob 10 [.ref mw, .ref mk, .ref mt, .ref mr, .ref mki, .ref mso, .ref mst, .ref mpr, .ref msh, .ref mwa, .ref mpu, .ref mtx, .int (nI n), .int (nI (dgE F n (teT F n (teT F n t)))), .int (nI (frT F n (teT F n (teT F n t)))), .int (badW F n (teT F n (teT F n t)) 0 50), .int cl, .int um, .ref mor, .ref mbo, .int mn, .ref tO, .ref tVi, .ref tSm, .int tm]), (mtx, aI E 160 MT), (mki, aI E 12 (upd Ki (6 + m) x)), (mso, aI E 12 (upd So (6 + m) z1)), (mst, aI E 12 (upd St (6 + m) z2)), (mpr, aI E 12 Pr), (msh, aI E 2 Sh)]) (st2 := fun z3 => [.int z3, .int (nI (6 + m)), .ref mpr]) (fun _ => rfl) (fun _ => rfl) (fun _ => rfl) (fun z3 hq_51 => ?_)
      rcases withinI_01 (numT F n (teT F n (teT F n t))) (nI 0) 50 with hb51 | hb51
      · skip
        have e51 : badW F n (teT F n (teT F n t)) 0 50 = 1 := if_neg (by rw [show withinI (numW F (frT F n (teT F n (teT F n t))) (teT F n (teT F n (teT F n t)))) (nI 0) 50 = 0 from hb51]; decide)
        rw [e51]
        refine V.view (vw2 := [(o, ob 10 [.ref mw, .ref mk, .ref mt, .ref mr, .ref mki, .ref mso, .ref mst, .ref mpr, .ref msh, .ref mwa, .ref mpu, .ref mtx, .int (nI n), .int (nI (dgE F n (teT F n (teT F n t)))), .int (nI (frT F n (teT F n (teT F n t)))), .int 1, .int cl, .int um, .ref mor, .ref mbo, .int mn, .ref tO, .ref tVi, .ref tSm, .int tm]), (mtx, aI E 160 MT), (mki, aI E 12 (upd Ki (6 + m) x)), (mso, aI E 12 (upd So (6 + m) z1)), (mst, aI E 12 (upd St (6 + m) z2)), (mpr, aI E 12 Pr), (msh, aI E 2 Sh)]) (L2 := L) rfl rfl ?_
        refine V.iast (vw2 := [(o, ob 10 [.ref mw, .ref mk, .ref mt, .ref mr, .ref mki, .ref mso, .ref mst, .ref mpr, .ref msh, .ref mwa, .ref mpu, .ref mtx, .int (nI n), .int (nI (dgE F n (teT F n (teT F n t)))), .int (nI (frT F n (teT F n (teT F n t)))), .int 1, .int cl, .int um, .ref mor, .ref mbo, .int mn, .ref tO, .ref tVi, .ref tSm, .int tm]), (mtx, aI E 160 MT), (mki, aI E 12 (upd Ki (6 + m) x)), (mso, aI E 12 (upd So (6 + m) z1)), (mst, aI E 12 (upd St (6 + m) z2)), (mpr, aI E 12 (upd Pr (6 + m) z3)), (msh, aI E 2 Sh)]) 5 rfl (vinI (by omega)) (by rw [nI_clamp (by omega)] <;> rfl) dX11_newShop_54 ?_
        refine V.aload_n dX11_newShop_55 1 rfl ?_
        refine V.getf 0 8 rfl fa_X11_35_10 rfl dX11_newShop_56 ?_
        refine V.iconst (v := 1) dX11_newShop_59 (by decide) ?_
        refine V.dup2 dX11_newShop_60 rfl rfl ?_
        refine V.iald 6 rfl (vin rfl) dX11_newShop_61 ?_
        refine V.topc (v := (Sh 1)) (rfl) ?_
        refine V.topc (v := (nI m)) (eM1) ?_
        refine V.iconst (v := 1) dX11_newShop_62 (by decide) ?_
        refine V.iadd dX11_newShop_63 ?_
        refine V.topc (v := (nI (m + 1))) (nI_1 m) ?_
        refine V.iast (vw2 := [(o, ob 10 [.ref mw, .ref mk, .ref mt, .ref mr, .ref mki, .ref mso, .ref mst, .ref mpr, .ref msh, .ref mwa, .ref mpu, .ref mtx, .int (nI n), .int (nI (dgE F n (teT F n (teT F n t)))), .int (nI (frT F n (teT F n (teT F n t)))), .int 1, .int cl, .int um, .ref mor, .ref mbo, .int mn, .ref tO, .ref tVi, .ref tSm, .int tm]), (mtx, aI E 160 MT), (mki, aI E 12 (upd Ki (6 + m) x)), (mso, aI E 12 (upd So (6 + m) z1)), (mst, aI E 12 (upd St (6 + m) z2)), (mpr, aI E 12 (upd Pr (6 + m) z3)), (msh, aI E 2 (upd Sh 1 (nI (m + 1))))]) 6 rfl (vin rfl) (rfl) dX11_newShop_64 ?_
        exact V.vret rfl dX11_newShop_65 (⟨(z1, z2, z3, (nI (dgE F n (teT F n (teT F n t)))), (nI (frT F n (teT F n (teT F n t)))), 1), rfl, rfl, rfl, ns_shop_2 hb25 hb38 hb51⟩)
      · skip
        have e51 : badW F n (teT F n (teT F n t)) 0 50 = 0 := if_pos hb51
        obtain ⟨ez51, et51⟩ := hq_51 hb51
        rw [e51, ← et51]
        refine V.view (vw2 := [(o, ob 10 [.ref mw, .ref mk, .ref mt, .ref mr, .ref mki, .ref mso, .ref mst, .ref mpr, .ref msh, .ref mwa, .ref mpu, .ref mtx, .int (nI n), .int (nI (teT F n (teT F n (teT F n t)))), .int (nI (frT F n (teT F n (teT F n t)))), .int 0, .int cl, .int um, .ref mor, .ref mbo, .int mn, .ref tO, .ref tVi, .ref tSm, .int tm]), (mtx, aI E 160 MT), (mki, aI E 12 (upd Ki (6 + m) x)), (mso, aI E 12 (upd So (6 + m) z1)), (mst, aI E 12 (upd St (6 + m) z2)), (mpr, aI E 12 Pr), (msh, aI E 2 Sh)]) (L2 := L) rfl rfl ?_
        refine V.iast (vw2 := [(o, ob 10 [.ref mw, .ref mk, .ref mt, .ref mr, .ref mki, .ref mso, .ref mst, .ref mpr, .ref msh, .ref mwa, .ref mpu, .ref mtx, .int (nI n), .int (nI (teT F n (teT F n (teT F n t)))), .int (nI (frT F n (teT F n (teT F n t)))), .int 0, .int cl, .int um, .ref mor, .ref mbo, .int mn, .ref tO, .ref tVi, .ref tSm, .int tm]), (mtx, aI E 160 MT), (mki, aI E 12 (upd Ki (6 + m) x)), (mso, aI E 12 (upd So (6 + m) z1)), (mst, aI E 12 (upd St (6 + m) z2)), (mpr, aI E 12 (upd Pr (6 + m) z3)), (msh, aI E 2 Sh)]) 5 rfl (vinI (by omega)) (by rw [nI_clamp (by omega)] <;> rfl) dX11_newShop_54 ?_
        refine V.aload_n dX11_newShop_55 1 rfl ?_
        refine V.getf 0 8 rfl fa_X11_35_10 rfl dX11_newShop_56 ?_
        refine V.iconst (v := 1) dX11_newShop_59 (by decide) ?_
        refine V.dup2 dX11_newShop_60 rfl rfl ?_
        refine V.iald 6 rfl (vin rfl) dX11_newShop_61 ?_
        refine V.topc (v := (Sh 1)) (rfl) ?_
        refine V.topc (v := (nI m)) (eM1) ?_
        refine V.iconst (v := 1) dX11_newShop_62 (by decide) ?_
        refine V.iadd dX11_newShop_63 ?_
        refine V.topc (v := (nI (m + 1))) (nI_1 m) ?_
        refine V.iast (vw2 := [(o, ob 10 [.ref mw, .ref mk, .ref mt, .ref mr, .ref mki, .ref mso, .ref mst, .ref mpr, .ref msh, .ref mwa, .ref mpu, .ref mtx, .int (nI n), .int (nI (teT F n (teT F n (teT F n t)))), .int (nI (frT F n (teT F n (teT F n t)))), .int 0, .int cl, .int um, .ref mor, .ref mbo, .int mn, .ref tO, .ref tVi, .ref tSm, .int tm]), (mtx, aI E 160 MT), (mki, aI E 12 (upd Ki (6 + m) x)), (mso, aI E 12 (upd So (6 + m) z1)), (mst, aI E 12 (upd St (6 + m) z2)), (mpr, aI E 12 (upd Pr (6 + m) z3)), (msh, aI E 2 (upd Sh 1 (nI (m + 1))))]) 6 rfl (vin rfl) (rfl) dX11_newShop_64 ?_
        exact V.vret rfl dX11_newShop_65 (⟨(z1, z2, z3, (nI (teT F n (teT F n (teT F n t)))), (nI (frT F n (teT F n (teT F n t)))), 0), rfl, rfl, rfl, (by rw [ez25, ez38, ez51]; exact ns_shop_3 hb25 hb38 hb51)⟩)

set_option maxHeartbeats 4000000 in
set_option maxRecDepth 100000 in
theorem c_M_newSort (E : vEnv) (l : Launch) (L : List Nat) (h : Nat → va_E) (o : Nat) (mw : Nat) (mk : Nat) (mt : Nat) (mr : Nat) (mki : Nat) (mso : Nat) (mst : Nat) (mpr : Nat) (msh : Nat) (mwa : Nat) (mpu : Nat) (mtx : Nat) (mor : Nat) (mbo : Nat) (tO : Nat) (tVi : Nat) (tSm : Nat) (bg : Int32) (cl : Int32) (um : Int32) (mn : Int32) (tm : Int32) (n : Nat) (MT : Nat → Int32) (F : Nat → Int32) (t : Nat) (Ti : Nat → Int32) (Re : Nat → Int32) (ht : t ≤ n) (hn : n ≤ 160) (hT : ∀ j, j < n → MT j = F j) : CT E l yX11_newSort cX11_newSort 4 none 2 0 0 L h [(o, ob 10 [.ref mw, .ref mk, .ref mt, .ref mr, .ref mki, .ref mso, .ref mst, .ref mpr, .ref msh, .ref mwa, .ref mpu, .ref mtx, .int (nI n), .int (nI t), .int bg, .int 0, .int cl, .int um, .ref mor, .ref mbo, .int mn, .ref tO, .ref tVi, .ref tSm, .int tm]), (mtx, aI E 160 MT), (mt, aI E 8 Ti), (mr, aI E 8 Re)] [.ref o] (qP L h (fun (u : (Nat → Int32) × (Nat → Int32) × Int32 × Int32 × Int32 × Int32 × Int32 × Int32) => [(o, ob 10 [.ref mw, .ref mk, .ref mt, .ref mr, .ref mki, .ref mso, .ref mst, .ref mpr, .ref msh, .ref mwa, .ref mpu, .ref mtx, .int (nI n), .int u.2.2.2.2.2.1, .int u.2.2.2.2.2.2.1, .int u.2.2.2.2.2.2.2, .int cl, .int um, .ref mor, .ref mbo, .int mn, .ref tO, .ref tVi, .ref tSm, .int tm]), (mtx, aI E 160 MT), (mt, aI E 8 u.1), (mr, aI E 8 u.2.1)]) (fun u => none) (fun u => nsR (numsG F n 1 3 0 t) [u.2.2.1, u.2.2.2.1, u.2.2.2.2.1] u.2.2.2.2.2.1 u.2.2.2.2.2.2.1 u.2.2.2.2.2.2.2 ∧ (u.2.2.2.2.2.2.2 = 0 → ∃ so, so < 4 ∧ u.2.2.1 = nI so ∧ u.1 = upd Ti (4 + so) u.2.2.2.1 ∧ u.2.1 = upd Re (4 + so) u.2.2.2.2.1) ∧ (u.2.2.2.2.2.2.2 = 1 → u.1 = Ti ∧ u.2.1 = Re))) := by
  refine CT.ofV (by decide +kernel) (Nat.le_of_ble_eq_true rfl) ?_
  refine V.locals2 (lv2 := [(0, .ref o)]) rfl ?_
  refine V.aload_n dX11_newSort_0 0 rfl ?_
  refine V.iconst (v := 0) dX11_newSort_1 (by decide) ?_
  refine V.iconst (v := 3) dX11_newSort_2 (by decide) ?_
  refine V.callVp (As := [.int 0, .int 3]) (rest := []) [0, 1] (c_M_take E l L _ o mw mk mt mr mki mso mst mpr msh mwa mpu mtx mor mbo tO tVi tSm bg cl um mn tm n MT F t 0 3 (ht) (hn) (hT) (by omega)) rfl (by decide) mi_X11_take 0 rfl rfl w_832 w_834 wp_14 rfl rfl (Nat.le_of_ble_eq_true rfl) ⟨by decide, by decide⟩ ⟨by decide, by decide⟩ dX11_newSort_3 (vw2 := fun z1 => [(o, ob 10 [.ref mw, .ref mk, .ref mt, .ref mr, .ref mki, .ref mso, .ref mst, .ref mpr, .ref msh, .ref mwa, .ref mpu, .ref mtx, .int (nI n), .int (nI (dgE F n t)), .int (nI (frT F n t)), .int (badW F n t 0 3), .int cl, .int um, .ref mor, .ref mbo, .int mn, .ref tO, .ref tVi, .ref tSm, .int tm]), (mtx, aI E 160 MT), (mt, aI E 8 Ti), (mr, aI E 8 Re)]) (st2 := fun z1 => [.int z1]) (fun _ => rfl) (fun _ => rfl) (fun _ => rfl) (fun z1 hq_3 => ?_)
  rcases withinI_01 (numT F n t) (nI 0) 3 with hb3 | hb3
  · skip
    have e3 : badW F n t 0 3 = 1 := if_neg (by rw [show withinI (numW F (frT F n t) (teT F n t)) (nI 0) 3 = 0 from hb3]; decide)
    rw [e3]
    refine V.view (vw2 := [(o, ob 10 [.ref mw, .ref mk, .ref mt, .ref mr, .ref mki, .ref mso, .ref mst, .ref mpr, .ref msh, .ref mwa, .ref mpu, .ref mtx, .int (nI n), .int (nI (dgE F n t)), .int (nI (frT F n t)), .int 1, .int cl, .int um, .ref mor, .ref mbo, .int mn, .ref tO, .ref tVi, .ref tSm, .int tm]), (mtx, aI E 160 MT), (mt, aI E 8 Ti), (mr, aI E 8 Re)]) (L2 := L) rfl rfl ?_
    refine V.istore_n (lv2 := [(1, .int z1), (0, .ref o)]) dX11_newSort_6 rfl (by decide) rfl ?_
    refine V.aload_n dX11_newSort_7 1 rfl ?_
    refine V.iconst (v := 0) dX11_newSort_8 (by decide) ?_
    refine V.bipush (v := 9) dX11_newSort_9 (by decide) ?_
    refine V.callVp (As := [.int 0, .int 9]) (rest := []) [0] (c_M_takeW E l L _ o mw mk mt mr mki mso mst mpr msh mwa mpu mtx mor mbo tO tVi tSm ((nI n)) ((nI (dgE F n t))) ((nI (frT F n t))) cl um mn tm 0 9) rfl (by decide) mi_X11_take 0 rfl rfl w_832 w_834 wp_14 rfl rfl (Nat.le_of_ble_eq_true rfl) ⟨by decide, by decide⟩ ⟨by decide, by decide⟩ dX11_newSort_11 (vw2 := fun _ => [(o, ob 10 [.ref mw, .ref mk, .ref mt, .ref mr, .ref mki, .ref mso, .ref mst, .ref mpr, .ref msh, .ref mwa, .ref mpu, .ref mtx, .int (nI n), .int (nI (dgE F n t)), .int (nI (frT F n t)), .int 1, .int cl, .int um, .ref mor, .ref mbo, .int mn, .ref tO, .ref tVi, .ref tSm, .int tm]), (mtx, aI E 160 MT), (mt, aI E 8 Ti), (mr, aI E 8 Re)]) (st2 := fun _ => [.int 0]) (fun _ => rfl) (fun _ => rfl) (fun _ => rfl) (fun _ _ => ?_)
    refine V.istore_n (lv2 := [(2, .int 0), (1, .int z1), (0, .ref o)]) dX11_newSort_14 rfl (by decide) rfl ?_
    refine V.aload_n dX11_newSort_15 2 rfl ?_
    refine V.iconst (v := 0) dX11_newSort_16 (by decide) ?_
    refine V.iconst (v := 5) dX11_newSort_17 (by decide) ?_
    refine V.callVp (As := [.int 0, .int 5]) (rest := []) [0] (c_M_takeW E l L _ o mw mk mt mr mki mso mst mpr msh mwa mpu mtx mor mbo tO tVi tSm ((nI n)) ((nI (dgE F n t))) ((nI (frT F n t))) cl um mn tm 0 5) rfl (by decide) mi_X11_take 0 rfl rfl w_832 w_834 wp_14 rfl rfl (Nat.le_of_ble_eq_true rfl) ⟨by decide, by decide⟩ ⟨by decide, by decide⟩ dX11_newSort_18 (vw2 := fun _ => [(o, ob 10 [.ref mw, .ref mk, .ref mt, .ref mr, .ref mki, .ref mso, .ref mst, .ref mpr, .ref msh, .ref mwa, .ref mpu, .ref mtx, .int (nI n), .int (nI (dgE F n t)), .int (nI (frT F n t)), .int 1, .int cl, .int um, .ref mor, .ref mbo, .int mn, .ref tO, .ref tVi, .ref tSm, .int tm]), (mtx, aI E 160 MT), (mt, aI E 8 Ti), (mr, aI E 8 Re)]) (st2 := fun _ => [.int 0]) (fun _ => rfl) (fun _ => rfl) (fun _ => rfl) (fun _ _ => ?_)
    refine V.istore_n (lv2 := [(3, .int 0), (2, .int 0), (1, .int z1), (0, .ref o)]) dX11_newSort_21 rfl (by decide) rfl ?_
    refine V.aload_n dX11_newSort_22 3 rfl ?_
    refine V.getf 0 15 rfl fa_X11_82_10 rfl dX11_newSort_23 ?_
    refine V.if_ne (tgt := 47) dX11_newSort_26 (by decide) (fun _ => ?_) (fun hc => absurd hc (by decide))
    exact V.vret rfl dX11_newSort_47 (⟨(Ti, Re, z1, 0, 0, (nI (dgE F n t)), (nI (frT F n t)), 1), rfl, rfl, rfl, ns_sort_0 hb3, fun h9 => absurd (show (1 : Int32) = 0 from h9) (by decide), fun _ => ⟨rfl, rfl⟩⟩)
  · skip
    have e3 : badW F n t 0 3 = 0 := if_pos hb3
    obtain ⟨ez3, et3⟩ := hq_3 hb3
    rw [e3, ← et3]
    refine V.view (vw2 := [(o, ob 10 [.ref mw, .ref mk, .ref mt, .ref mr, .ref mki, .ref mso, .ref mst, .ref mpr, .ref msh, .ref mwa, .ref mpu, .ref mtx, .int (nI n), .int (nI (teT F n t)), .int (nI (frT F n t)), .int 0, .int cl, .int um, .ref mor, .ref mbo, .int mn, .ref tO, .ref tVi, .ref tSm, .int tm]), (mtx, aI E 160 MT), (mt, aI E 8 Ti), (mr, aI E 8 Re)]) (L2 := L) rfl rfl ?_
    refine V.istore_n (lv2 := [(1, .int z1), (0, .ref o)]) dX11_newSort_6 rfl (by decide) rfl ?_
    refine V.aload_n dX11_newSort_7 1 rfl ?_
    refine V.iconst (v := 0) dX11_newSort_8 (by decide) ?_
    refine V.bipush (v := 9) dX11_newSort_9 (by decide) ?_
    refine V.callVp (As := [.int 0, .int 9]) (rest := []) [0, 1] (c_M_take E l L _ o mw mk mt mr mki mso mst mpr msh mwa mpu mtx mor mbo tO tVi tSm ((nI (frT F n t))) cl um mn tm n MT F ((teT F n t)) 0 9 (teT_le ht) (hn) (hT) (by omega)) rfl (by decide) mi_X11_take 0 rfl rfl w_832 w_834 wp_14 rfl rfl (Nat.le_of_ble_eq_true rfl) ⟨by decide, by decide⟩ ⟨by decide, by decide⟩ dX11_newSort_11 (vw2 := fun z2 => [(o, ob 10 [.ref mw, .ref mk, .ref mt, .ref mr, .ref mki, .ref mso, .ref mst, .ref mpr, .ref msh, .ref mwa, .ref mpu, .ref mtx, .int (nI n), .int (nI (dgE F n (teT F n t))), .int (nI (frT F n (teT F n t))), .int (badW F n (teT F n t) 0 9), .int cl, .int um, .ref mor, .ref mbo, .int mn, .ref tO, .ref tVi, .ref tSm, .int tm]), (mtx, aI E 160 MT), (mt, aI E 8 Ti), (mr, aI E 8 Re)]) (st2 := fun z2 => [.int z2]) (fun _ => rfl) (fun _ => rfl) (fun _ => rfl) (fun z2 hq_11 => ?_)
    rcases withinI_01 (numT F n (teT F n t)) (nI 0) 9 with hb11 | hb11
    · skip
      have e11 : badW F n (teT F n t) 0 9 = 1 := if_neg (by rw [show withinI (numW F (frT F n (teT F n t)) (teT F n (teT F n t))) (nI 0) 9 = 0 from hb11]; decide)
      rw [e11]
      refine V.view (vw2 := [(o, ob 10 [.ref mw, .ref mk, .ref mt, .ref mr, .ref mki, .ref mso, .ref mst, .ref mpr, .ref msh, .ref mwa, .ref mpu, .ref mtx, .int (nI n), .int (nI (dgE F n (teT F n t))), .int (nI (frT F n (teT F n t))), .int 1, .int cl, .int um, .ref mor, .ref mbo, .int mn, .ref tO, .ref tVi, .ref tSm, .int tm]), (mtx, aI E 160 MT), (mt, aI E 8 Ti), (mr, aI E 8 Re)]) (L2 := L) rfl rfl ?_
      refine V.istore_n (lv2 := [(2, .int z2), (1, .int z1), (0, .ref o)]) dX11_newSort_14 rfl (by decide) rfl ?_
      refine V.aload_n dX11_newSort_15 2 rfl ?_
      refine V.iconst (v := 0) dX11_newSort_16 (by decide) ?_
      refine V.iconst (v := 5) dX11_newSort_17 (by decide) ?_
      refine V.callVp (As := [.int 0, .int 5]) (rest := []) [0] (c_M_takeW E l L _ o mw mk mt mr mki mso mst mpr msh mwa mpu mtx mor mbo tO tVi tSm ((nI n)) ((nI (dgE F n (teT F n t)))) ((nI (frT F n (teT F n t)))) cl um mn tm 0 5) rfl (by decide) mi_X11_take 0 rfl rfl w_832 w_834 wp_14 rfl rfl (Nat.le_of_ble_eq_true rfl) ⟨by decide, by decide⟩ ⟨by decide, by decide⟩ dX11_newSort_18 (vw2 := fun _ => [(o, ob 10 [.ref mw, .ref mk, .ref mt, .ref mr, .ref mki, .ref mso, .ref mst, .ref mpr, .ref msh, .ref mwa, .ref mpu, .ref mtx, .int (nI n), .int (nI (dgE F n (teT F n t))), .int (nI (frT F n (teT F n t))), .int 1, .int cl, .int um, .ref mor, .ref mbo, .int mn, .ref tO, .ref tVi, .ref tSm, .int tm]), (mtx, aI E 160 MT), (mt, aI E 8 Ti), (mr, aI E 8 Re)]) (st2 := fun _ => [.int 0]) (fun _ => rfl) (fun _ => rfl) (fun _ => rfl) (fun _ _ => ?_)
      refine V.istore_n (lv2 := [(3, .int 0), (2, .int z2), (1, .int z1), (0, .ref o)]) dX11_newSort_21 rfl (by decide) rfl ?_
      refine V.aload_n dX11_newSort_22 3 rfl ?_
      refine V.getf 0 15 rfl fa_X11_82_10 rfl dX11_newSort_23 ?_
      refine V.if_ne (tgt := 47) dX11_newSort_26 (by decide) (fun _ => ?_) (fun hc => absurd hc (by decide))
      exact V.vret rfl dX11_newSort_47 (⟨(Ti, Re, z1, z2, 0, (nI (dgE F n (teT F n t))), (nI (frT F n (teT F n t))), 1), rfl, rfl, rfl, ns_sort_1 hb3 hb11, fun h9 => absurd (show (1 : Int32) = 0 from h9) (by decide), fun _ => ⟨rfl, rfl⟩⟩)
    · skip
      have e11 : badW F n (teT F n t) 0 9 = 0 := if_pos hb11
      obtain ⟨ez11, et11⟩ := hq_11 hb11
      rw [e11, ← et11]
      refine V.view (vw2 := [(o, ob 10 [.ref mw, .ref mk, .ref mt, .ref mr, .ref mki, .ref mso, .ref mst, .ref mpr, .ref msh, .ref mwa, .ref mpu, .ref mtx, .int (nI n), .int (nI (teT F n (teT F n t))), .int (nI (frT F n (teT F n t))), .int 0, .int cl, .int um, .ref mor, .ref mbo, .int mn, .ref tO, .ref tVi, .ref tSm, .int tm]), (mtx, aI E 160 MT), (mt, aI E 8 Ti), (mr, aI E 8 Re)]) (L2 := L) rfl rfl ?_
      refine V.istore_n (lv2 := [(2, .int z2), (1, .int z1), (0, .ref o)]) dX11_newSort_14 rfl (by decide) rfl ?_
      refine V.aload_n dX11_newSort_15 2 rfl ?_
      refine V.iconst (v := 0) dX11_newSort_16 (by decide) ?_
      refine V.iconst (v := 5) dX11_newSort_17 (by decide) ?_
      refine V.callVp (As := [.int 0, .int 5]) (rest := []) [0, 1] (c_M_take E l L _ o mw mk mt mr mki mso mst mpr msh mwa mpu mtx mor mbo tO tVi tSm ((nI (frT F n (teT F n t)))) cl um mn tm n MT F ((teT F n (teT F n t))) 0 5 (teT_le (teT_le ht)) (hn) (hT) (by omega)) rfl (by decide) mi_X11_take 0 rfl rfl w_832 w_834 wp_14 rfl rfl (Nat.le_of_ble_eq_true rfl) ⟨by decide, by decide⟩ ⟨by decide, by decide⟩ dX11_newSort_18 (vw2 := fun z3 => [(o, ob 10 [.ref mw, .ref mk, .ref mt, .ref mr, .ref mki, .ref mso, .ref mst, .ref mpr, .ref msh, .ref mwa, .ref mpu, .ref mtx, .int (nI n), .int (nI (dgE F n (teT F n (teT F n t)))), .int (nI (frT F n (teT F n (teT F n t)))), .int (badW F n (teT F n (teT F n t)) 0 5), .int cl, .int um, .ref mor, .ref mbo, .int mn, .ref tO, .ref tVi, .ref tSm, .int tm]), (mtx, aI E 160 MT), (mt, aI E 8 Ti), (mr, aI E 8 Re)]) (st2 := fun z3 => [.int z3]) (fun _ => rfl) (fun _ => rfl) (fun _ => rfl) (fun z3 hq_18 => ?_)
      rcases withinI_01 (numT F n (teT F n (teT F n t))) (nI 0) 5 with hb18 | hb18
      · skip
        have e18 : badW F n (teT F n (teT F n t)) 0 5 = 1 := if_neg (by rw [show withinI (numW F (frT F n (teT F n (teT F n t))) (teT F n (teT F n (teT F n t)))) (nI 0) 5 = 0 from hb18]; decide)
        rw [e18]
        refine V.view (vw2 := [(o, ob 10 [.ref mw, .ref mk, .ref mt, .ref mr, .ref mki, .ref mso, .ref mst, .ref mpr, .ref msh, .ref mwa, .ref mpu, .ref mtx, .int (nI n), .int (nI (dgE F n (teT F n (teT F n t)))), .int (nI (frT F n (teT F n (teT F n t)))), .int 1, .int cl, .int um, .ref mor, .ref mbo, .int mn, .ref tO, .ref tVi, .ref tSm, .int tm]), (mtx, aI E 160 MT), (mt, aI E 8 Ti), (mr, aI E 8 Re)]) (L2 := L) rfl rfl ?_
        refine V.istore_n (lv2 := [(3, .int z3), (2, .int z2), (1, .int z1), (0, .ref o)]) dX11_newSort_21 rfl (by decide) rfl ?_
        refine V.aload_n dX11_newSort_22 3 rfl ?_
        refine V.getf 0 15 rfl fa_X11_82_10 rfl dX11_newSort_23 ?_
        refine V.if_ne (tgt := 47) dX11_newSort_26 (by decide) (fun _ => ?_) (fun hc => absurd hc (by decide))
        exact V.vret rfl dX11_newSort_47 (⟨(Ti, Re, z1, z2, z3, (nI (dgE F n (teT F n (teT F n t)))), (nI (frT F n (teT F n (teT F n t)))), 1), rfl, rfl, rfl, ns_sort_2 hb3 hb11 hb18, fun h9 => absurd (show (1 : Int32) = 0 from h9) (by decide), fun _ => ⟨rfl, rfl⟩⟩)
      · skip
        have e18 : badW F n (teT F n (teT F n t)) 0 5 = 0 := if_pos hb18
        obtain ⟨ez18, et18⟩ := hq_18 hb18
        rw [e18, ← et18]
        refine V.view (vw2 := [(o, ob 10 [.ref mw, .ref mk, .ref mt, .ref mr, .ref mki, .ref mso, .ref mst, .ref mpr, .ref msh, .ref mwa, .ref mpu, .ref mtx, .int (nI n), .int (nI (teT F n (teT F n (teT F n t)))), .int (nI (frT F n (teT F n (teT F n t)))), .int 0, .int cl, .int um, .ref mor, .ref mbo, .int mn, .ref tO, .ref tVi, .ref tSm, .int tm]), (mtx, aI E 160 MT), (mt, aI E 8 Ti), (mr, aI E 8 Re)]) (L2 := L) rfl rfl ?_
        refine V.istore_n (lv2 := [(3, .int z3), (2, .int z2), (1, .int z1), (0, .ref o)]) dX11_newSort_21 rfl (by decide) rfl ?_
        refine V.aload_n dX11_newSort_22 3 rfl ?_
        refine V.getf 0 15 rfl fa_X11_82_10 rfl dX11_newSort_23 ?_
        refine V.if_ne (tgt := 47) dX11_newSort_26 (by decide) (fun hc => absurd (by decide) hc) (fun _ => ?_)
        obtain ⟨so, hso, eso⟩ := so_of (show withinI z1 0 3 = 1 by rw [ez3]; exact hb3)
        refine V.aload_n dX11_newSort_29 3 rfl ?_
        refine V.getf 0 2 rfl fa_X11_17_10 rfl dX11_newSort_30 ?_
        refine V.iconst (v := 4) dX11_newSort_33 (by decide) ?_
        refine V.iload_n dX11_newSort_34 2 rfl ?_
        refine V.iadd dX11_newSort_35 ?_
        refine V.topc (v := (nI (4 + so))) (by rw [eso]; exact nI_add 4 so) ?_
        refine V.iload_n dX11_newSort_36 1 rfl ?_
        refine V.iast (vw2 := [(o, ob 10 [.ref mw, .ref mk, .ref mt, .ref mr, .ref mki, .ref mso, .ref mst, .ref mpr, .ref msh, .ref mwa, .ref mpu, .ref mtx, .int (nI n), .int (nI (teT F n (teT F n (teT F n t)))), .int (nI (frT F n (teT F n (teT F n t)))), .int 0, .int cl, .int um, .ref mor, .ref mbo, .int mn, .ref tO, .ref tVi, .ref tSm, .int tm]), (mtx, aI E 160 MT), (mt, aI E 8 (upd Ti (4 + so) z2)), (mr, aI E 8 Re)]) 2 rfl (vinI (by omega)) (by rw [nI_clamp (by omega)] <;> rfl) dX11_newSort_37 ?_
        refine V.aload_n dX11_newSort_38 3 rfl ?_
        refine V.getf 0 3 rfl fa_X11_20_10 rfl dX11_newSort_39 ?_
        refine V.iconst (v := 4) dX11_newSort_42 (by decide) ?_
        refine V.iload_n dX11_newSort_43 2 rfl ?_
        refine V.iadd dX11_newSort_44 ?_
        refine V.topc (v := (nI (4 + so))) (by rw [eso]; exact nI_add 4 so) ?_
        refine V.iload_n dX11_newSort_45 0 rfl ?_
        refine V.iast (vw2 := [(o, ob 10 [.ref mw, .ref mk, .ref mt, .ref mr, .ref mki, .ref mso, .ref mst, .ref mpr, .ref msh, .ref mwa, .ref mpu, .ref mtx, .int (nI n), .int (nI (teT F n (teT F n (teT F n t)))), .int (nI (frT F n (teT F n (teT F n t)))), .int 0, .int cl, .int um, .ref mor, .ref mbo, .int mn, .ref tO, .ref tVi, .ref tSm, .int tm]), (mtx, aI E 160 MT), (mt, aI E 8 (upd Ti (4 + so) z2)), (mr, aI E 8 (upd Re (4 + so) z3))]) 3 rfl (vinI (by omega)) (by rw [nI_clamp (by omega)] <;> rfl) dX11_newSort_46 ?_
        exact V.vret rfl dX11_newSort_47 (⟨((upd Ti (4 + so) z2), (upd Re (4 + so) z3), z1, z2, z3, (nI (teT F n (teT F n (teT F n t)))), (nI (frT F n (teT F n (teT F n t)))), 0), rfl, rfl, rfl, (by rw [ez3, ez11, ez18]; exact ns_sort_3 hb3 hb11 hb18), fun _ => ⟨so, hso, eso, rfl, rfl⟩, fun h9 => absurd (show (0 : Int32) = 1 from h9) (by decide)⟩)
