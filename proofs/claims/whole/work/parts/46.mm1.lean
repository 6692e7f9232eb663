set_option maxHeartbeats 4000000 in
set_option maxRecDepth 100000 in
theorem c_M_in (E : vEnv) (l : Launch) (L : List Nat) (h : Nat → va_E) (x : Int32) (a : Int32) (b : Int32) : CT E l yX11_in cX11_in 6 (some (.boolean)) 0 0 0 L h [] [.long (Int32.toInt64 x), .long (Int32.toInt64 a), .long (Int32.toInt64 b)] (qP L h (fun (_ : Unit) => []) (fun _ => some (.int (withinI x a b))) (fun _ => True)) := by
  refine CT.ofV (by decide +kernel) (Nat.le_of_ble_eq_true rfl) ?_
  refine V.locals2 (lv2 := [(0, .long (Int32.toInt64 x)), (2, .long (Int32.toInt64 a)), (4, .long (Int32.toInt64 b))]) rfl ?_
  refine V.lload_n dX11_in_0 0 rfl ?_
  refine V.lload_n dX11_in_1 1 rfl ?_
  refine V.lcmp dX11_in_2 ?_
  refine V.if_lt (tgt := 17) dX11_in_3 (by decide) (fun c1_3 => ?_) (fun c1_3 => ?_)
  · skip
    have g1 : x < a := lgc_lt.mp c1_3
    refine V.iconst (v := 0) dX11_in_17 (by decide) ?_
    exact V.zret rfl (rfl) dX11_in_18 (⟨(), by first | rw [within1 g1 g2] | rw [within0a g1] | rw [within0b g2], rfl, rfl, trivial⟩)
  · skip
    have g1 : ¬ x < a := fun hh => c1_3 (lgc_lt.mpr hh)
    refine V.lload_n dX11_in_6 0 rfl ?_
    refine V.lload dX11_in_7 2 rfl ?_
    refine V.lcmp dX11_in_9 ?_
    refine V.if_gt (tgt := 17) dX11_in_10 (by decide) (fun c2_10 => ?_) (fun c2_10 => ?_)
    · skip
      have g2 : b < x := lgc_gt.mp c2_10
      refine V.iconst (v := 0) dX11_in_17 (by decide) ?_
      exact V.zret rfl (rfl) dX11_in_18 (⟨(), by first | rw [within1 g1 g2] | rw [within0a g1] | rw [within0b g2], rfl, rfl, trivial⟩)
    · skip
      have g2 : ¬ b < x := fun hh => c2_10 (lgc_gt.mpr hh)
      refine V.iconst (v := 1) dX11_in_13 (by decide) ?_
      refine V.goto (tgt := 18) dX11_in_14 (by decide) ?_
      exact V.zret rfl (rfl) dX11_in_18 (⟨(), by first | rw [within1 g1 g2] | rw [within0a g1] | rw [within0b g2], rfl, rfl, trivial⟩)

set_option maxHeartbeats 4000000 in
set_option maxRecDepth 100000 in
theorem c_M_one (E : vEnv) (l : Launch) (L : List Nat) (h : Nat → va_E) (x : Int32) : CT E l yX11_one cX11_one 1 (some (.int)) 0 0 0 L h [] [.int x] (qP L h (fun (_ : Unit) => []) (fun _ => some (.int (if x = 0 then 0 else 1))) (fun _ => True)) := by
  refine CT.ofV (by decide +kernel) (Nat.le_of_ble_eq_true rfl) ?_
  refine V.locals2 (lv2 := [(0, .int x)]) rfl ?_
  refine V.iload_n dX11_one_0 0 rfl ?_
  refine V.if_eq (tgt := 8) dX11_one_1 (by decide) (fun c1_1 => ?_) (fun c1_1 => ?_)
  · skip
    refine V.iconst (v := 0) dX11_one_8 (by decide) ?_
    exact V.iret rfl dX11_one_9 (⟨(), by rw [if_pos c1_1], rfl, rfl, trivial⟩)
  · skip
    refine V.iconst (v := 1) dX11_one_4 (by decide) ?_
    refine V.goto (tgt := 9) dX11_one_5 (by decide) ?_
    exact V.iret rfl dX11_one_9 (⟨(), by rw [if_neg c1_1], rfl, rfl, trivial⟩)

set_option maxHeartbeats 4000000 in
set_option maxRecDepth 100000 in
theorem c_M_has (E : vEnv) (l : Launch) (L : List Nat) (h : Nat → va_E) (x : Int32) (k : Nat) : CT E l yX11_has cX11_has 2 (some (.boolean)) 0 0 0 L h [] [.int x, .int (nI k)] (qP L h (fun (_ : Unit) => []) (fun _ => some (.int (boolI (hasI x k)))) (fun _ => True)) := by
  refine CT.ofV (by decide +kernel) (Nat.le_of_ble_eq_true rfl) ?_
  refine V.locals2 (lv2 := [(0, .int x), (1, .int (nI k))]) rfl ?_
  refine V.iload_n dX11_has_0 0 rfl ?_
  refine V.iload_n dX11_has_1 1 rfl ?_
  refine V.ishr dX11_has_2 ?_
  refine V.iconst (v := 1) dX11_has_3 (by decide) ?_
  refine V.iand dX11_has_4 ?_
  refine V.iconst (v := 1) dX11_has_5 (by decide) ?_
  refine V.icmp_ne (tgt := 13) dX11_has_6 (by decide) (fun c1_6 => ?_) (fun c1_6 => ?_)
  · skip
    refine V.iconst (v := 0) dX11_has_13 (by decide) ?_
    exact V.zret rfl (rfl) dX11_has_14 (⟨(), by rw [boolI_f (p := hasI x k) c1_6], rfl, rfl, trivial⟩)
  · skip
    refine V.iconst (v := 1) dX11_has_9 (by decide) ?_
    refine V.goto (tgt := 14) dX11_has_10 (by decide) ?_
    exact V.zret rfl (rfl) dX11_has_14 (⟨(), by rw [boolI_t (p := hasI x k) c1_6], rfl, rfl, trivial⟩)

set_option maxHeartbeats 4000000 in
set_option maxRecDepth 100000 in
theorem c_M_gcd (E : vEnv) (l : Launch) (L : List Nat) (h : Nat → va_E) (b1 : Nat) (b2 : Nat) (h1 : b1 < 2 ^ 30) (h2 : b2 < 2 ^ 30) : CT E l yX11_common cX11_common 5 (some (.int)) 0 0 0 L h [] [.int (nI b1), .int (nI b2)] (qP L h (fun (_ : Unit) => []) (fun _ => some (.int (nI (Nat.gcd b1 b2)))) (fun _ => True)) := by
  refine CT.ofV (by decide +kernel) (Nat.le_of_ble_eq_true rfl) ?_
  obtain ⟨Z, hZ⟩ : ∃ Z, Z = mZ E (qP L h (fun (_ : Unit) => []) (fun _ => some (.int (nI (Nat.gcd b1 b2)))) (fun _ => True)) 0 0 := ⟨_, rfl⟩
  rw [← hZ]
  refine V.locals2 (lv2 := [(0, .int (nI b1)), (1, .int (nI b2))]) rfl ?_
  refine V.iload_n dX11_common_0 0 rfl ?_
  refine V.istore_n (lv2 := [(2, .int (nI b1)), (0, .int (nI b1)), (1, .int (nI b2))]) dX11_common_1 rfl (by decide) rfl ?_
  refine V.iload_n dX11_common_2 2 rfl ?_
  refine V.istore_n (lv2 := [(3, .int (nI b2)), (2, .int (nI b1)), (0, .int (nI b1)), (1, .int (nI b2))]) dX11_common_3 rfl (by decide) rfl ?_
  refine V.locals [1, 0] (by rfl) ?_
  have lp_4 : ∀ (fuel : Nat) (x : Nat) (z : Nat) (hx : x < 2 ^ 30) (hz2 : z < 2 ^ 30) (hg : Nat.gcd x z = Nat.gcd b1 b2) (hf : z < fuel), V E l yX11_common cX11_common 5 (some (.int)) (rmk 0 0 0) Z L h 0 0 [] 4 [(2, .int (nI x)), (3, .int (nI z))] [] := by
    intro fuel
    induction fuel with
    | zero =>
      intro x z hx hz2 hg hf
      exfalso; omega
    | succ fuel ih_4 =>
      intro x z hx hz2 hg hf
      refine V.iload_n dX11_common_4 1 rfl ?_
      refine V.if_le (tgt := 21) dX11_common_5 (by decide) (fun c1_5 => ?_) (fun c1_5 => ?_)
      · skip
        have hz0 : z = 0 := by have h9 := (nI_leI (b := 0) (by omega) (by omega)).mp c1_5; omega
        refine V.iload_n dX11_common_21 0 rfl ?_
        subst hZ
        exact V.iret rfl dX11_common_22 (⟨(), by subst hz0; rw [← hg, Nat.gcd_zero_right], rfl, rfl, trivial⟩)
      · skip
        have hz1 : 0 < z := Nat.pos_of_ne_zero (fun hh => c1_5 (by rw [hh]; exact Int32.le_refl _))
        have hml := Nat.mod_lt x hz1
        refine V.iload_n dX11_common_8 0 rfl ?_
        refine V.iload_n dX11_common_9 1 rfl ?_
        refine V.irem dX11_common_10 (fun hh => absurd ((nI_eq (b := 0) (by omega) (by omega)).mp hh) (by omega)) ?_
        refine V.topc (v := (nI (x % z))) (pk_rem (by omega) (by omega) (by omega)) ?_
        refine V.istore (lv2 := [(4, .int (nI (x % z))), (2, .int (nI x)), (3, .int (nI z))]) dX11_common_11 (by decide) rfl ?_
        refine V.iload_n dX11_common_13 2 rfl ?_
        refine V.istore_n (lv2 := [(2, .int (nI z)), (4, .int (nI (x % z))), (3, .int (nI z))]) dX11_common_14 rfl (by decide) rfl ?_
        refine V.iload dX11_common_15 1 rfl ?_
        refine V.istore_n (lv2 := [(3, .int (nI (x % z))), (2, .int (nI z)), (4, .int (nI (x % z)))]) dX11_common_17 rfl (by decide) rfl ?_
        refine V.goto (tgt := 4) dX11_common_18 (by decide) ?_
        refine V.locals [1, 0] (by rfl) ?_
        exact ih_4 z (x % z) (by omega) (by omega) (gcd_step.trans hg) (by omega)
  exact lp_4 (b2 + 1) b1 b2 h1 h2 rfl (by omega)

set_option maxHeartbeats 4000000 in
set_option maxRecDepth 100000 in
theorem c_M_asAtFirst_0 (E : vEnv) (l : Launch) (L : List Nat) (h : Nat → va_E) (o : Nat) (mw : Nat) (mk : Nat) (mt : Nat) (mr : Nat) (mki : Nat) (mso : Nat) (mst : Nat) (mpr : Nat) (msh : Nat) (mwa : Nat) (mpu : Nat) (mtx : Nat) (mor : Nat) (mbo : Nat) (tO : Nat) (tVi : Nat) (tSm : Nat) (ts : Int32) (ma : Int32) (bg : Int32) (wr : Int32) (cl : Int32) (um : Int32) (mn : Int32) (tm : Int32) (Ti : Nat → Int32) (Re : Nat → Int32) (Sh : Nat → Int32) (Wa : Nat → Int32) (Pu : Nat → Int32) : CT E l yX11_asAtFirst cX11_asAtFirst 3 none 0 0 0 L h [(o, ob 10 [.ref mw, .ref mk, .ref mt, .ref mr, .ref mki, .ref mso, .ref mst, .ref mpr, .ref msh, .ref mwa, .ref mpu, .ref mtx, .int ts, .int ma, .int bg, .int wr, .int cl, .int um, .ref mor, .ref mbo, .int mn, .ref tO, .ref tVi, .ref tSm, .int tm]), (mt, aI E 8 Ti), (mr, aI E 8 Re), (msh, aI E 2 Sh), (mwa, aI E 2 Wa), (mpu, aI E 2 Pu)] [.ref o, .int 0] (qP L h (fun (_ : Unit) => [(o, ob 10 [.ref mw, .ref mk, .ref mt, .ref mr, .ref mki, .ref mso, .ref mst, .ref mpr, .ref msh, .ref mwa, .ref mpu, .ref mtx, .int ts, .int ma, .int bg, .int wr, .int cl, .int um, .ref mor, .ref mbo, .int mn, .ref tO, .ref tVi, .ref tSm, .int tm]), (mt, aI E 8 (putH 4 Ti 0 (fun _ => 4))), (mr, aI E 8 (putH 4 Re 0 (fun _ => 1))), (msh, aI E 2 (upd Sh 0 0)), (mwa, aI E 2 (upd Wa 0 10)), (mpu, aI E 2 (upd Pu 0 60))]) (fun _ => none) (fun _ => True)) := by
  refine CT.ofV (by decide +kernel) (Nat.le_of_ble_eq_true rfl) ?_
  refine V.locals2 (lv2 := [(0, .ref o), (1, .int 0)]) rfl ?_
  refine V.iconst (v := 0) dX11_asAtFirst_0 (by decide) ?_
  refine V.istore_n (lv2 := [(2, .int 0), (0, .ref o), (1, .int 0)]) dX11_asAtFirst_1 rfl (by decide) rfl ?_
  refine V.iload_n dX11_asAtFirst_2 0 rfl ?_
  refine V.iconst (v := 4) dX11_asAtFirst_3 (by decide) ?_
  refine V.icmp_ge (tgt := 35) dX11_asAtFirst_4 (by decide) (fun hc => absurd hc (by decide)) (fun _ => ?_)
  refine V.aload_n dX11_asAtFirst_7 1 rfl ?_
  refine V.getf 0 2 rfl fa_X11_17_10 rfl dX11_asAtFirst_8 ?_
  refine V.iconst (v := 4) dX11_asAtFirst_11 (by decide) ?_
  refine V.iload_n dX11_asAtFirst_12 2 rfl ?_
  refine V.imul dX11_asAtFirst_13 ?_
  refine V.topc (v := 0) (by decide) ?_
  refine V.iload_n dX11_asAtFirst_14 0 rfl ?_
  refine V.iadd dX11_asAtFirst_15 ?_
  refine V.topc (v := 0) (by decide) ?_
  refine V.iconst (v := 4) dX11_asAtFirst_16 (by decide) ?_
  refine V.iast (vw2 := [(o, ob 10 [.ref mw, .ref mk, .ref mt, .ref mr, .ref mki, .ref mso, .ref mst, .ref mpr, .ref msh, .ref mwa, .ref mpu, .ref mtx, .int ts, .int ma, .int bg, .int wr, .int cl, .int um, .ref mor, .ref mbo, .int mn, .ref tO, .ref tVi, .ref tSm, .int tm]), (mt, aI E 8 (upd Ti 0 4)), (mr, aI E 8 Re), (msh, aI E 2 Sh), (mwa, aI E 2 Wa), (mpu, aI E 2 Pu)]) 1 rfl (vin rfl) (rfl) dX11_asAtFirst_17 ?_
  refine V.aload_n dX11_asAtFirst_18 1 rfl ?_
  refine V.getf 0 3 rfl fa_X11_20_10 rfl dX11_asAtFirst_19 ?_
  refine V.iconst (v := 4) dX11_asAtFirst_22 (by decide) ?_
  refine V.iload_n dX11_asAtFirst_23 2 rfl ?_
  refine V.imul dX11_asAtFirst_24 ?_
  refine V.topc (v := 0) (by decide) ?_
  refine V.iload_n dX11_asAtFirst_25 0 rfl ?_
  refine V.iadd dX11_asAtFirst_26 ?_
  refine V.topc (v := 0) (by decide) ?_
  refine V.iconst (v := 1) dX11_asAtFirst_27 (by decide) ?_
  refine V.iast (vw2 := [(o, ob 10 [.ref mw, .ref mk, .ref mt, .ref mr, .ref mki, .ref mso, .ref mst, .ref mpr, .ref msh, .ref mwa, .ref mpu, .ref mtx, .int ts, .int ma, .int bg, .int wr, .int cl, .int um, .ref mor, .ref mbo, .int mn, .ref tO, .ref tVi, .ref tSm, .int tm]), (mt, aI E 8 (upd Ti 0 4)), (mr, aI E 8 (upd Re 0 1)), (msh, aI E 2 Sh), (mwa, aI E 2 Wa), (mpu, aI E 2 Pu)]) 2 rfl (vin rfl) (rfl) dX11_asAtFirst_28 ?_
  refine V.iinc (v := 1) (lv2 := [(2, .int 1), (0, .ref o), (1, .int 0)]) dX11_asAtFirst_29 0 rfl (by decide) (by decide) rfl ?_
  refine V.goto (tgt := 2) dX11_asAtFirst_32 (by decide) ?_
  refine V.iload_n dX11_asAtFirst_2 0 rfl ?_
  refine V.iconst (v := 4) dX11_asAtFirst_3 (by decide) ?_
  refine V.icmp_ge (tgt := 35) dX11_asAtFirst_4 (by decide) (fun hc => absurd hc (by decide)) (fun _ => ?_)
  refine V.aload_n dX11_asAtFirst_7 1 rfl ?_
  refine V.getf 0 2 rfl fa_X11_17_10 rfl dX11_asAtFirst_8 ?_
  refine V.iconst (v := 4) dX11_asAtFirst_11 (by decide) ?_
  refine V.iload_n dX11_asAtFirst_12 2 rfl ?_
  refine V.imul dX11_asAtFirst_13 ?_
  refine V.topc (v := 0) (by decide) ?_
  refine V.iload_n dX11_asAtFirst_14 0 rfl ?_
  refine V.iadd dX11_asAtFirst_15 ?_
  refine V.topc (v := 1) (by decide) ?_
  refine V.iconst (v := 4) dX11_asAtFirst_16 (by decide) ?_
  refine V.iast (vw2 := [(o, ob 10 [.ref mw, .ref mk, .ref mt, .ref mr, .ref mki, .ref mso, .ref mst, .ref mpr, .ref msh, .ref mwa, .ref mpu, .ref mtx, .int ts, .int ma, .int bg, .int wr, .int cl, .int um, .ref mor, .ref mbo, .int mn, .ref tO, .ref tVi, .ref tSm, .int tm]), (mt, aI E 8 (upd (upd Ti 0 4) 1 4)), (mr, aI E 8 (upd Re 0 1)), (msh, aI E 2 Sh), (mwa, aI E 2 Wa), (mpu, aI E 2 Pu)]) 1 rfl (vin rfl) (rfl) dX11_asAtFirst_17 ?_
  refine V.aload_n dX11_asAtFirst_18 1 rfl ?_
  refine V.getf 0 3 rfl fa_X11_20_10 rfl dX11_asAtFirst_19 ?_
  refine V.iconst (v := 4) dX11_asAtFirst_22 (by decide) ?_
  refine V.iload_n dX11_asAtFirst_23 2 rfl ?_
  refine V.imul dX11_asAtFirst_24 ?_
  refine V.topc (v := 0) (by decide) ?_
  refine V.iload_n dX11_asAtFirst_25 0 rfl ?_
  refine V.iadd dX11_asAtFirst_26 ?_
  refine V.topc (v := 1) (by decide) ?_
  refine V.iconst (v := 1) dX11_asAtFirst_27 (by decide) ?_
  refine V.iast (vw2 := [(o, ob 10 [.ref mw, .ref mk, .ref mt, .ref mr, .ref mki, .ref mso, .ref mst, .ref mpr, .ref msh, .ref mwa, .ref mpu, .ref mtx, .int ts, .int ma, .int bg, .int wr, .int cl, .int um, .ref mor, .ref mbo, .int mn, .ref tO, .ref tVi, .ref tSm, .int tm]), (mt, aI E 8 (upd (upd Ti 0 4) 1 4)), (mr, aI E 8 (upd (upd Re 0 1) 1 1)), (msh, aI E 2 Sh), (mwa, aI E 2 Wa), (mpu, aI E 2 Pu)]) 2 rfl (vin rfl) (rfl) dX11_asAtFirst_28 ?_
  refine V.iinc (v := 2) (lv2 := [(2, .int 2), (0, .ref o), (1, .int 0)]) dX11_asAtFirst_29 0 rfl (by decide) (by decide) rfl ?_
  refine V.goto (tgt := 2) dX11_asAtFirst_32 (by decide) ?_
  refine V.iload_n dX11_asAtFirst_2 0 rfl ?_
  refine V.iconst (v := 4) dX11_asAtFirst_3 (by decide) ?_
  refine V.icmp_ge (tgt := 35) dX11_asAtFirst_4 (by decide) (fun hc => absurd hc (by decide)) (fun _ => ?_)
  refine V.aload_n dX11_asAtFirst_7 1 rfl ?_
  refine V.getf 0 2 rfl fa_X11_17_10 rfl dX11_asAtFirst_8 ?_
  refine V.iconst (v := 4) dX11_asAtFirst_11 (by decide) ?_
  refine V.iload_n dX11_asAtFirst_12 2 rfl ?_
  refine V.imul dX11_asAtFirst_13 ?_
  refine V.topc (v := 0) (by decide) ?_
  refine V.iload_n dX11_asAtFirst_14 0 rfl ?_
  refine V.iadd dX11_asAtFirst_15 ?_
  refine V.topc (v := 2) (by decide) ?_
  refine V.iconst (v := 4) dX11_asAtFirst_16 (by decide) ?_
  refine V.iast (vw2 := [(o, ob 10 [.ref mw, .ref mk, .ref mt, .ref mr, .ref mki, .ref mso, .ref mst, .ref mpr, .ref msh, .ref mwa, .ref mpu, .ref mtx, .int ts, .int ma, .int bg, .int wr, .int cl, .int um, .ref mor, .ref mbo, .int mn, .ref tO, .ref tVi, .ref tSm, .int tm]), (mt, aI E 8 (upd (upd (upd Ti 0 4) 1 4) 2 4)), (mr, aI E 8 (upd (upd Re 0 1) 1 1)), (msh, aI E 2 Sh), (mwa, aI E 2 Wa), (mpu, aI E 2 Pu)]) 1 rfl (vin rfl) (rfl) dX11_asAtFirst_17 ?_
  refine V.aload_n dX11_asAtFirst_18 1 rfl ?_
  refine V.getf 0 3 rfl fa_X11_20_10 rfl dX11_asAtFirst_19 ?_
  refine V.iconst (v := 4) dX11_asAtFirst_22 (by decide) ?_
  refine V.iload_n dX11_asAtFirst_23 2 rfl ?_
  refine V.imul dX11_asAtFirst_24 ?_
  refine V.topc (v := 0) (by decide) ?_
  refine V.iload_n dX11_asAtFirst_25 0 rfl ?_
  refine V.iadd dX11_asAtFirst_26 ?_
  refine V.topc (v := 2) (by decide) ?_
  refine V.iconst (v := 1) dX11_asAtFirst_27 (by decide) ?_
  refine V.iast (vw2 := [(o, ob 10 [.ref mw, .ref mk, .ref mt, .ref mr, .ref mki, .ref mso, .ref mst, .ref mpr, .ref msh, .ref mwa, .ref mpu, .ref mtx, .int ts, .int ma, .int bg, .int wr, .int cl, .int um, .ref mor, .ref mbo, .int mn, .ref tO, .ref tVi, .ref tSm, .int tm]), (mt, aI E 8 (upd (upd (upd Ti 0 4) 1 4) 2 4)), (mr, aI E 8 (upd (upd (upd Re 0 1) 1 1) 2 1)), (msh, aI E 2 Sh), (mwa, aI E 2 Wa), (mpu, aI E 2 Pu)]) 2 rfl (vin rfl) (rfl) dX11_asAtFirst_28 ?_
  refine V.iinc (v := 3) (lv2 := [(2, .int 3), (0, .ref o), (1, .int 0)]) dX11_asAtFirst_29 0 rfl (by decide) (by decide) rfl ?_
  refine V.goto (tgt := 2) dX11_asAtFirst_32 (by decide) ?_
  refine V.iload_n dX11_asAtFirst_2 0 rfl ?_
  refine V.iconst (v := 4) dX11_asAtFirst_3 (by decide) ?_
  refine V.icmp_ge (tgt := 35) dX11_asAtFirst_4 (by decide) (fun hc => absurd hc (by decide)) (fun _ => ?_)
  refine V.aload_n dX11_asAtFirst_7 1 rfl ?_
  refine V.getf 0 2 rfl fa_X11_17_10 rfl dX11_asAtFirst_8 ?_
  refine V.iconst (v := 4) dX11_asAtFirst_11 (by decide) ?_
  refine V.iload_n dX11_asAtFirst_12 2 rfl ?_
  refine V.imul dX11_asAtFirst_13 ?_
  refine V.topc (v := 0) (by decide) ?_
  refine V.iload_n dX11_asAtFirst_14 0 rfl ?_
  refine V.iadd dX11_asAtFirst_15 ?_
  refine V.topc (v := 3) (by decide) ?_
  refine V.iconst (v := 4) dX11_asAtFirst_16 (by decide) ?_
  refine V.iast (vw2 := [(o, ob 10 [.ref mw, .ref mk, .ref mt, .ref mr, .ref mki, .ref mso, .ref mst, .ref mpr, .ref msh, .ref mwa, .ref mpu, .ref mtx, .int ts, .int ma, .int bg, .int wr, .int cl, .int um, .ref mor, .ref mbo, .int mn, .ref tO, .ref tVi, .ref tSm, .int tm]), (mt, aI E 8 (upd (upd (upd (upd Ti 0 4) 1 4) 2 4) 3 4)), (mr, aI E 8 (upd (upd (upd Re 0 1) 1 1) 2 1)), (msh, aI E 2 Sh), (mwa, aI E 2 Wa), (mpu, aI E 2 Pu)]) 1 rfl (vin rfl) (rfl) dX11_asAtFirst_17 ?_
  refine V.aload_n dX11_asAtFirst_18 1 rfl ?_
  refine V.getf 0 3 rfl fa_X11_20_10 rfl dX11_asAtFirst_19 ?_
  refine V.iconst (v := 4) dX11_asAtFirst_22 (by decide) ?_
  refine V.iload_n dX11_asAtFirst_23 2 rfl ?_
  refine V.imul dX11_asAtFirst_24 ?_
  refine V.topc (v := 0) (by decide) ?_
  refine V.iload_n dX11_asAtFirst_25 0 rfl ?_
  refine V.iadd dX11_asAtFirst_26 ?_
  refine V.topc (v := 3) (by decide) ?_
  refine V.iconst (v := 1) dX11_asAtFirst_27 (by decide) ?_
  refine V.iast (vw2 := [(o, ob 10 [.ref mw, .ref mk, .ref mt, .ref mr, .ref mki, .ref mso, .ref mst, .ref mpr, .ref msh, .ref mwa, .ref mpu, .ref mtx, .int ts, .int ma, .int bg, .int wr, .int cl, .int um, .ref mor, .ref mbo, .int mn, .ref tO, .ref tVi, .ref tSm, .int tm]), (mt, aI E 8 (upd (upd (upd (upd Ti 0 4) 1 4) 2 4) 3 4)), (mr, aI E 8 (upd (upd (upd (upd Re 0 1) 1 1) 2 1) 3 1)), (msh, aI E 2 Sh), (mwa, aI E 2 Wa), (mpu, aI E 2 Pu)]) 2 rfl (vin rfl) (rfl) dX11_asAtFirst_28 ?_
  refine V.iinc (v := 4) (lv2 := [(2, .int 4), (0, .ref o), (1, .int 0)]) dX11_asAtFirst_29 0 rfl (by decide) (by decide) rfl ?_
  refine V.goto (tgt := 2) dX11_asAtFirst_32 (by decide) ?_
  refine V.iload_n dX11_asAtFirst_2 0 rfl ?_
  refine V.iconst (v := 4) dX11_asAtFirst_3 (by decide) ?_
  refine V.icmp_ge (tgt := 35) dX11_asAtFirst_4 (by decide) (fun _ => ?_) (fun hc => absurd (by decide) hc)
  refine V.aload_n dX11_asAtFirst_35 1 rfl ?_
  refine V.getf 0 8 rfl fa_X11_35_10 rfl dX11_asAtFirst_36 ?_
  refine V.iload_n dX11_asAtFirst_39 2 rfl ?_
  refine V.iconst (v := 0) dX11_asAtFirst_40 (by decide) ?_
  refine V.iast (vw2 := [(o, ob 10 [.ref mw, .ref mk, .ref mt, .ref mr, .ref mki, .ref mso, .ref mst, .ref mpr, .ref msh, .ref mwa, .ref mpu, .ref mtx, .int ts, .int ma, .int bg, .int wr, .int cl, .int um, .ref mor, .ref mbo, .int mn, .ref tO, .ref tVi, .ref tSm, .int tm]), (mt, aI E 8 (upd (upd (upd (upd Ti 0 4) 1 4) 2 4) 3 4)), (mr, aI E 8 (upd (upd (upd (upd Re 0 1) 1 1) 2 1) 3 1)), (msh, aI E 2 (upd Sh 0 0)), (mwa, aI E 2 Wa), (mpu, aI E 2 Pu)]) 3 rfl (vin rfl) (rfl) dX11_asAtFirst_41 ?_
  refine V.aload_n dX11_asAtFirst_42 1 rfl ?_
  refine V.getf 0 9 rfl fa_X11_38_10 rfl dX11_asAtFirst_43 ?_
  refine V.iload_n dX11_asAtFirst_46 2 rfl ?_
  refine V.bipush (v := 10) dX11_asAtFirst_47 (by decide) ?_
  refine V.iast (vw2 := [(o, ob 10 [.ref mw, .ref mk, .ref mt, .ref mr, .ref mki, .ref mso, .ref mst, .ref mpr, .ref msh, .ref mwa, .ref mpu, .ref mtx, .int ts, .int ma, .int bg, .int wr, .int cl, .int um, .ref mor, .ref mbo, .int mn, .ref tO, .ref tVi, .ref tSm, .int tm]), (mt, aI E 8 (upd (upd (upd (upd Ti 0 4) 1 4) 2 4) 3 4)), (mr, aI E 8 (upd (upd (upd (upd Re 0 1) 1 1) 2 1) 3 1)), (msh, aI E 2 (upd Sh 0 0)), (mwa, aI E 2 (upd Wa 0 10)), (mpu, aI E 2 Pu)]) 4 rfl (vin rfl) (rfl) dX11_asAtFirst_49 ?_
  refine V.aload_n dX11_asAtFirst_50 1 rfl ?_
  refine V.getf 0 10 rfl fa_X11_41_10 rfl dX11_asAtFirst_51 ?_
  refine V.iload_n dX11_asAtFirst_54 2 rfl ?_
  refine V.bipush (v := 60) dX11_asAtFirst_55 (by decide) ?_
  refine V.iast (vw2 := [(o, ob 10 [.ref mw, .ref mk, .ref mt, .ref mr, .ref mki, .ref mso, .ref mst, .ref mpr, .ref msh, .ref mwa, .ref mpu, .ref mtx, .int ts, .int ma, .int bg, .int wr, .int cl, .int um, .ref mor, .ref mbo, .int mn, .ref tO, .ref tVi, .ref tSm, .int tm]), (mt, aI E 8 (upd (upd (upd (upd Ti 0 4) 1 4) 2 4) 3 4)), (mr, aI E 8 (upd (upd (upd (upd Re 0 1) 1 1) 2 1) 3 1)), (msh, aI E 2 (upd Sh 0 0)), (mwa, aI E 2 (upd Wa 0 10)), (mpu, aI E 2 (upd Pu 0 60))]) 5 rfl (vin rfl) (rfl) dX11_asAtFirst_57 ?_
  refine V.arrEq (vw2 := [(o, ob 10 [.ref mw, .ref mk, .ref mt, .ref mr, .ref mki, .ref mso, .ref mst, .ref mpr, .ref msh, .ref mwa, .ref mpu, .ref mtx, .int ts, .int ma, .int bg, .int wr, .int cl, .int um, .ref mor, .ref mbo, .int mn, .ref tO, .ref tVi, .ref tSm, .int tm]), (mt, aI E 8 (putH 4 Ti 0 (fun _ => 4))), (mr, aI E 8 (upd (upd (upd (upd Re 0 1) 1 1) 2 1) 3 1)), (msh, aI E 2 (upd Sh 0 0)), (mwa, aI E 2 (upd Wa 0 10)), (mpu, aI E 2 (upd Pu 0 60))]) 1 0 rfl (fun j hj => by rcases (show j = 0 ∨ j = 1 ∨ j = 2 ∨ j = 3 ∨ j = 4 ∨ j = 5 ∨ j = 6 ∨ j = 7 by omega) with rfl | rfl | rfl | rfl | rfl | rfl | rfl | rfl <;> rfl) rfl ?_
  refine V.arrEq (vw2 := [(o, ob 10 [.ref mw, .ref mk, .ref mt, .ref mr, .ref mki, .ref mso, .ref mst, .ref mpr, .ref msh, .ref mwa, .ref mpu, .ref mtx, .int ts, .int ma, .int bg, .int wr, .int cl, .int um, .ref mor, .ref mbo, .int mn, .ref tO, .ref tVi, .ref tSm, .int tm]), (mt, aI E 8 (putH 4 Ti 0 (fun _ => 4))), (mr, aI E 8 (putH 4 Re 0 (fun _ => 1))), (msh, aI E 2 (upd Sh 0 0)), (mwa, aI E 2 (upd Wa 0 10)), (mpu, aI E 2 (upd Pu 0 60))]) 2 0 rfl (fun j hj => by rcases (show j = 0 ∨ j = 1 ∨ j = 2 ∨ j = 3 ∨ j = 4 ∨ j = 5 ∨ j = 6 ∨ j = 7 by omega) with rfl | rfl | rfl | rfl | rfl | rfl | rfl | rfl <;> rfl) rfl ?_
  refine V.arrEq (vw2 := [(o, ob 10 [.ref mw, .ref mk, .ref mt, .ref mr, .ref mki, .ref mso, .ref mst, .ref mpr, .ref msh, .ref mwa, .ref mpu, .ref mtx, .int ts, .int ma, .int bg, .int wr, .int cl, .int um, .ref mor, .ref mbo, .int mn, .ref tO, .ref tVi, .ref tSm, .int tm]), (mt, aI E 8 (putH 4 Ti 0 (fun _ => 4))), (mr, aI E 8 (putH 4 Re 0 (fun _ => 1))), (msh, aI E 2 (upd Sh 0 0)), (mwa, aI E 2 (upd Wa 0 10)), (mpu, aI E 2 (upd Pu 0 60))]) 3 0 rfl (fun j hj => by rcases (show j = 0 ∨ j = 1 by omega) with rfl | rfl <;> rfl) rfl ?_
  refine V.arrEq (vw2 := [(o, ob 10 [.ref mw, .ref mk, .ref mt, .ref mr, .ref mki, .ref mso, .ref mst, .ref mpr, .ref msh, .ref mwa, .ref mpu, .ref mtx, .int ts, .int ma, .int bg, .int wr, .int cl, .int um, .ref mor, .ref mbo, .int mn, .ref tO, .ref tVi, .ref tSm, .int tm]), (mt, aI E 8 (putH 4 Ti 0 (fun _ => 4))), (mr, aI E 8 (putH 4 Re 0 (fun _ => 1))), (msh, aI E 2 (upd Sh 0 0)), (mwa, aI E 2 (upd Wa 0 10)), (mpu, aI E 2 (upd Pu 0 60))]) 4 0 rfl (fun j hj => by rcases (show j = 0 ∨ j = 1 by omega) with rfl | rfl <;> rfl) rfl ?_
  refine V.arrEq (vw2 := [(o, ob 10 [.ref mw, .ref mk, .ref mt, .ref mr, .ref mki, .ref mso, .ref mst, .ref mpr, .ref msh, .ref mwa, .ref mpu, .ref mtx, .int ts, .int ma, .int bg, .int wr, .int cl, .int um, .ref mor, .ref mbo, .int mn, .ref tO, .ref tVi, .ref tSm, .int tm]), (mt, aI E 8 (putH 4 Ti 0 (fun _ => 4))), (mr, aI E 8 (putH 4 Re 0 (fun _ => 1))), (msh, aI E 2 (upd Sh 0 0)), (mwa, aI E 2 (upd Wa 0 10)), (mpu, aI E 2 (upd Pu 0 60))]) 5 0 rfl (fun j hj => by rcases (show j = 0 ∨ j = 1 by omega) with rfl | rfl <;> rfl) rfl ?_
  exact V.vret rfl dX11_asAtFirst_58 (⟨(), rfl, rfl, rfl, trivial⟩)

set_option maxHeartbeats 4000000 in
set_option maxRecDepth 100000 in
theorem c_M_asAtFirst_1 (E : vEnv) (l : Launch) (L : List Nat) (h : Nat → va_E) (o : Nat) (mw : Nat) (mk : Nat) (mt : Nat) (mr : Nat) (mki : Nat) (mso : Nat) (mst : Nat) (mpr : Nat) (msh : Nat) (mwa : Nat) (mpu : Nat) (mtx : Nat) (mor : Nat) (mbo : Nat) (tO : Nat) (tVi : Nat) (tSm : Nat) (ts : Int32) (ma : Int32) (bg : Int32) (wr : Int32) (cl : Int32) (um : Int32) (mn : Int32) (tm : Int32) (Ti : Nat → Int32) (Re : Nat → Int32) (Sh : Nat → Int32) (Wa : Nat → Int32) (Pu : Nat → Int32) : CT E l yX11_asAtFirst cX11_asAtFirst 3 none 0 0 0 L h [(o, ob 10 [.ref mw, .ref mk, .ref mt, .ref mr, .ref mki, .ref mso, .ref mst, .ref mpr, .ref msh, .ref mwa, .ref mpu, .ref mtx, .int ts, .int ma, .int bg, .int wr, .int cl, .int um, .ref mor, .ref mbo, .int mn, .ref tO, .ref tVi, .ref tSm, .int tm]), (mt, aI E 8 Ti), (mr, aI E 8 Re), (msh, aI E 2 Sh), (mwa, aI E 2 Wa), (mpu, aI E 2 Pu)] [.ref o, .int 1] (qP L h (fun (_ : Unit) => [(o, ob 10 [.ref mw, .ref mk, .ref mt, .ref mr, .ref mki, .ref mso, .ref mst, .ref mpr, .ref msh, .ref mwa, .ref mpu, .ref mtx, .int ts, .int ma, .int bg, .int wr, .int cl, .int um, .ref mor, .ref mbo, .int mn, .ref tO, .ref tVi, .ref tSm, .int tm]), (mt, aI E 8 (putH 4 Ti 1 (fun _ => 4))), (mr, aI E 8 (putH 4 Re 1 (fun _ => 1))), (msh, aI E 2 (upd Sh 1 0)), (mwa, aI E 2 (upd Wa 1 10)), (mpu, aI E 2 (upd Pu 1 60))]) (fun _ => none) (fun _ => True)) := by
  refine CT.ofV (by decide +kernel) (Nat.le_of_ble_eq_true rfl) ?_
  refine V.locals2 (lv2 := [(0, .ref o), (1, .int 1)]) rfl ?_
  refine V.iconst (v := 0) dX11_asAtFirst_0 (by decide) ?_
  refine V.istore_n (lv2 := [(2, .int 0), (0, .ref o), (1, .int 1)]) dX11_asAtFirst_1 rfl (by decide) rfl ?_
  refine V.iload_n dX11_asAtFirst_2 0 rfl ?_
  refine V.iconst (v := 4) dX11_asAtFirst_3 (by decide) ?_
  refine V.icmp_ge (tgt := 35) dX11_asAtFirst_4 (by decide) (fun hc => absurd hc (by decide)) (fun _ => ?_)
  refine V.aload_n dX11_asAtFirst_7 1 rfl ?_
  refine V.getf 0 2 rfl fa_X11_17_10 rfl dX11_asAtFirst_8 ?_
  refine V.iconst (v := 4) dX11_asAtFirst_11 (by decide) ?_
  refine V.iload_n dX11_asAtFirst_12 2 rfl ?_
  refine V.imul dX11_asAtFirst_13 ?_
  refine V.topc (v := 4) (by decide) ?_
  refine V.iload_n dX11_asAtFirst_14 0 rfl ?_
  refine V.iadd dX11_asAtFirst_15 ?_
  refine V.topc (v := 4) (by decide) ?_
  refine V.iconst (v := 4) dX11_asAtFirst_16 (by decide) ?_
  refine V.iast (vw2 := [(o, ob 10 [.ref mw, .ref mk, .ref mt, .ref mr, .ref mki, .ref mso, .ref mst, .ref mpr, .ref msh, .ref mwa, .ref mpu, .ref mtx, .int ts, .int ma, .int bg, .int wr, .int cl, .int um, .ref mor, .ref mbo, .int mn, .ref tO, .ref tVi, .ref tSm, .int tm]), (mt, aI E 8 (upd Ti 4 4)), (mr, aI E 8 Re), (msh, aI E 2 Sh), (mwa, aI E 2 Wa), (mpu, aI E 2 Pu)]) 1 rfl (vin rfl) (rfl) dX11_asAtFirst_17 ?_
  refine V.aload_n dX11_asAtFirst_18 1 rfl ?_
  refine V.getf 0 3 rfl fa_X11_20_10 rfl dX11_asAtFirst_19 ?_
  refine V.iconst (v := 4) dX11_asAtFirst_22 (by decide) ?_
  refine V.iload_n dX11_asAtFirst_23 2 rfl ?_
  refine V.imul dX11_asAtFirst_24 ?_
  refine V.topc (v := 4) (by decide) ?_
  refine V.iload_n dX11_asAtFirst_25 0 rfl ?_
  refine V.iadd dX11_asAtFirst_26 ?_
  refine V.topc (v := 4) (by decide) ?_
  refine V.iconst (v := 1) dX11_asAtFirst_27 (by decide) ?_
  refine V.iast (vw2 := [(o, ob 10 [.ref mw, .ref mk, .ref mt, .ref mr, .ref mki, .ref mso, .ref mst, .ref mpr, .ref msh, .ref mwa, .ref mpu, .ref mtx, .int ts, .int ma, .int bg, .int wr, .int cl, .int um, .ref mor, .ref mbo, .int mn, .ref tO, .ref tVi, .ref tSm, .int tm]), (mt, aI E 8 (upd Ti 4 4)), (mr, aI E 8 (upd Re 4 1)), (msh, aI E 2 Sh), (mwa, aI E 2 Wa), (mpu, aI E 2 Pu)]) 2 rfl (vin rfl) (rfl) dX11_asAtFirst_28 ?_
  refine V.iinc (v := 1) (lv2 := [(2, .int 1), (0, .ref o), (1, .int 1)]) dX11_asAtFirst_29 0 rfl (by decide) (by decide) rfl ?_
  refine V.goto (tgt := 2) dX11_asAtFirst_32 (by decide) ?_
  refine V.iload_n dX11_asAtFirst_2 0 rfl ?_
  refine V.iconst (v := 4) dX11_asAtFirst_3 (by decide) ?_
  refine V.icmp_ge (tgt := 35) dX11_asAtFirst_4 (by decide) (fun hc => absurd hc (by decide)) (fun _ => ?_)
  refine V.aload_n dX11_asAtFirst_7 1 rfl ?_
  refine V.getf 0 2 rfl fa_X11_17_10 rfl dX11_asAtFirst_8 ?_
  refine V.iconst (v := 4) dX11_asAtFirst_11 (by decide) ?_
  refine V.iload_n dX11_asAtFirst_12 2 rfl ?_
  refine V.imul dX11_asAtFirst_13 ?_
  refine V.topc (v := 4) (by decide) ?_
  refine V.iload_n dX11_asAtFirst_14 0 rfl ?_
  refine V.iadd dX11_asAtFirst_15 ?_
  refine V.topc (v := 5) (by decide) ?_
  refine V.iconst (v := 4) dX11_asAtFirst_16 (by decide) ?_
  refine V.iast (vw2 := [(o, ob 10 [.ref mw, .ref mk, .ref mt, .ref mr, .ref mki, .ref mso, .ref mst, .ref mpr, .ref msh, .ref mwa, .ref mpu, .ref mtx, .int ts, .int ma, .int bg, .int wr, .int cl, .int um, .ref mor, .ref mbo, .int mn, .ref tO, .ref tVi, .ref tSm, .int tm]), (mt, aI E 8 (upd (upd Ti 4 4) 5 4)), (mr, aI E 8 (upd Re 4 1)), (msh, aI E 2 Sh), (mwa, aI E 2 Wa), (mpu, aI E 2 Pu)]) 1 rfl (vin rfl) (rfl) dX11_asAtFirst_17 ?_
  refine V.aload_n dX11_asAtFirst_18 1 rfl ?_
  refine V.getf 0 3 rfl fa_X11_20_10 rfl dX11_asAtFirst_19 ?_
  refine V.iconst (v := 4) dX11_asAtFirst_22 (by decide) ?_
  refine V.iload_n dX11_asAtFirst_23 2 rfl ?_
  refine V.imul dX11_asAtFirst_24 ?_
  refine V.topc (v := 4) (by decide) ?_
  refine V.iload_n dX11_asAtFirst_25 0 rfl ?_
  refine V.iadd dX11_asAtFirst_26 ?_
  refine V.topc (v := 5) (by decide) ?_
  refine V.iconst (v := 1) dX11_asAtFirst_27 (by decide) ?_
  refine V.iast (vw2 := [(o, ob 10 [.ref mw, .ref mk, .ref mt, .ref mr, .ref mki, .ref mso, .ref mst, .ref mpr, .ref msh, .ref mwa, .ref mpu, .ref mtx, .int ts, .int ma, .int bg, .int wr, .int cl, .int um, .ref mor, .ref mbo, .int mn, .ref tO, .ref tVi, .ref tSm, .int tm]), (mt, aI E 8 (upd (upd Ti 4 4) 5 4)), (mr, aI E 8 (upd (upd Re 4 1) 5 1)), (msh, aI E 2 Sh), (mwa, aI E 2 Wa), (mpu, aI E 2 Pu)]) 2 rfl (vin rfl) (rfl) dX11_asAtFirst_28 ?_
  refine V.iinc (v := 2) (lv2 := [(2, .int 2), (0, .ref o), (1, .int 1)]) dX11_asAtFirst_29 0 rfl (by decide) (by decide) rfl ?_
  refine V.goto (tgt := 2) dX11_asAtFirst_32 (by decide) ?_
  refine V.iload_n dX11_asAtFirst_2 0 rfl ?_
  refine V.iconst (v := 4) dX11_asAtFirst_3 (by decide) ?_
  refine V.icmp_ge (tgt := 35) dX11_asAtFirst_4 (by decide) (fun hc => absurd hc (by decide)) (fun _ => ?_)
  refine V.aload_n dX11_asAtFirst_7 1 rfl ?_
  refine V.getf 0 2 rfl fa_X11_17_10 rfl dX11_asAtFirst_8 ?_
  refine V.iconst (v := 4) dX11_asAtFirst_11 (by decide) ?_
  refine V.iload_n dX11_asAtFirst_12 2 rfl ?_
  refine V.imul dX11_asAtFirst_13 ?_
  refine V.topc (v := 4) (by decide) ?_
  refine V.iload_n dX11_asAtFirst_14 0 rfl ?_
  refine V.iadd dX11_asAtFirst_15 ?_
  refine V.topc (v := 6) (by decide) ?_
  refine V.iconst (v := 4) dX11_asAtFirst_16 (by decide) ?_
  refine V.iast (vw2 := [(o, ob 10 [.ref mw, .ref mk, .ref mt, .ref mr, .ref mki, .ref mso, .ref mst, .ref mpr, .ref msh, .ref mwa, .ref mpu, .ref mtx, .int ts, .int ma, .int bg, .int wr, .int cl, .int um, .ref mor, .ref mbo, .int mn, .ref tO, .ref tVi, .ref tSm, .int tm]), (mt, aI E 8 (upd (upd (upd Ti 4 4) 5 4) 6 4)), (mr, aI E 8 (upd (upd Re 4 1) 5 1)), (msh, aI E 2 Sh), (mwa, aI E 2 Wa), (mpu, aI E 2 Pu)]) 1 rfl (vin rfl) (rfl) dX11_asAtFirst_17 ?_
  refine V.aload_n dX11_asAtFirst_18 1 rfl ?_
  refine V.getf 0 3 rfl fa_X11_20_10 rfl dX11_asAtFirst_19 ?_
  refine V.iconst (v := 4) dX11_asAtFirst_22 (by decide) ?_
  refine V.iload_n dX11_asAtFirst_23 2 rfl ?_
  refine V.imul dX11_asAtFirst_24 ?_
  refine V.topc (v := 4) (by decide) ?_
  refine V.iload_n dX11_asAtFirst_25 0 rfl ?_
  refine V.iadd dX11_asAtFirst_26 ?_
  refine V.topc (v := 6) (by decide) ?_
  refine V.iconst (v := 1) dX11_asAtFirst_27 (by decide) ?_
  refine V.iast (vw2 := [(o, ob 10 [.ref mw, .ref mk, .ref mt, .ref mr, .ref mki, .ref mso, .ref mst, .ref mpr, .ref msh, .ref mwa, .ref mpu, .ref mtx, .int ts, .int ma, .int bg, .int wr, .int cl, .int um, .ref mor, .ref mbo, .int mn, .ref tO, .ref tVi, .ref tSm, .int tm]), (mt, aI E 8 (upd (upd (upd Ti 4 4) 5 4) 6 4)), (mr, aI E 8 (upd (upd (upd Re 4 1) 5 1) 6 1)), (msh, aI E 2 Sh), (mwa, aI E 2 Wa), (mpu, aI E 2 Pu)]) 2 rfl (vin rfl) (rfl) dX11_asAtFirst_28 ?_
  refine V.iinc (v := 3) (lv2 := [(2, .int 3), (0, .ref o), (1, .int 1)]) dX11_asAtFirst_29 0 rfl (by decide) (by decide) rfl ?_
  refine V.goto (tgt := 2) dX11_asAtFirst_32 (by decide) ?_
  refine V.iload_n dX11_asAtFirst_2 0 rfl ?_
  refine V.iconst (v := 4) dX11_asAtFirst_3 (by decide) ?_
  refine V.icmp_ge (tgt := 35) dX11_asAtFirst_4 (by decide) (fun hc => absurd hc (by decide)) (fun _ => ?_)
  refine V.aload_n dX11_asAtFirst_7 1 rfl ?_
  refine V.getf 0 2 rfl fa_X11_17_10 rfl dX11_asAtFirst_8 ?_
  refine V.iconst (v := 4) dX11_asAtFirst_11 (by decide) ?_
  refine V.iload_n dX11_asAtFirst_12 2 rfl ?_
  refine V.imul dX11_asAtFirst_13 ?_
  refine V.topc (v := 4) (by decide) ?_
  refine V.iload_n dX11_asAtFirst_14 0 rfl ?_
  refine V.iadd dX11_asAtFirst_15 ?_
  refine V.topc (v := 7) (by decide) ?_
  refine V.iconst (v := 4) dX11_asAtFirst_16 (by decide) ?_
  refine V.iast (vw2 := [(o, ob 10 [.ref mw, .ref mk, .ref mt, .ref mr, .ref mki, .ref mso, .ref mst, .ref mpr, .ref msh, .ref mwa, .ref mpu, .ref mtx, .int ts, .int ma, .int bg, .int wr, .int cl, .int um, .ref mor, .ref mbo, .int mn, .ref tO, .ref tVi, .ref tSm, .int tm]), (mt, aI E 8 (upd (upd (upd (upd Ti 4 4) 5 4) 6 4) 7 4)), (mr, aI E 8 (upd (upd (upd Re 4 1) 5 1) 6 1)), (msh, aI E 2 Sh), (mwa, aI E 2 Wa), (mpu, aI E 2 Pu)]) 1 rfl (vin rfl) (rfl) dX11_asAtFirst_17 ?_
  refine V.aload_n dX11_asAtFirst_18 1 rfl ?_
  refine V.getf 0 3 rfl fa_X11_20_10 rfl dX11_asAtFirst_19 ?_
  refine V.iconst (v := 4) dX11_asAtFirst_22 (by decide) ?_
  refine V.iload_n dX11_asAtFirst_23 2 rfl ?_
  refine V.imul dX11_asAtFirst_24 ?_
  refine V.topc (v := 4) (by decide) ?_
  refine V.iload_n dX11_asAtFirst_25 0 rfl ?_
  refine V.iadd dX11_asAtFirst_26 ?_
  refine V.topc (v := 7) (by decide) ?_
  refine V.iconst (v := 1) dX11_asAtFirst_27 (by decide) ?_
  refine V.iast (vw2 := [(o, ob 10 [.ref mw, .ref mk, .ref mt, .ref mr, .ref mki, .ref mso, .ref mst, .ref mpr, .ref msh, .ref mwa, .ref mpu, .ref mtx, .int ts, .int ma, .int bg, .int wr, .int cl, .int um, .ref mor, .ref mbo, .int mn, .ref tO, .ref tVi, .ref tSm, .int tm]), (mt, aI E 8 (upd (upd (upd (upd Ti 4 4) 5 4) 6 4) 7 4)), (mr, aI E 8 (upd (upd (upd (upd Re 4 1) 5 1) 6 1) 7 1)), (msh, aI E 2 Sh), (mwa, aI E 2 Wa), (mpu, aI E 2 Pu)]) 2 rfl (vin rfl) (rfl) dX11_asAtFirst_28 ?_
  refine V.iinc (v := 4) (lv2 := [(2, .int 4), (0, .ref o), (1, .int 1)]) dX11_asAtFirst_29 0 rfl (by decide) (by decide) rfl ?_
  refine V.goto (tgt := 2) dX11_asAtFirst_32 (by decide) ?_
  refine V.iload_n dX11_asAtFirst_2 0 rfl ?_
  refine V.iconst (v := 4) dX11_asAtFirst_3 (by decide) ?_
  refine V.icmp_ge (tgt := 35) dX11_asAtFirst_4 (by decide) (fun _ => ?_) (fun hc => absurd (by decide) hc)
  refine V.aload_n dX11_asAtFirst_35 1 rfl ?_
  refine V.getf 0 8 rfl fa_X11_35_10 rfl dX11_asAtFirst_36 ?_
  refine V.iload_n dX11_asAtFirst_39 2 rfl ?_
  refine V.iconst (v := 0) dX11_asAtFirst_40 (by decide) ?_
  refine V.iast (vw2 := [(o, ob 10 [.ref mw, .ref mk, .ref mt, .ref mr, .ref mki, .ref mso, .ref mst, .ref mpr, .ref msh, .ref mwa, .ref mpu, .ref mtx, .int ts, .int ma, .int bg, .int wr, .int cl, .int um, .ref mor, .ref mbo, .int mn, .ref tO, .ref tVi, .ref tSm, .int tm]), (mt, aI E 8 (upd (upd (upd (upd Ti 4 4) 5 4) 6 4) 7 4)), (mr, aI E 8 (upd (upd (upd (upd Re 4 1) 5 1) 6 1) 7 1)), (msh, aI E 2 (upd Sh 1 0)), (mwa, aI E 2 Wa), (mpu, aI E 2 Pu)]) 3 rfl (vin rfl) (rfl) dX11_asAtFirst_41 ?_
  refine V.aload_n dX11_asAtFirst_42 1 rfl ?_
  refine V.getf 0 9 rfl fa_X11_38_10 rfl dX11_asAtFirst_43 ?_
  refine V.iload_n dX11_asAtFirst_46 2 rfl ?_
  refine V.bipush (v := 10) dX11_asAtFirst_47 (by decide) ?_
  refine V.iast (vw2 := [(o, ob 10 [.ref mw, .ref mk, .ref mt, .ref mr, .ref mki, .ref mso, .ref mst, .ref mpr, .ref msh, .ref mwa, .ref mpu, .ref mtx, .int ts, .int ma, .int bg, .int wr, .int cl, .int um, .ref mor, .ref mbo, .int mn, .ref tO, .ref tVi, .ref tSm, .int tm]), (mt, aI E 8 (upd (upd (upd (upd Ti 4 4) 5 4) 6 4) 7 4)), (mr, aI E 8 (upd (upd (upd (upd Re 4 1) 5 1) 6 1) 7 1)), (msh, aI E 2 (upd Sh 1 0)), (mwa, aI E 2 (upd Wa 1 10)), (mpu, aI E 2 Pu)]) 4 rfl (vin rfl) (rfl) dX11_asAtFirst_49 ?_
  refine V.aload_n dX11_asAtFirst_50 1 rfl ?_
  refine V.getf 0 10 rfl fa_X11_41_10 rfl dX11_asAtFirst_51 ?_
  refine V.iload_n dX11_asAtFirst_54 2 rfl ?_
  refine V.bipush (v := 60) dX11_asAtFirst_55 (by decide) ?_
  refine V.iast (vw2 := [(o, ob 10 [.ref mw, .ref mk, .ref mt, .ref mr, .ref mki, .ref mso, .ref mst, .ref mpr, .ref msh, .ref mwa, .ref mpu, .ref mtx, .int ts, .int ma, .int bg, .int wr, .int cl, .int um, .ref mor, .ref mbo, .int mn, .ref tO, .ref tVi, .ref tSm, .int tm]), (mt, aI E 8 (upd (upd (upd (upd Ti 4 4) 5 4) 6 4) 7 4)), (mr, aI E 8 (upd (upd (upd (upd Re 4 1) 5 1) 6 1) 7 1)), (msh, aI E 2 (upd Sh 1 0)), (mwa, aI E 2 (upd Wa 1 10)), (mpu, aI E 2 (upd Pu 1 60))]) 5 rfl (vin rfl) (rfl) dX11_asAtFirst_57 ?_
  refine V.arrEq (vw2 := [(o, ob 10 [.ref mw, .ref mk, .ref mt, .ref mr, .ref mki, .ref mso, .ref mst, .ref mpr, .ref msh, .ref mwa, .ref mpu, .ref mtx, .int ts, .int ma, .int bg, .int wr, .int cl, .int um, .ref mor, .ref mbo, .int mn, .ref tO, .ref tVi, .ref tSm, .int tm]), (mt, aI E 8 (putH 4 Ti 1 (fun _ => 4))), (mr, aI E 8 (upd (upd (upd (upd Re 4 1) 5 1) 6 1) 7 1)), (msh, aI E 2 (upd Sh 1 0)), (mwa, aI E 2 (upd Wa 1 10)), (mpu, aI E 2 (upd Pu 1 60))]) 1 0 rfl (fun j hj => by rcases (show j = 0 ∨ j = 1 ∨ j = 2 ∨ j = 3 ∨ j = 4 ∨ j = 5 ∨ j = 6 ∨ j = 7 by omega) with rfl | rfl | rfl | rfl | rfl | rfl | rfl | rfl <;> rfl) rfl ?_
  refine V.arrEq (vw2 := [(o, ob 10 [.ref mw, .ref mk, .ref mt, .ref mr, .ref mki, .ref mso, .ref mst, .ref mpr, .ref msh, .ref mwa, .ref mpu, .ref mtx, .int ts, .int ma, .int bg, .int wr, .int cl, .int um, .ref mor, .ref mbo, .int mn, .ref tO, .ref tVi, .ref tSm, .int tm]), (mt, aI E 8 (putH 4 Ti 1 (fun _ => 4))), (mr, aI E 8 (putH 4 Re 1 (fun _ => 1))), (msh, aI E 2 (upd Sh 1 0)), (mwa, aI E 2 (upd Wa 1 10)), (mpu, aI E 2 (upd Pu 1 60))]) 2 0 rfl (fun j hj => by rcases (show j = 0 ∨ j = 1 ∨ j = 2 ∨ j = 3 ∨ j = 4 ∨ j = 5 ∨ j = 6 ∨ j = 7 by omega) with rfl | rfl | rfl | rfl | rfl | rfl | rfl | rfl <;> rfl) rfl ?_
  refine V.arrEq (vw2 := [(o, ob 10 [.ref mw, .ref mk, .ref mt, .ref mr, .ref mki, .ref mso, .ref mst, .ref mpr, .ref msh, .ref mwa, .ref mpu, .ref mtx, .int ts, .int ma, .int bg, .int wr, .int cl, .int um, .ref mor, .ref mbo, .int mn, .ref tO, .ref tVi, .ref tSm, .int tm]), (mt, aI E 8 (putH 4 Ti 1 (fun _ => 4))), (mr, aI E 8 (putH 4 Re 1 (fun _ => 1))), (msh, aI E 2 (upd Sh 1 0)), (mwa, aI E 2 (upd Wa 1 10)), (mpu, aI E 2 (upd Pu 1 60))]) 3 0 rfl (fun j hj => by rcases (show j = 0 ∨ j = 1 by omega) with rfl | rfl <;> rfl) rfl ?_
  refine V.arrEq (vw2 := [(o, ob 10 [.ref mw, .ref mk, .ref mt, .ref mr, .ref mki, .ref mso, .ref mst, .ref mpr, .ref msh, .ref mwa, .ref mpu, .ref mtx, .int ts, .int ma, .int bg, .int wr, .int cl, .int um, .ref mor, .ref mbo, .int mn, .ref tO, .ref tVi, .ref tSm, .int tm]), (mt, aI E 8 (putH 4 Ti 1 (fun _ => 4))), (mr, aI E 8 (putH 4 Re 1 (fun _ => 1))), (msh, aI E 2 (upd Sh 1 0)), (mwa, aI E 2 (upd Wa 1 10)), (mpu, aI E 2 (upd Pu 1 60))]) 4 0 rfl (fun j hj => by rcases (show j = 0 ∨ j = 1 by omega) with rfl | rfl <;> rfl) rfl ?_
  refine V.arrEq (vw2 := [(o, ob 10 [.ref mw, .ref mk, .ref mt, .ref mr, .ref mki, .ref mso, .ref mst, .ref mpr, .ref msh, .ref mwa, .ref mpu, .ref mtx, .int ts, .int ma, .int bg, .int wr, .int cl, .int um, .ref mor, .ref mbo, .int mn, .ref tO, .ref tVi, .ref tSm, .int tm]), (mt, aI E 8 (putH 4 Ti 1 (fun _ => 4))), (mr, aI E 8 (putH 4 Re 1 (fun _ => 1))), (msh, aI E 2 (upd Sh 1 0)), (mwa, aI E 2 (upd Wa 1 10)), (mpu, aI E 2 (upd Pu 1 60))]) 5 0 rfl (fun j hj => by rcases (show j = 0 ∨ j = 1 by omega) with rfl | rfl <;> rfl) rfl ?_
  exact V.vret rfl dX11_asAtFirst_58 (⟨(), rfl, rfl, rfl, trivial⟩)

set_option maxHeartbeats 4000000 in
set_option maxRecDepth 100000 in
theorem c_M_copyHalf_0 (E : vEnv) (l : Launch) (L : List Nat) (h : Nat → va_E) (o : Nat) (mw : Nat) (mk : Nat) (mt : Nat) (mr : Nat) (mki : Nat) (mso : Nat) (mst : Nat) (mpr : Nat) (msh : Nat) (mwa : Nat) (mpu : Nat) (mtx : Nat) (mor : Nat) (mbo : Nat) (tO : Nat) (tVi : Nat) (tSm : Nat) (ts : Int32) (ma : Int32) (bg : Int32) (wr : Int32) (cl : Int32) (um : Int32) (mn : Int32) (tm : Int32) (Ti : Nat → Int32) (Re : Nat → Int32) (Ki : Nat → Int32) (So : Nat → Int32) (St : Nat → Int32) (Pr : Nat → Int32) (Sh : Nat → Int32) (Wa : Nat → Int32) (Pu : Nat → Int32) : CT E l yX11_copyHalf cX11_copyHalf 4 none 0 0 0 L h [(o, ob 10 [.ref mw, .ref mk, .ref mt, .ref mr, .ref mki, .ref mso, .ref mst, .ref mpr, .ref msh, .ref mwa, .ref mpu, .ref mtx, .int ts, .int ma, .int bg, .int wr, .int cl, .int um, .ref mor, .ref mbo, .int mn, .ref tO, .ref tVi, .ref tSm, .int tm]), (mt, aI E 8 Ti), (mr, aI E 8 Re), (mki, aI E 12 Ki), (mso, aI E 12 So), (mst, aI E 12 St), (mpr, aI E 12 Pr), (msh, aI E 2 Sh), (mwa, aI E 2 Wa), (mpu, aI E 2 Pu)] [.ref o, .int 0, .int 1] (qP L h (fun (_ : Unit) => [(o, ob 10 [.ref mw, .ref mk, .ref mt, .ref mr, .ref mki, .ref mso, .ref mst, .ref mpr, .ref msh, .ref mwa, .ref mpu, .ref mtx, .int ts, .int ma, .int bg, .int wr, .int cl, .int um, .ref mor, .ref mbo, .int mn, .ref tO, .ref tVi, .ref tSm, .int tm]), (mt, aI E 8 (putH 4 Ti 1 (fun j => Ti (0 + j)))), (mr, aI E 8 (putH 4 Re 1 (fun j => Re (0 + j)))), (mki, aI E 12 (putH 6 Ki 1 (fun j => Ki (0 + j)))), (mso, aI E 12 (putH 6 So 1 (fun j => So (0 + j)))), (mst, aI E 12 (putH 6 St 1 (fun j => St (0 + j)))), (mpr, aI E 12 (putH 6 Pr 1 (fun j => Pr (0 + j)))), (msh, aI E 2 (putH 1 Sh 1 (fun j => Sh (0 + j)))), (mwa, aI E 2 (putH 1 Wa 1 (fun j => Wa (0 + j)))), (mpu, aI E 2 (putH 1 Pu 1 (fun j => Pu (0 + j))))]) (fun _ => none) (fun _ => True)) := by
  refine CT.ofV (by decide +kernel) (Nat.le_of_ble_eq_true rfl) ?_
  refine V.locals2 (lv2 := [(0, .ref o), (1, .int 0), (2, .int 1)]) rfl ?_
  refine V.iconst (v := 0) dX11_copyHalf_0 (by decide) ?_
  refine V.istore_n (lv2 := [(3, .int 0), (0, .ref o), (1, .int 0), (2, .int 1)]) dX11_copyHalf_1 rfl (by decide) rfl ?_
  refine V.iload_n dX11_copyHalf_2 0 rfl ?_
  refine V.iconst (v := 4) dX11_copyHalf_3 (by decide) ?_
  refine V.icmp_ge (tgt := 53) dX11_copyHalf_4 (by decide) (fun hc => absurd hc (by decide)) (fun _ => ?_)
  refine V.aload_n dX11_copyHalf_7 1 rfl ?_
  refine V.getf 0 2 rfl fa_X11_17_10 rfl dX11_copyHalf_8 ?_
  refine V.iconst (v := 4) dX11_copyHalf_11 (by decide) ?_
  refine V.iload_n dX11_copyHalf_12 3 rfl ?_
  refine V.imul dX11_copyHalf_13 ?_
  refine V.topc (v := 4) (by decide) ?_
  refine V.iload_n dX11_copyHalf_14 0 rfl ?_
  refine V.iadd dX11_copyHalf_15 ?_
  refine V.topc (v := 4) (by decide) ?_
  refine V.aload_n dX11_copyHalf_16 1 rfl ?_
  refine V.getf 0 2 rfl fa_X11_17_10 rfl dX11_copyHalf_17 ?_
  refine V.iconst (v := 4) dX11_copyHalf_20 (by decide) ?_
  refine V.iload_n dX11_copyHalf_21 2 rfl ?_
  refine V.imul dX11_copyHalf_22 ?_
  refine V.topc (v := 0) (by decide) ?_
  refine V.iload_n dX11_copyHalf_23 0 rfl ?_
  refine V.iadd dX11_copyHalf_24 ?_
  refine V.topc (v := 0) (by decide) ?_
  refine V.iald 1 rfl (vin rfl) dX11_copyHalf_25 ?_
  refine V.topc (v := (Ti 0)) (rfl) ?_
  refine V.iast (vw2 := [(o, ob 10 [.ref mw, .ref mk, .ref mt, .ref mr, .ref mki, .ref mso, .ref mst, .ref mpr, .ref msh, .ref mwa, .ref mpu, .ref mtx, .int ts, .int ma, .int bg, .int wr, .int cl, .int um, .ref mor, .ref mbo, .int mn, .ref tO, .ref tVi, .ref tSm, .int tm]), (mt, aI E 8 (upd Ti 4 (Ti 0))), (mr, aI E 8 Re), (mki, aI E 12 Ki), (mso, aI E 12 So), (mst, aI E 12 St), (mpr, aI E 12 Pr), (msh, aI E 2 Sh), (mwa, aI E 2 Wa), (mpu, aI E 2 Pu)]) 1 rfl (vin rfl) (rfl) dX11_copyHalf_26 ?_
  refine V.aload_n dX11_copyHalf_27 1 rfl ?_
  refine V.getf 0 3 rfl fa_X11_20_10 rfl dX11_copyHalf_28 ?_
  refine V.iconst (v := 4) dX11_copyHalf_31 (by decide) ?_
  refine V.iload_n dX11_copyHalf_32 3 rfl ?_
  refine V.imul dX11_copyHalf_33 ?_
  refine V.topc (v := 4) (by decide) ?_
  refine V.iload_n dX11_copyHalf_34 0 rfl ?_
  refine V.iadd dX11_copyHalf_35 ?_
  refine V.topc (v := 4) (by decide) ?_
  refine V.aload_n dX11_copyHalf_36 1 rfl ?_
  refine V.getf 0 3 rfl fa_X11_20_10 rfl dX11_copyHalf_37 ?_
  refine V.iconst (v := 4) dX11_copyHalf_40 (by decide) ?_
  refine V.iload_n dX11_copyHalf_41 2 rfl ?_
  refine V.imul dX11_copyHalf_42 ?_
  refine V.topc (v := 0) (by decide) ?_
  refine V.iload_n dX11_copyHalf_43 0 rfl ?_
  refine V.iadd dX11_copyHalf_44 ?_
  refine V.topc (v := 0) (by decide) ?_
  refine V.iald 2 rfl (vin rfl) dX11_copyHalf_45 ?_
  refine V.topc (v := (Re 0)) (rfl) ?_
  refine V.iast (vw2 := [(o, ob 10 [.ref mw, .ref mk, .ref mt, .ref mr, .ref mki, .ref mso, .ref mst, .ref mpr, .ref msh, .ref mwa, .ref mpu, .ref mtx, .int ts, .int ma, .int bg, .int wr, .int cl, .int um, .ref mor, .ref mbo, .int mn, .ref tO, .ref tVi, .ref tSm, .int tm]), (mt, aI E 8 (upd Ti 4 (Ti 0))), (mr, aI E 8 (upd Re 4 (Re 0))), (mki, aI E 12 Ki), (mso, aI E 12 So), (mst, aI E 12 St), (mpr, aI E 12 Pr), (msh, aI E 2 Sh), (mwa, aI E 2 Wa), (mpu, aI E 2 Pu)]) 2 rfl (vin rfl) (rfl) dX11_copyHalf_46 ?_
  refine V.iinc (v := 1) (lv2 := [(3, .int 1), (0, .ref o), (1, .int 0), (2, .int 1)]) dX11_copyHalf_47 0 rfl (by decide) (by decide) rfl ?_
  refine V.goto (tgt := 2) dX11_copyHalf_50 (by decide) ?_
  refine V.iload_n dX11_copyHalf_2 0 rfl ?_
  refine V.iconst (v := 4) dX11_copyHalf_3 (by decide) ?_
  refine V.icmp_ge (tgt := 53) dX11_copyHalf_4 (by decide) (fun hc => absurd hc (by decide)) (fun _ => ?_)
  refine V.aload_n dX11_copyHalf_7 1 rfl ?_
  refine V.getf 0 2 rfl fa_X11_17_10 rfl dX11_copyHalf_8 ?_
  refine V.iconst (v := 4) dX11_copyHalf_11 (by decide) ?_
  refine V.iload_n dX11_copyHalf_12 3 rfl ?_
  refine V.imul dX11_copyHalf_13 ?_
  refine V.topc (v := 4) (by decide) ?_
  refine V.iload_n dX11_copyHalf_14 0 rfl ?_
  refine V.iadd dX11_copyHalf_15 ?_
  refine V.topc (v := 5) (by decide) ?_
  refine V.aload_n dX11_copyHalf_16 1 rfl ?_
  refine V.getf 0 2 rfl fa_X11_17_10 rfl dX11_copyHalf_17 ?_
  refine V.iconst (v := 4) dX11_copyHalf_20 (by decide) ?_
  refine V.iload_n dX11_copyHalf_21 2 rfl ?_
  refine V.imul dX11_copyHalf_22 ?_
  refine V.topc (v := 0) (by decide) ?_
  refine V.iload_n dX11_copyHalf_23 0 rfl ?_
  refine V.iadd dX11_copyHalf_24 ?_
  refine V.topc (v := 1) (by decide) ?_
  refine V.iald 1 rfl (vin rfl) dX11_copyHalf_25 ?_
  refine V.topc (v := (Ti 1)) (rfl) ?_
  refine V.iast (vw2 := [(o, ob 10 [.ref mw, .ref mk, .ref mt, .ref mr, .ref mki, .ref mso, .ref mst, .ref mpr, .ref msh, .ref mwa, .ref mpu, .ref mtx, .int ts, .int ma, .int bg, .int wr, .int cl, .int um, .ref mor, .ref mbo, .int mn, .ref tO, .ref tVi, .ref tSm, .int tm]), (mt, aI E 8 (upd (upd Ti 4 (Ti 0)) 5 (Ti 1))), (mr, aI E 8 (upd Re 4 (Re 0))), (mki, aI E 12 Ki), (mso, aI E 12 So), (mst, aI E 12 St), (mpr, aI E 12 Pr), (msh, aI E 2 Sh), (mwa, aI E 2 Wa), (mpu, aI E 2 Pu)]) 1 rfl (vin rfl) (rfl) dX11_copyHalf_26 ?_
  refine V.aload_n dX11_copyHalf_27 1 rfl ?_
  refine V.getf 0 3 rfl fa_X11_20_10 rfl dX11_copyHalf_28 ?_
  refine V.iconst (v := 4) dX11_copyHalf_31 (by decide) ?_
  refine V.iload_n dX11_copyHalf_32 3 rfl ?_
  refine V.imul dX11_copyHalf_33 ?_
  refine V.topc (v := 4) (by decide) ?_
  refine V.iload_n dX11_copyHalf_34 0 rfl ?_
  refine V.iadd dX11_copyHalf_35 ?_
  refine V.topc (v := 5) (by decide) ?_
  refine V.aload_n dX11_copyHalf_36 1 rfl ?_
  refine V.getf 0 3 rfl fa_X11_20_10 rfl dX11_copyHalf_37 ?_
  refine V.iconst (v := 4) dX11_copyHalf_40 (by decide) ?_
  refine V.iload_n dX11_copyHalf_41 2 rfl ?_
  refine V.imul dX11_copyHalf_42 ?_
  refine V.topc (v := 0) (by decide) ?_
  refine V.iload_n dX11_copyHalf_43 0 rfl ?_
  refine V.iadd dX11_copyHalf_44 ?_
  refine V.topc (v := 1) (by decide) ?_
  refine V.iald 2 rfl (vin rfl) dX11_copyHalf_45 ?_
  refine V.topc (v := (Re 1)) (rfl) ?_
  refine V.iast (vw2 := [(o, ob 10 [.ref mw, .ref mk, .ref mt, .ref mr, .ref mki, .ref mso, .ref mst, .ref mpr, .ref msh, .ref mwa, .ref mpu, .ref mtx, .int ts, .int ma, .int bg, .int wr, .int cl, .int um, .ref mor, .ref mbo, .int mn, .ref tO, .ref tVi, .ref tSm, .int tm]), (mt, aI E 8 (upd (upd Ti 4 (Ti 0)) 5 (Ti 1))), (mr, aI E 8 (upd (upd Re 4 (Re 0)) 5 (Re 1))), (mki, aI E 12 Ki), (mso, aI E 12 So), (mst, aI E 12 St), (mpr, aI E 12 Pr), (msh, aI E 2 Sh), (mwa, aI E 2 Wa), (mpu, aI E 2 Pu)]) 2 rfl (vin rfl) (rfl) dX11_copyHalf_46 ?_
  refine V.iinc (v := 2) (lv2 := [(3, .int 2), (0, .ref o), (1, .int 0), (2, .int 1)]) dX11_copyHalf_47 0 rfl (by decide) (by decide) rfl ?_
  refine V.goto (tgt := 2) dX11_copyHalf_50 (by decide) ?_
  refine V.iload_n dX11_copyHalf_2 0 rfl ?_
  refine V.iconst (v := 4) dX11_copyHalf_3 (by decide) ?_
  refine V.icmp_ge (tgt := 53) dX11_copyHalf_4 (by decide) (fun hc => absurd hc (by decide)) (fun _ => ?_)
  refine V.aload_n dX11_copyHalf_7 1 rfl ?_
  refine V.getf 0 2 rfl fa_X11_17_10 rfl dX11_copyHalf_8 ?_
  refine V.iconst (v := 4) dX11_copyHalf_11 (by decide) ?_
  refine V.iload_n dX11_copyHalf_12 3 rfl ?_
  refine V.imul dX11_copyHalf_13 ?_
  refine V.topc (v := 4) (by decide) ?_
  refine V.iload_n dX11_copyHalf_14 0 rfl ?_
  refine V.iadd dX11_copyHalf_15 ?_
  refine V.topc (v := 6) (by decide) ?_
  refine V.aload_n dX11_copyHalf_16 1 rfl ?_
  refine V.getf 0 2 rfl fa_X11_17_10 rfl dX11_copyHalf_17 ?_
  refine V.iconst (v := 4) dX11_copyHalf_20 (by decide) ?_
  refine V.iload_n dX11_copyHalf_21 2 rfl ?_
  refine V.imul dX11_copyHalf_22 ?_
  refine V.topc (v := 0) (by decide) ?_
  refine V.iload_n dX11_copyHalf_23 0 rfl ?_
  refine V.iadd dX11_copyHalf_24 ?_
  refine V.topc (v := 2) (by decide) ?_
  refine V.iald 1 rfl (vin rfl) dX11_copyHalf_25 ?_
  refine V.topc (v := (Ti 2)) (rfl) ?_
  refine V.iast (vw2 := [(o, ob 10 [.ref mw, .ref mk, .ref mt, .ref mr, .ref mki, .ref mso, .ref mst, .ref mpr, .ref msh, .ref mwa, .ref mpu, .ref mtx, .int ts, .int ma, .int bg, .int wr, .int cl, .int um, .ref mor, .ref mbo, .int mn, .ref tO, .ref tVi, .ref tSm, .int tm]), (mt, aI E 8 (upd (upd (upd Ti 4 (Ti 0)) 5 (Ti 1)) 6 (Ti 2))), (mr, aI E 8 (upd (upd Re 4 (Re 0)) 5 (Re 1))), (mki, aI E 12 Ki), (mso, aI E 12 So), (mst, aI E 12 St), (mpr, aI E 12 Pr), (msh, aI E 2 Sh), (mwa, aI E 2 Wa), (mpu, aI E 2 Pu)]) 1 rfl (vin rfl) (rfl) dX11_copyHalf_26 ?_
  refine V.aload_n dX11_copyHalf_27 1 rfl ?_
  refine V.getf 0 3 rfl fa_X11_20_10 rfl dX11_copyHalf_28 ?_
  refine V.iconst (v := 4) dX11_copyHalf_31 (by decide) ?_
  refine V.iload_n dX11_copyHalf_32 3 rfl ?_
  refine V.imul dX11_copyHalf_33 ?_
  refine V.topc (v := 4) (by decide) ?_
  refine V.iload_n dX11_copyHalf_34 0 rfl ?_
  refine V.iadd dX11_copyHalf_35 ?_
  refine V.topc (v := 6) (by decide) ?_
  refine V.aload_n dX11_copyHalf_36 1 rfl ?_
  refine V.getf 0 3 rfl fa_X11_20_10 rfl dX11_copyHalf_37 ?_
  refine V.iconst (v := 4) dX11_copyHalf_40 (by decide) ?_
  refine V.iload_n dX11_copyHalf_41 2 rfl ?_
  refine V.imul dX11_copyHalf_42 ?_
  refine V.topc (v := 0) (by decide) ?_
  refine V.iload_n dX11_copyHalf_43 0 rfl ?_
  refine V.iadd dX11_copyHalf_44 ?_
  refine V.topc (v := 2) (by decide) ?_
  refine V.iald 2 rfl (vin rfl) dX11_copyHalf_45 ?_
  refine V.topc (v := (Re 2)) (rfl) ?_
  refine V.iast (vw2 := [(o, ob 10 [.ref mw, .ref mk, .ref mt, .ref mr, .ref mki, .ref mso, .ref mst, .ref mpr, .ref msh, .ref mwa, .ref mpu, .ref mtx, .int ts, .int ma, .int bg, .int wr, .int cl, .int um, .ref mor, .ref mbo, .int mn, .ref tO, .ref tVi, .ref tSm, .int tm]), (mt, aI E 8 (upd (upd (upd Ti 4 (Ti 0)) 5 (Ti 1)) 6 (Ti 2))), (mr, aI E 8 (upd (upd (upd Re 4 (Re 0)) 5 (Re 1)) 6 (Re 2))), (mki, aI E 12 Ki), (mso, aI E 12 So), (mst, aI E 12 St), (mpr, aI E 12 Pr), (msh, aI E 2 Sh), (mwa, aI E 2 Wa), (mpu, aI E 2 Pu)]) 2 rfl (vin rfl) (rfl) dX11_copyHalf_46 ?_
  refine V.iinc (v := 3) (lv2 := [(3, .int 3), (0, .ref o), (1, .int 0), (2, .int 1)]) dX11_copyHalf_47 0 rfl (by decide) (by decide) rfl ?_
  refine V.goto (tgt := 2) dX11_copyHalf_50 (by decide) ?_
  refine V.iload_n dX11_copyHalf_2 0 rfl ?_
  refine V.iconst (v := 4) dX11_copyHalf_3 (by decide) ?_
  refine V.icmp_ge (tgt := 53) dX11_copyHalf_4 (by decide) (fun hc => absurd hc (by decide)) (fun _ => ?_)
  refine V.aload_n dX11_copyHalf_7 1 rfl ?_
  refine V.getf 0 2 rfl fa_X11_17_10 rfl dX11_copyHalf_8 ?_
  refine V.iconst (v := 4) dX11_copyHalf_11 (by decide) ?_
  refine V.iload_n dX11_copyHalf_12 3 rfl ?_
  refine V.imul dX11_copyHalf_13 ?_
  refine V.topc (v := 4) (by decide) ?_
  refine V.iload_n dX11_copyHalf_14 0 rfl ?_
  refine V.iadd dX11_copyHalf_15 ?_
  refine V.topc (v := 7) (by decide) ?_
  refine V.aload_n dX11_copyHalf_16 1 rfl ?_
  refine V.getf 0 2 rfl fa_X11_17_10 rfl dX11_copyHalf_17 ?_
  refine V.iconst (v := 4) dX11_copyHalf_20 (by decide) ?_
  refine V.iload_n dX11_copyHalf_21 2 rfl ?_
  refine V.imul dX11_copyHalf_22 ?_
  refine V.topc (v := 0) (by decide) ?_
  refine V.iload_n dX11_copyHalf_23 0 rfl ?_
  refine V.iadd dX11_copyHalf_24 ?_
  refine V.topc (v := 3) (by decide) ?_
  refine V.iald 1 rfl (vin rfl) dX11_copyHalf_25 ?_
  refine V.topc (v := (Ti 3)) (rfl) ?_
  refine V.iast (vw2 := [(o, ob 10 [.ref mw, .ref mk, .ref mt, .ref mr, .ref mki, .ref mso, .ref mst, .ref mpr, .ref msh, .ref mwa, .ref mpu, .ref mtx, .int ts, .int ma, .int bg, .int wr, .int cl, .int um, .ref mor, .ref mbo, .int mn, .ref tO, .ref tVi, .ref tSm, .int tm]), (mt, aI E 8 (upd (upd (upd (upd Ti 4 (Ti 0)) 5 (Ti 1)) 6 (Ti 2)) 7 (Ti 3))), (mr, aI E 8 (upd (upd (upd Re 4 (Re 0)) 5 (Re 1)) 6 (Re 2))), (mki, aI E 12 Ki), (mso, aI E 12 So), (mst, aI E 12 St), (mpr, aI E 12 Pr), (msh, aI E 2 Sh), (mwa, aI E 2 Wa), (mpu, aI E 2 Pu)]) 1 rfl (vin rfl) (rfl) dX11_copyHalf_26 ?_
  refine V.aload_n dX11_copyHalf_27 1 rfl ?_
  refine V.getf 0 3 rfl fa_X11_20_10 rfl dX11_copyHalf_28 ?_
  refine V.iconst (v := 4) dX11_copyHalf_31 (by decide) ?_
  refine V.iload_n dX11_copyHalf_32 3 rfl ?_
  refine V.imul dX11_copyHalf_33 ?_
  refine V.topc (v := 4) (by decide) ?_
  refine V.iload_n dX11_copyHalf_34 0 rfl ?_
  refine V.iadd dX11_copyHalf_35 ?_
  refine V.topc (v := 7) (by decide) ?_
  refine V.aload_n dX11_copyHalf_36 1 rfl ?_
  refine V.getf 0 3 rfl fa_X11_20_10 rfl dX11_copyHalf_37 ?_
  refine V.iconst (v := 4) dX11_copyHalf_40 (by decide) ?_
  refine V.iload_n dX11_copyHalf_41 2 rfl ?_
  refine V.imul dX11_copyHalf_42 ?_
  refine V.topc (v := 0) (by decide) ?_
  refine V.iload_n dX11_copyHalf_43 0 rfl ?_
  refine V.iadd dX11_copyHalf_44 ?_
  refine V.topc (v := 3) (by decide) ?_
  refine V.iald 2 rfl (vin rfl) dX11_copyHalf_45 ?_
  refine V.topc (v := (Re 3)) (rfl) ?_
  refine V.iast (vw2 := [(o, ob 10 [.ref mw, .ref mk, .ref mt, .ref mr, .ref mki, .ref mso, .ref mst, .ref mpr, .ref msh, .ref mwa, .ref mpu, .ref mtx, .int ts, .int ma, .int bg, .int wr, .int cl, .int um, .ref mor, .ref mbo, .int mn, .ref tO, .ref tVi, .ref tSm, .int tm]), (mt, aI E 8 (upd (upd (upd (upd Ti 4 (Ti 0)) 5 (Ti 1)) 6 (Ti 2)) 7 (Ti 3))), (mr, aI E 8 (upd (upd (upd (upd Re 4 (Re 0)) 5 (Re 1)) 6 (Re 2)) 7 (Re 3))), (mki, aI E 12 Ki), (mso, aI E 12 So), (mst, aI E 12 St), (mpr, aI E 12 Pr), (msh, aI E 2 Sh), (mwa, aI E 2 Wa), (mpu, aI E 2 Pu)]) 2 rfl (vin rfl) (rfl) dX11_copyHalf_46 ?_
  refine V.iinc (v := 4) (lv2 := [(3, .int 4), (0, .ref o), (1, .int 0), (2, .int 1)]) dX11_copyHalf_47 0 rfl (by decide) (by decide) rfl ?_
  refine V.goto (tgt := 2) dX11_copyHalf_50 (by decide) ?_
  refine V.iload_n dX11_copyHalf_2 0 rfl ?_
  refine V.iconst (v := 4) dX11_copyHalf_3 (by decide) ?_
  refine V.icmp_ge (tgt := 53) dX11_copyHalf_4 (by decide) (fun _ => ?_) (fun hc => absurd (by decide) hc)
  refine V.iconst (v := 0) dX11_copyHalf_53 (by decide) ?_
  refine V.istore_n (lv2 := [(3, .int 0), (0, .ref o), (1, .int 0), (2, .int 1)]) dX11_copyHalf_54 rfl (by decide) rfl ?_
  refine V.iload_n dX11_copyHalf_55 0 rfl ?_
  refine V.bipush (v := 6) dX11_copyHalf_56 (by decide) ?_
  refine V.icmp_ge (tgt := 155) dX11_copyHalf_58 (by decide) (fun hc => absurd hc (by decide)) (fun _ => ?_)
  refine V.aload_n dX11_copyHalf_61 1 rfl ?_
  refine V.getf 0 4 rfl fa_X11_23_10 rfl dX11_copyHalf_62 ?_
  refine V.bipush (v := 6) dX11_copyHalf_65 (by decide) ?_
  refine V.iload_n dX11_copyHalf_67 3 rfl ?_
  refine V.imul dX11_copyHalf_68 ?_
  refine V.topc (v := 6) (by decide) ?_
  refine V.iload_n dX11_copyHalf_69 0 rfl ?_
  refine V.iadd dX11_copyHalf_70 ?_
  refine V.topc (v := 6) (by decide) ?_
  refine V.aload_n dX11_copyHalf_71 1 rfl ?_
  refine V.getf 0 4 rfl fa_X11_23_10 rfl dX11_copyHalf_72 ?_
  refine V.bipush (v := 6) dX11_copyHalf_75 (by decide) ?_
  refine V.iload_n dX11_copyHalf_77 2 rfl ?_
  refine V.imul dX11_copyHalf_78 ?_
  refine V.topc (v := 0) (by decide) ?_
  refine V.iload_n dX11_copyHalf_79 0 rfl ?_
  refine V.iadd dX11_copyHalf_80 ?_
  refine V.topc (v := 0) (by decide) ?_
  refine V.iald 3 rfl (vin rfl) dX11_copyHalf_81 ?_
  refine V.topc (v := (Ki 0)) (rfl) ?_
  refine V.iast (vw2 := [(o, ob 10 [.ref mw, .ref mk, .ref mt, .ref mr, .ref mki, .ref mso, .ref mst, .ref mpr, .ref msh, .ref mwa, .ref mpu, .ref mtx, .int ts, .int ma, .int bg, .int wr, .int cl, .int um, .ref mor, .ref mbo, .int mn, .ref tO, .ref tVi, .ref tSm, .int tm]), (mt, aI E 8 (upd (upd (upd (upd Ti 4 (Ti 0)) 5 (Ti 1)) 6 (Ti 2)) 7 (Ti 3))), (mr, aI E 8 (upd (upd (upd (upd Re 4 (Re 0)) 5 (Re 1)) 6 (Re 2)) 7 (Re 3))), (mki, aI E 12 (upd Ki 6 (Ki 0))), (mso, aI E 12 So), (mst, aI E 12 St), (mpr, aI E 12 Pr), (msh, aI E 2 Sh), (mwa, aI E 2 Wa), (mpu, aI E 2 Pu)]) 3 rfl (vin rfl) (rfl) dX11_copyHalf_82 ?_
  refine V.aload_n dX11_copyHalf_83 1 rfl ?_
  refine V.getf 0 5 rfl fa_X11_26_10 rfl dX11_copyHalf_84 ?_
  refine V.bipush (v := 6) dX11_copyHalf_87 (by decide) ?_
  refine V.iload_n dX11_copyHalf_89 3 rfl ?_
  refine V.imul dX11_copyHalf_90 ?_
  refine V.topc (v := 6) (by decide) ?_
  refine V.iload_n dX11_copyHalf_91 0 rfl ?_
  refine V.iadd dX11_copyHalf_92 ?_
  refine V.topc (v := 6) (by decide) ?_
  refine V.aload_n dX11_copyHalf_93 1 rfl ?_
  refine V.getf 0 5 rfl fa_X11_26_10 rfl dX11_copyHalf_94 ?_
  refine V.bipush (v := 6) dX11_copyHalf_97 (by decide) ?_
  refine V.iload_n dX11_copyHalf_99 2 rfl ?_
  refine V.imul dX11_copyHalf_100 ?_
  refine V.topc (v := 0) (by decide) ?_
  refine V.iload_n dX11_copyHalf_101 0 rfl ?_
  refine V.iadd dX11_copyHalf_102 ?_
  refine V.topc (v := 0) (by decide) ?_
  refine V.iald 4 rfl (vin rfl) dX11_copyHalf_103 ?_
  refine V.topc (v := (So 0)) (rfl) ?_
  refine V.iast (vw2 := [(o, ob 10 [.ref mw, .ref mk, .ref mt, .ref mr, .ref mki, .ref mso, .ref mst, .ref mpr, .ref msh, .ref mwa, .ref mpu, .ref mtx, .int ts, .int ma, .int bg, .int wr, .int cl, .int um, .ref mor, .ref mbo, .int mn, .ref tO, .ref tVi, .ref tSm, .int tm]), (mt, aI E 8 (upd (upd (upd (upd Ti 4 (Ti 0)) 5 (Ti 1)) 6 (Ti 2)) 7 (Ti 3))), (mr, aI E 8 (upd (upd (upd (upd Re 4 (Re 0)) 5 (Re 1)) 6 (Re 2)) 7 (Re 3))), (mki, aI E 12 (upd Ki 6 (Ki 0))), (mso, aI E 12 (upd So 6 (So 0))), (mst, aI E 12 St), (mpr, aI E 12 Pr), (msh, aI E 2 Sh), (mwa, aI E 2 Wa), (mpu, aI E 2 Pu)]) 4 rfl (vin rfl) (rfl) dX11_copyHalf_104 ?_
  refine V.aload_n dX11_copyHalf_105 1 rfl ?_
  refine V.getf 0 6 rfl fa_X11_29_10 rfl dX11_copyHalf_106 ?_
  refine V.bipush (v := 6) dX11_copyHalf_109 (by decide) ?_
  refine V.iload_n dX11_copyHalf_111 3 rfl ?_
  refine V.imul dX11_copyHalf_112 ?_
  refine V.topc (v := 6) (by decide) ?_
  refine V.iload_n dX11_copyHalf_113 0 rfl ?_
  refine V.iadd dX11_copyHalf_114 ?_
  refine V.topc (v := 6) (by decide) ?_
  refine V.aload_n dX11_copyHalf_115 1 rfl ?_
  refine V.getf 0 6 rfl fa_X11_29_10 rfl dX11_copyHalf_116 ?_
  refine V.bipush (v := 6) dX11_copyHalf_119 (by decide) ?_
  refine V.iload_n dX11_copyHalf_121 2 rfl ?_
  refine V.imul dX11_copyHalf_122 ?_
  refine V.topc (v := 0) (by decide) ?_
  refine V.iload_n dX11_copyHalf_123 0 rfl ?_
  refine V.iadd dX11_copyHalf_124 ?_
  refine V.topc (v := 0) (by decide) ?_
  refine V.iald 5 rfl (vin rfl) dX11_copyHalf_125 ?_
  refine V.topc (v := (St 0)) (rfl) ?_
  refine V.iast (vw2 := [(o, ob 10 [.ref mw, .ref mk, .ref mt, .ref mr, .ref mki, .ref mso, .ref mst, .ref mpr, .ref msh, .ref mwa, .ref mpu, .ref mtx, .int ts, .int ma, .int bg, .int wr, .int cl, .int um, .ref mor, .ref mbo, .int mn, .ref tO, .ref tVi, .ref tSm, .int tm]), (mt, aI E 8 (upd (upd (upd (upd Ti 4 (Ti 0)) 5 (Ti 1)) 6 (Ti 2)) 7 (Ti 3))), (mr, aI E 8 (upd (upd (upd (upd Re 4 (Re 0)) 5 (Re 1)) 6 (Re 2)) 7 (Re 3))), (mki, aI E 12 (upd Ki 6 (Ki 0))), (mso, aI E 12 (upd So 6 (So 0))), (mst, aI E 12 (upd St 6 (St 0))), (mpr, aI E 12 Pr), (msh, aI E 2 Sh), (mwa, aI E 2 Wa), (mpu, aI E 2 Pu)]) 5 rfl (vin rfl) (rfl) dX11_copyHalf_126 ?_
  refine V.aload_n dX11_copyHalf_127 1 rfl ?_
  refine V.getf 0 7 rfl fa_X11_32_10 rfl dX11_copyHalf_128 ?_
  refine V.bipush (v := 6) dX11_copyHalf_131 (by decide) ?_
  refine V.iload_n dX11_copyHalf_133 3 rfl ?_
  refine V.imul dX11_copyHalf_134 ?_
  refine V.topc (v := 6) (by decide) ?_
  refine V.iload_n dX11_copyHalf_135 0 rfl ?_
  refine V.iadd dX11_copyHalf_136 ?_
  refine V.topc (v := 6) (by decide) ?_
  refine V.aload_n dX11_copyHalf_137 1 rfl ?_
  refine V.getf 0 7 rfl fa_X11_32_10 rfl dX11_copyHalf_138 ?_
  refine V.bipush (v := 6) dX11_copyHalf_141 (by decide) ?_
  refine V.iload_n dX11_copyHalf_143 2 rfl ?_
  refine V.imul dX11_copyHalf_144 ?_
  refine V.topc (v := 0) (by decide) ?_
  refine V.iload_n dX11_copyHalf_145 0 rfl ?_
  refine V.iadd dX11_copyHalf_146 ?_
  refine V.topc (v := 0) (by decide) ?_
  refine V.iald 6 rfl (vin rfl) dX11_copyHalf_147 ?_
  refine V.topc (v := (Pr 0)) (rfl) ?_
  refine V.iast (vw2 := [(o, ob 10 [.ref mw, .ref mk, .ref mt, .ref mr, .ref mki, .ref mso, .ref mst, .ref mpr, .ref msh, .ref mwa, .ref mpu, .ref mtx, .int ts, .int ma, .int bg, .int wr, .int cl, .int um, .ref mor, .ref mbo, .int mn, .ref tO, .ref tVi, .ref tSm, .int tm]), (mt, aI E 8 (upd (upd (upd (upd Ti 4 (Ti 0)) 5 (Ti 1)) 6 (Ti 2)) 7 (Ti 3))), (mr, aI E 8 (upd (upd (upd (upd Re 4 (Re 0)) 5 (Re 1)) 6 (Re 2)) 7 (Re 3))), (mki, aI E 12 (upd Ki 6 (Ki 0))), (mso, aI E 12 (upd So 6 (So 0))), (mst, aI E 12 (upd St 6 (St 0))), (mpr, aI E 12 (upd Pr 6 (Pr 0))), (msh, aI E 2 Sh), (mwa, aI E 2 Wa), (mpu, aI E 2 Pu)]) 6 rfl (vin rfl) (rfl) dX11_copyHalf_148 ?_
  refine V.iinc (v := 1) (lv2 := [(3, .int 1), (0, .ref o), (1, .int 0), (2, .int 1)]) dX11_copyHalf_149 0 rfl (by decide) (by decide) rfl ?_
  refine V.goto (tgt := 55) dX11_copyHalf_152 (by decide) ?_
  refine V.iload_n dX11_copyHalf_55 0 rfl ?_
  refine V.bipush (v := 6) dX11_copyHalf_56 (by decide) ?_
  refine V.icmp_ge (tgt := 155) dX11_copyHalf_58 (by decide) (fun hc => absurd hc (by decide)) (fun _ => ?_)
  refine V.aload_n dX11_copyHalf_61 1 rfl ?_
  refine V.getf 0 4 rfl fa_X11_23_10 rfl dX11_copyHalf_62 ?_
  refine V.bipush (v := 6) dX11_copyHalf_65 (by decide) ?_
  refine V.iload_n dX11_copyHalf_67 3 rfl ?_
  refine V.imul dX11_copyHalf_68 ?_
  refine V.topc (v := 6) (by decide) ?_
  refine V.iload_n dX11_copyHalf_69 0 rfl ?_
  refine V.iadd dX11_copyHalf_70 ?_
  refine V.topc (v := 7) (by decide) ?_
  refine V.aload_n dX11_copyHalf_71 1 rfl ?_
  refine V.getf 0 4 rfl fa_X11_23_10 rfl dX11_copyHalf_72 ?_
  refine V.bipush (v := 6) dX11_copyHalf_75 (by decide) ?_
  refine V.iload_n dX11_copyHalf_77 2 rfl ?_
  refine V.imul dX11_copyHalf_78 ?_
  refine V.topc (v := 0) (by decide) ?_
  refine V.iload_n dX11_copyHalf_79 0 rfl ?_
  refine V.iadd dX11_copyHalf_80 ?_
  refine V.topc (v := 1) (by decide) ?_
  refine V.iald 3 rfl (vin rfl) dX11_copyHalf_81 ?_
  refine V.topc (v := (Ki 1)) (rfl) ?_
  refine V.iast (vw2 := [(o, ob 10 [.ref mw, .ref mk, .ref mt, .ref mr, .ref mki, .ref mso, .ref mst, .ref mpr, .ref msh, .ref mwa, .ref mpu, .ref mtx, .int ts, .int ma, .int bg, .int wr, .int cl, .int um, .ref mor, .ref mbo, .int mn, .ref tO, .ref tVi, .ref tSm, .int tm]), (mt, aI E 8 (upd (upd (upd (upd Ti 4 (Ti 0)) 5 (Ti 1)) 6 (Ti 2)) 7 (Ti 3))), (mr, aI E 8 (upd (upd (upd (upd Re 4 (Re 0)) 5 (Re 1)) 6 (Re 2)) 7 (Re 3))), (mki, aI E 12 (upd (upd Ki 6 (Ki 0)) 7 (Ki 1))), (mso, aI E 12 (upd So 6 (So 0))), (mst, aI E 12 (upd St 6 (St 0))), (mpr, aI E 12 (upd Pr 6 (Pr 0))), (msh, aI E 2 Sh), (mwa, aI E 2 Wa), (mpu, aI E 2 Pu)]) 3 rfl (vin rfl) (rfl) dX11_copyHalf_82 ?_
  refine V.aload_n dX11_copyHalf_83 1 rfl ?_
  refine V.getf 0 5 rfl fa_X11_26_10 rfl dX11_copyHalf_84 ?_
  refine V.bipush (v := 6) dX11_copyHalf_87 (by decide) ?_
  refine V.iload_n dX11_copyHalf_89 3 rfl ?_
  refine V.imul dX11_copyHalf_90 ?_
  refine V.topc (v := 6) (by decide) ?_
  refine V.iload_n dX11_copyHalf_91 0 rfl ?_
  refine V.iadd dX11_copyHalf_92 ?_
  refine V.topc (v := 7) (by decide) ?_
  refine V.aload_n dX11_copyHalf_93 1 rfl ?_
  refine V.getf 0 5 rfl fa_X11_26_10 rfl dX11_copyHalf_94 ?_
  refine V.bipush (v := 6) dX11_copyHalf_97 (by decide) ?_
  refine V.iload_n dX11_copyHalf_99 2 rfl ?_
  refine V.imul dX11_copyHalf_100 ?_
  refine V.topc (v := 0) (by decide) ?_
  refine V.iload_n dX11_copyHalf_101 0 rfl ?_
  refine V.iadd dX11_copyHalf_102 ?_
  refine V.topc (v := 1) (by decide) ?_
  refine V.iald 4 rfl (vin rfl) dX11_copyHalf_103 ?_
  refine V.topc (v := (So 1)) (rfl) ?_
  refine V.iast (vw2 := [(o, ob 10 [.ref mw, .ref mk, .ref mt, .ref mr, .ref mki, .ref mso, .ref mst, .ref mpr, .ref msh, .ref mwa, .ref mpu, .ref mtx, .int ts, .int ma, .int bg, .int wr, .int cl, .int um, .ref mor, .ref mbo, .int mn, .ref tO, .ref tVi, .ref tSm, .int tm]), (mt, aI E 8 (upd (upd (upd (upd Ti 4 (Ti 0)) 5 (Ti 1)) 6 (Ti 2)) 7 (Ti 3))), (mr, aI E 8 (upd (upd (upd (upd Re 4 (Re 0)) 5 (Re 1)) 6 (Re 2)) 7 (Re 3))), (mki, aI E 12 (upd (upd Ki 6 (Ki 0)) 7 (Ki 1))), (mso, aI E 12 (upd (upd So 6 (So 0)) 7 (So 1))), (mst, aI E 12 (upd St 6 (St 0))), (mpr, aI E 12 (upd Pr 6 (Pr 0))), (msh, aI E 2 Sh), (mwa, aI E 2 Wa), (mpu, aI E 2 Pu)]) 4 rfl (vin rfl) (rfl) dX11_copyHalf_104 ?_
  refine V.aload_n dX11_copyHalf_105 1 rfl ?_
  refine V.getf 0 6 rfl fa_X11_29_10 rfl dX11_copyHalf_106 ?_
  refine V.bipush (v := 6) dX11_copyHalf_109 (by decide) ?_
  refine V.iload_n dX11_copyHalf_111 3 rfl ?_
  refine V.imul dX11_copyHalf_112 ?_
  refine V.topc (v := 6) (by decide) ?_
  refine V.iload_n dX11_copyHalf_113 0 rfl ?_
  refine V.iadd dX11_copyHalf_114 ?_
  refine V.topc (v := 7) (by decide) ?_
  refine V.aload_n dX11_copyHalf_115 1 rfl ?_
  refine V.getf 0 6 rfl fa_X11_29_10 rfl dX11_copyHalf_116 ?_
  refine V.bipush (v := 6) dX11_copyHalf_119 (by decide) ?_
  refine V.iload_n dX11_copyHalf_121 2 rfl ?_
  refine V.imul dX11_copyHalf_122 ?_
  refine V.topc (v := 0) (by decide) ?_
  refine V.iload_n dX11_copyHalf_123 0 rfl ?_
  refine V.iadd dX11_copyHalf_124 ?_
  refine V.topc (v := 1) (by decide) ?_
  refine V.iald 5 rfl (vin rfl) dX11_copyHalf_125 ?_
  refine V.topc (v := (St 1)) (rfl) ?_
  refine V.iast (vw2 := [(o, ob 10 [.ref mw, .ref mk, .ref mt, .ref mr, .ref mki, .ref mso, .ref mst, .ref mpr, .ref msh, .ref mwa, .ref mpu, .ref mtx, .int ts, .int ma, .int bg, .int wr, .int cl, .int um, .ref mor, .ref mbo, .int mn, .ref tO, .ref tVi, .ref tSm, .int tm]), (mt, aI E 8 (upd (upd (upd (upd Ti 4 (Ti 0)) 5 (Ti 1)) 6 (Ti 2)) 7 (Ti 3))), (mr, aI E 8 (upd (upd (upd (upd Re 4 (Re 0)) 5 (Re 1)) 6 (Re 2)) 7 (Re 3))), (mki, aI E 12 (upd (upd Ki 6 (Ki 0)) 7 (Ki 1))), (mso, aI E 12 (upd (upd So 6 (So 0)) 7 (So 1))), (mst, aI E 12 (upd (upd St 6 (St 0)) 7 (St 1))), (mpr, aI E 12 (upd Pr 6 (Pr 0))), (msh, aI E 2 Sh), (mwa, aI E 2 Wa), (mpu, aI E 2 Pu)]) 5 rfl (vin rfl) (rfl) dX11_copyHalf_126 ?_
  refine V.aload_n dX11_copyHalf_127 1 rfl ?_
  refine V.getf 0 7 rfl fa_X11_32_10 rfl dX11_copyHalf_128 ?_
  refine V.bipush (v := 6) dX11_copyHalf_131 (by decide) ?_
  refine V.iload_n dX11_copyHalf_133 3 rfl ?_
  refine V.imul dX11_copyHalf_134 ?_
  refine V.topc (v := 6) (by decide) ?_
  refine V.iload_n dX11_copyHalf_135 0 rfl ?_
  refine V.iadd dX11_copyHalf_136 ?_
  refine V.topc (v := 7) (by decide) ?_
  refine V.aload_n dX11_copyHalf_137 1 rfl ?_
  refine V.getf 0 7 rfl fa_X11_32_10 rfl dX11_copyHalf_138 ?_
  refine V.bipush (v := 6) dX11_copyHalf_141 (by decide) ?_
  refine V.iload_n dX11_copyHalf_143 2 rfl ?_
  refine V.imul dX11_copyHalf_144 ?_
  refine V.topc (v := 0) (by decide) ?_
  refine V.iload_n dX11_copyHalf_145 0 rfl ?_
  refine V.iadd dX11_copyHalf_146 ?_
  refine V.topc (v := 1) (by decide) ?_
  refine V.iald 6 rfl (vin rfl) dX11_copyHalf_147 ?_
  refine V.topc (v := (Pr 1)) (rfl) ?_
  refine V.iast (vw2 := [(o, ob 10 [.ref mw, .ref mk, .ref mt, .ref mr, .ref mki, .ref mso, .ref mst, .ref mpr, .ref msh, .ref mwa, .ref mpu, .ref mtx, .int ts, .int ma, .int bg, .int wr, .int cl, .int um, .ref mor, .ref mbo, .int mn, .ref tO, .ref tVi, .ref tSm, .int tm]), (mt, aI E 8 (upd (upd (upd (upd Ti 4 (Ti 0)) 5 (Ti 1)) 6 (Ti 2)) 7 (Ti 3))), (mr, aI E 8 (upd (upd (upd (upd Re 4 (Re 0)) 5 (Re 1)) 6 (Re 2)) 7 (Re 3))), (mki, aI E 12 (upd (upd Ki 6 (Ki 0)) 7 (Ki 1))), (mso, aI E 12 (upd (upd So 6 (So 0)) 7 (So 1))), (mst, aI E 12 (upd (upd St 6 (St 0)) 7 (St 1))), (mpr, aI E 12 (upd (upd Pr 6 (Pr 0)) 7 (Pr 1))), (msh, aI E 2 Sh), (mwa, aI E 2 Wa), (mpu, aI E 2 Pu)]) 6 rfl (vin rfl) (rfl) dX11_copyHalf_148 ?_
  refine V.iinc (v := 2) (lv2 := [(3, .int 2), (0, .ref o), (1, .int 0), (2, .int 1)]) dX11_copyHalf_149 0 rfl (by decide) (by decide) rfl ?_
  refine V.goto (tgt := 55) dX11_copyHalf_152 (by decide) ?_
  refine V.iload_n dX11_copyHalf_55 0 rfl ?_
  refine V.bipush (v := 6) dX11_copyHalf_56 (by decide) ?_
  refine V.icmp_ge (tgt := 155) dX11_copyHalf_58 (by decide) (fun hc => absurd hc (by decide)) (fun _ => ?_)
  refine V.aload_n dX11_copyHalf_61 1 rfl ?_
  refine V.getf 0 4 rfl fa_X11_23_10 rfl dX11_copyHalf_62 ?_
  refine V.bipush (v := 6) dX11_copyHalf_65 (by decide) ?_
  refine V.iload_n dX11_copyHalf_67 3 rfl ?_
  refine V.imul dX11_copyHalf_68 ?_
  refine V.topc (v := 6) (by decide) ?_
  refine V.iload_n dX11_copyHalf_69 0 rfl ?_
  refine V.iadd dX11_copyHalf_70 ?_
  refine V.topc (v := 8) (by decide) ?_
  refine V.aload_n dX11_copyHalf_71 1 rfl ?_
  refine V.getf 0 4 rfl fa_X11_23_10 rfl dX11_copyHalf_72 ?_
  refine V.bipush (v := 6) dX11_copyHalf_75 (by decide) ?_
  refine V.iload_n dX11_copyHalf_77 2 rfl ?_
  refine V.imul dX11_copyHalf_78 ?_
  refine V.topc (v := 0) (by decide) ?_
  refine V.iload_n dX11_copyHalf_79 0 rfl ?_
  refine V.iadd dX11_copyHalf_80 ?_
  refine V.topc (v := 2) (by decide) ?_
  refine V.iald 3 rfl (vin rfl) dX11_copyHalf_81 ?_
  refine V.topc (v := (Ki 2)) (rfl) ?_
  refine V.iast (vw2 := [(o, ob 10 [.ref mw, .ref mk, .ref mt, .ref mr, .ref mki, .ref mso, .ref mst, .ref mpr, .ref msh, .ref mwa, .ref mpu, .ref mtx, .int ts, .int ma, .int bg, .int wr, .int cl, .int um, .ref mor, .ref mbo, .int mn, .ref tO, .ref tVi, .ref tSm, .int tm]), (mt, aI E 8 (upd (upd (upd (upd Ti 4 (Ti 0)) 5 (Ti 1)) 6 (Ti 2)) 7 (Ti 3))), (mr, aI E 8 (upd (upd (upd (upd Re 4 (Re 0)) 5 (Re 1)) 6 (Re 2)) 7 (Re 3))), (mki, aI E 12 (upd (upd (upd Ki 6 (Ki 0)) 7 (Ki 1)) 8 (Ki 2))), (mso, aI E 12 (upd (upd So 6 (So 0)) 7 (So 1))), (mst, aI E 12 (upd (upd St 6 (St 0)) 7 (St 1))), (mpr, aI E 12 (upd (upd Pr 6 (Pr 0)) 7 (Pr 1))), (msh, aI E 2 Sh), (mwa, aI E 2 Wa), (mpu, aI E 2 Pu)]) 3 rfl (vin rfl) (rfl) dX11_copyHalf_82 ?_
  refine V.aload_n dX11_copyHalf_83 1 rfl ?_
  refine V.getf 0 5 rfl fa_X11_26_10 rfl dX11_copyHalf_84 ?_
  refine V.bipush (v := 6) dX11_copyHalf_87 (by decide) ?_
  refine V.iload_n dX11_copyHalf_89 3 rfl ?_
  refine V.imul dX11_copyHalf_90 ?_
  refine V.topc (v := 6) (by decide) ?_
  refine V.iload_n dX11_copyHalf_91 0 rfl ?_
  refine V.iadd dX11_copyHalf_92 ?_
  refine V.topc (v := 8) (by decide) ?_
  refine V.aload_n dX11_copyHalf_93 1 rfl ?_
  refine V.getf 0 5 rfl fa_X11_26_10 rfl dX11_copyHalf_94 ?_
  refine V.bipush (v := 6) dX11_copyHalf_97 (by decide) ?_
  refine V.iload_n dX11_copyHalf_99 2 rfl ?_
  refine V.imul dX11_copyHalf_100 ?_
  refine V.topc (v := 0) (by decide) ?_
  refine V.iload_n dX11_copyHalf_101 0 rfl ?_
  refine V.iadd dX11_copyHalf_102 ?_
  refine V.topc (v := 2) (by decide) ?_
  refine V.iald 4 rfl (vin rfl) dX11_copyHalf_103 ?_
  refine V.topc (v := (So 2)) (rfl) ?_
  refine V.iast (vw2 := [(o, ob 10 [.ref mw, .ref mk, .ref mt, .ref mr, .ref mki, .ref mso, .ref mst, .ref mpr, .ref msh, .ref mwa, .ref mpu, .ref mtx, .int ts, .int ma, .int bg, .int wr, .int cl, .int um, .ref mor, .ref mbo, .int mn, .ref tO, .ref tVi, .ref tSm, .int tm]), (mt, aI E 8 (upd (upd (upd (upd Ti 4 (Ti 0)) 5 (Ti 1)) 6 (Ti 2)) 7 (Ti 3))), (mr, aI E 8 (upd (upd (upd (upd Re 4 (Re 0)) 5 (Re 1)) 6 (Re 2)) 7 (Re 3))), (mki, aI E 12 (upd (upd (upd Ki 6 (Ki 0)) 7 (Ki 1)) 8 (Ki 2))), (mso, aI E 12 (upd (upd (upd So 6 (So 0)) 7 (So 1)) 8 (So 2))), (mst, aI E 12 (upd (upd St 6 (St 0)) 7 (St 1))), (mpr, aI E 12 (upd (upd Pr 6 (Pr 0)) 7 (Pr 1))), (msh, aI E 2 Sh), (mwa, aI E 2 Wa), (mpu, aI E 2 Pu)]) 4 rfl (vin rfl) (rfl) dX11_copyHalf_104 ?_
  refine V.aload_n dX11_copyHalf_105 1 rfl ?_
  refine V.getf 0 6 rfl fa_X11_29_10 rfl dX11_copyHalf_106 ?_
  refine V.bipush (v := 6) dX11_copyHalf_109 (by decide) ?_
  refine V.iload_n dX11_copyHalf_111 3 rfl ?_
  refine V.imul dX11_copyHalf_112 ?_
  refine V.topc (v := 6) (by decide) ?_
  refine V.iload_n dX11_copyHalf_113 0 rfl ?_
  refine V.iadd dX11_copyHalf_114 ?_
  refine V.topc (v := 8) (by decide) ?_
  refine V.aload_n dX11_copyHalf_115 1 rfl ?_
  refine V.getf 0 6 rfl fa_X11_29_10 rfl dX11_copyHalf_116 ?_
  refine V.bipush (v := 6) dX11_copyHalf_119 (by decide) ?_
  refine V.iload_n dX11_copyHalf_121 2 rfl ?_
  refine V.imul dX11_copyHalf_122 ?_
  refine V.topc (v := 0) (by decide) ?_
  refine V.iload_n dX11_copyHalf_123 0 rfl ?_
  refine V.iadd dX11_copyHalf_124 ?_
  refine V.topc (v := 2) (by decide) ?_
  refine V.iald 5 rfl (vin rfl) dX11_copyHalf_125 ?_
  refine V.topc (v := (St 2)) (rfl) ?_
  refine V.iast (vw2 := [(o, ob 10 [.ref mw, .ref mk, .ref mt, .ref mr, .ref mki, .ref mso, .ref mst, .ref mpr, .ref msh, .ref mwa, .ref mpu, .ref mtx, .int ts, .int ma, .int bg, .int wr, .int cl, .int um, .ref mor, .ref mbo, .int mn, .ref tO, .ref tVi, .ref tSm, .int tm]), (mt, aI E 8 (upd (upd (upd (upd Ti 4 (Ti 0)) 5 (Ti 1)) 6 (Ti 2)) 7 (Ti 3))), (mr, aI E 8 (upd (upd (upd (upd Re 4 (Re 0)) 5 (Re 1)) 6 (Re 2)) 7 (Re 3))), (mki, aI E 12 (upd (upd (upd Ki 6 (Ki 0)) 7 (Ki 1)) 8 (Ki 2))), (mso, aI E 12 (upd (upd (upd So 6 (So 0)) 7 (So 1)) 8 (So 2))), (mst, aI E 12 (upd (upd (upd St 6 (St 0)) 7 (St 1)) 8 (St 2))), (mpr, aI E 12 (upd (upd Pr 6 (Pr 0)) 7 (Pr 1))), (msh, aI E 2 Sh), (mwa, aI E 2 Wa), (mpu, aI E 2 Pu)]) 5 rfl (vin rfl) (rfl) dX11_copyHalf_126 ?_
  refine V.aload_n dX11_copyHalf_127 1 rfl ?_
  refine V.getf 0 7 rfl fa_X11_32_10 rfl dX11_copyHalf_128 ?_
  refine V.bipush (v := 6) dX11_copyHalf_131 (by decide) ?_
  refine V.iload_n dX11_copyHalf_133 3 rfl ?_
  refine V.imul dX11_copyHalf_134 ?_
  refine V.topc (v := 6) (by decide) ?_
  refine V.iload_n dX11_copyHalf_135 0 rfl ?_
  refine V.iadd dX11_copyHalf_136 ?_
  refine V.topc (v := 8) (by decide) ?_
  refine V.aload_n dX11_copyHalf_137 1 rfl ?_
  refine V.getf 0 7 rfl fa_X11_32_10 rfl dX11_copyHalf_138 ?_
  refine V.bipush (v := 6) dX11_copyHalf_141 (by decide) ?_
  refine V.iload_n dX11_copyHalf_143 2 rfl ?_
  refine V.imul dX11_copyHalf_144 ?_
  refine V.topc (v := 0) (by decide) ?_
  refine V.iload_n dX11_copyHalf_145 0 rfl ?_
  refine V.iadd dX11_copyHalf_146 ?_
  refine V.topc (v := 2) (by decide) ?_
  refine V.iald 6 rfl (vin rfl) dX11_copyHalf_147 ?_
  refine V.topc (v := (Pr 2)) (rfl) ?_
  refine V.iast (vw2 := [(o, ob 10 [.ref mw, .ref mk, .ref mt, .ref mr, .ref mki, .ref mso, .ref mst, .ref mpr, .ref msh, .ref mwa, .ref mpu, .ref mtx, .int ts, .int ma, .int bg, .int wr, .int cl, .int um, .ref mor, .ref mbo, .int mn, .ref tO, .ref tVi, .ref tSm, .int tm]), (mt, aI E 8 (upd (upd (upd (upd Ti 4 (Ti 0)) 5 (Ti 1)) 6 (Ti 2)) 7 (Ti 3))), (mr, aI E 8 (upd (upd (upd (upd Re 4 (Re 0)) 5 (Re 1)) 6 (Re 2)) 7 (Re 3))), (mki, aI E 12 (upd (upd (upd Ki 6 (Ki 0)) 7 (Ki 1)) 8 (Ki 2))), (mso, aI E 12 (upd (upd (upd So 6 (So 0)) 7 (So 1)) 8 (So 2))), (mst, aI E 12 (upd (upd (upd St 6 (St 0)) 7 (St 1)) 8 (St 2))), (mpr, aI E 12 (upd (upd (upd Pr 6 (Pr 0)) 7 (Pr 1)) 8 (Pr 2))), (msh, aI E 2 Sh), (mwa, aI E 2 Wa), (mpu, aI E 2 Pu)]) 6 rfl (vin rfl) (rfl) dX11_copyHalf_148 ?_
  refine V.iinc (v := 3) (lv2 := [(3, .int 3), (0, .ref o), (1, .int 0), (2, .int 1)]) dX11_copyHalf_149 0 rfl (by decide) (by decide) rfl ?_
  refine V.goto (tgt := 55) dX11_copyHalf_152 (by decide) ?_
  refine V.iload_n dX11_copyHalf_55 0 rfl ?_
  refine V.bipush (v := 6) dX11_copyHalf_56 (by decide) ?_
  refine V.icmp_ge (tgt := 155) dX11_copyHalf_58 (by decide) (fun hc => absurd hc (by decide)) (fun _ => ?_)
  refine V.aload_n dX11_copyHalf_61 1 rfl ?_
  refine V.getf 0 4 rfl fa_X11_23_10 rfl dX11_copyHalf_62 ?_
  refine V.bipush (v := 6) dX11_copyHalf_65 (by decide) ?_
  refine V.iload_n dX11_copyHalf_67 3 rfl ?_
  refine V.imul dX11_copyHalf_68 ?_
  refine V.topc (v := 6) (by decide) ?_
  refine V.iload_n dX11_copyHalf_69 0 rfl ?_
  refine V.iadd dX11_copyHalf_70 ?_
  refine V.topc (v := 9) (by decide) ?_
  refine V.aload_n dX11_copyHalf_71 1 rfl ?_
  refine V.getf 0 4 rfl fa_X11_23_10 rfl dX11_copyHalf_72 ?_
  refine V.bipush (v := 6) dX11_copyHalf_75 (by decide) ?_
  refine V.iload_n dX11_copyHalf_77 2 rfl ?_
  refine V.imul dX11_copyHalf_78 ?_
  refine V.topc (v := 0) (by decide) ?_
  refine V.iload_n dX11_copyHalf_79 0 rfl ?_
  refine V.iadd dX11_copyHalf_80 ?_
  refine V.topc (v := 3) (by decide) ?_
  refine V.iald 3 rfl (vin rfl) dX11_copyHalf_81 ?_
  refine V.topc (v := (Ki 3)) (rfl) ?_
  refine V.iast (vw2 := [(o, ob 10 [.ref mw, .ref mk, .ref mt, .ref mr, .ref mki, .ref mso, .ref mst, .ref mpr, .ref msh, .ref mwa, .ref mpu, .ref mtx, .int ts, .int ma, .int bg, .int wr, .int cl, .int um, .ref mor, .ref mbo, .int mn, .ref tO, .ref tVi, .ref tSm, .int tm]), (mt, aI E 8 (upd (upd (upd (upd Ti 4 (Ti 0)) 5 (Ti 1)) 6 (Ti 2)) 7 (Ti 3))), (mr, aI E 8 (upd (upd (upd (upd Re 4 (Re 0)) 5 (Re 1)) 6 (Re 2)) 7 (Re 3))), (mki, aI E 12 (upd (upd (upd (upd Ki 6 (Ki 0)) 7 (Ki 1)) 8 (Ki 2)) 9 (Ki 3))), (mso, aI E 12 (upd (upd (upd So 6 (So 0)) 7 (So 1)) 8 (So 2))), (mst, aI E 12 (upd (upd (upd St 6 (St 0)) 7 (St 1)) 8 (St 2))), (mpr, aI E 12 (upd (upd (upd Pr 6 (Pr 0)) 7 (Pr 1)) 8 (Pr 2))), (msh, aI E 2 Sh), (mwa, aI E 2 Wa), (mpu, aI E 2 Pu)]) 3 rfl (vin rfl) (rfl) dX11_copyHalf_82 ?_
  refine V.aload_n dX11_copyHalf_83 1 rfl ?_
  refine V.getf 0 5 rfl fa_X11_26_10 rfl dX11_copyHalf_84 ?_
  refine V.bipush (v := 6) dX11_copyHalf_87 (by decide) ?_
  refine V.iload_n dX11_copyHalf_89 3 rfl ?_
  refine V.imul dX11_copyHalf_90 ?_
  refine V.topc (v := 6) (by decide) ?_
  refine V.iload_n dX11_copyHalf_91 0 rfl ?_
  refine V.iadd dX11_copyHalf_92 ?_
  refine V.topc (v := 9) (by decide) ?_
  refine V.aload_n dX11_copyHalf_93 1 rfl ?_
  refine V.getf 0 5 rfl fa_X11_26_10 rfl dX11_copyHalf_94 ?_
  refine V.bipush (v := 6) dX11_copyHalf_97 (by decide) ?_
  refine V.iload_n dX11_copyHalf_99 2 rfl ?_
  refine V.imul dX11_copyHalf_100 ?_
  refine V.topc (v := 0) (by decide) ?_
  refine V.iload_n dX11_copyHalf_101 0 rfl ?_
  refine V.iadd dX11_copyHalf_102 ?_
  refine V.topc (v := 3) (by decide) ?_
  refine V.iald 4 rfl (vin rfl) dX11_copyHalf_103 ?_
  refine V.topc (v := (So 3)) (rfl) ?_
  refine V.iast (vw2 := [(o, ob 10 [.ref mw, .ref mk, .ref mt, .ref mr, .ref mki, .ref mso, .ref mst, .ref mpr, .ref msh, .ref mwa, .ref mpu, .ref mtx, .int ts, .int ma, .int bg, .int wr, .int cl, .int um, .ref mor, .ref mbo, .int mn, .ref tO, .ref tVi, .ref tSm, .int tm]), (mt, aI E 8 (upd (upd (upd (upd Ti 4 (Ti 0)) 5 (Ti 1)) 6 (Ti 2)) 7 (Ti 3))), (mr, aI E 8 (upd (upd (upd (upd Re 4 (Re 0)) 5 (Re 1)) 6 (Re 2)) 7 (Re 3))), (mki, aI E 12 (upd (upd (upd (upd Ki 6 (Ki 0)) 7 (Ki 1)) 8 (Ki 2)) 9 (Ki 3))), (mso, aI E 12 (upd (upd (upd (upd So 6 (So 0)) 7 (So 1)) 8 (So 2)) 9 (So 3))), (mst, aI E 12 (upd (upd (upd St 6 (St 0)) 7 (St 1)) 8 (St 2))), (mpr, aI E 12 (upd (upd (upd Pr 6 (Pr 0)) 7 (Pr 1)) 8 (Pr 2))), (msh, aI E 2 Sh), (mwa, aI E 2 Wa), (mpu, aI E 2 Pu)]) 4 rfl (vin rfl) (rfl) dX11_copyHalf_104 ?_
  refine V.aload_n dX11_copyHalf_105 1 rfl ?_
  refine V.getf 0 6 rfl fa_X11_29_10 rfl dX11_copyHalf_106 ?_
  refine V.bipush (v := 6) dX11_copyHalf_109 (by decide) ?_
  refine V.iload_n dX11_copyHalf_111 3 rfl ?_
  refine V.imul dX11_copyHalf_112 ?_
  refine V.topc (v := 6) (by decide) ?_
  refine V.iload_n dX11_copyHalf_113 0 rfl ?_
  refine V.iadd dX11_copyHalf_114 ?_
  refine V.topc (v := 9) (by decide) ?_
  refine V.aload_n dX11_copyHalf_115 1 rfl ?_
  refine V.getf 0 6 rfl fa_X11_29_10 rfl dX11_copyHalf_116 ?_
  refine V.bipush (v := 6) dX11_copyHalf_119 (by decide) ?_
  refine V.iload_n dX11_copyHalf_121 2 rfl ?_
  refine V.imul dX11_copyHalf_122 ?_
  refine V.topc (v := 0) (by decide) ?_
  refine V.iload_n dX11_copyHalf_123 0 rfl ?_
  refine V.iadd dX11_copyHalf_124 ?_
  refine V.topc (v := 3) (by decide) ?_
  refine V.iald 5 rfl (vin rfl) dX11_copyHalf_125 ?_
  refine V.topc (v := (St 3)) (rfl) ?_
  refine V.iast (vw2 := [(o, ob 10 [.ref mw, .ref mk, .ref mt, .ref mr, .ref mki, .ref mso, .ref mst, .ref mpr, .ref msh, .ref mwa, .ref mpu, .ref mtx, .int ts, .int ma, .int bg, .int wr, .int cl, .int um, .ref mor, .ref mbo, .int mn, .ref tO, .ref tVi, .ref tSm, .int tm]), (mt, aI E 8 (upd (upd (upd (upd Ti 4 (Ti 0)) 5 (Ti 1)) 6 (Ti 2)) 7 (Ti 3))), (mr, aI E 8 (upd (upd (upd (upd Re 4 (Re 0)) 5 (Re 1)) 6 (Re 2)) 7 (Re 3))), (mki, aI E 12 (upd (upd (upd (upd Ki 6 (Ki 0)) 7 (Ki 1)) 8 (Ki 2)) 9 (Ki 3))), (mso, aI E 12 (upd (upd (upd (upd So 6 (So 0)) 7 (So 1)) 8 (So 2)) 9 (So 3))), (mst, aI E 12 (upd (upd (upd (upd St 6 (St 0)) 7 (St 1)) 8 (St 2)) 9 (St 3))), (mpr, aI E 12 (upd (upd (upd Pr 6 (Pr 0)) 7 (Pr 1)) 8 (Pr 2))), (msh, aI E 2 Sh), (mwa, aI E 2 Wa), (mpu, aI E 2 Pu)]) 5 rfl (vin rfl) (rfl) dX11_copyHalf_126 ?_
  refine V.aload_n dX11_copyHalf_127 1 rfl ?_
  refine V.getf 0 7 rfl fa_X11_32_10 rfl dX11_copyHalf_128 ?_
  refine V.bipush (v := 6) dX11_copyHalf_131 (by decide) ?_
  refine V.iload_n dX11_copyHalf_133 3 rfl ?_
  refine V.imul dX11_copyHalf_134 ?_
  refine V.topc (v := 6) (by decide) ?_
  refine V.iload_n dX11_copyHalf_135 0 rfl ?_
  refine V.iadd dX11_copyHalf_136 ?_
  refine V.topc (v := 9) (by decide) ?_
  refine V.aload_n dX11_copyHalf_137 1 rfl ?_
  refine V.getf 0 7 rfl fa_X11_32_10 rfl dX11_copyHalf_138 ?_
  refine V.bipush (v := 6) dX11_copyHalf_141 (by decide) ?_
  refine V.iload_n dX11_copyHalf_143 2 rfl ?_
  refine V.imul dX11_copyHalf_144 ?_
  refine V.topc (v := 0) (by decide) ?_
  refine V.iload_n dX11_copyHalf_145 0 rfl ?_
  refine V.iadd dX11_copyHalf_146 ?_
  refine V.topc (v := 3) (by decide) ?_
  refine V.iald 6 rfl (vin rfl) dX11_copyHalf_147 ?_
  refine V.topc (v := (Pr 3)) (rfl) ?_
  refine V.iast (vw2 := [(o, ob 10 [.ref mw, .ref mk, .ref mt, .ref mr, .ref mki, .ref mso, .ref mst, .ref mpr, .ref msh, .ref mwa, .ref mpu, .ref mtx, .int ts, .int ma, .int bg, .int wr, .int cl, .int um, .ref mor, .ref mbo, .int mn, .ref tO, .ref tVi, .ref tSm, .int tm]), (mt, aI E 8 (upd (upd (upd (upd Ti 4 (Ti 0)) 5 (Ti 1)) 6 (Ti 2)) 7 (Ti 3))), (mr, aI E 8 (upd (upd (upd (upd Re 4 (Re 0)) 5 (Re 1)) 6 (Re 2)) 7 (Re 3))), (mki, aI E 12 (upd (upd (upd (upd Ki 6 (Ki 0)) 7 (Ki 1)) 8 (Ki 2)) 9 (Ki 3))), (mso, aI E 12 (upd (upd (upd (upd So 6 (So 0)) 7 (So 1)) 8 (So 2)) 9 (So 3))), (mst, aI E 12 (upd (upd (upd (upd St 6 (St 0)) 7 (St 1)) 8 (St 2)) 9 (St 3))), (mpr, aI E 12 (upd (upd (upd (upd Pr 6 (Pr 0)) 7 (Pr 1)) 8 (Pr 2)) 9 (Pr 3))), (msh, aI E 2 Sh), (mwa, aI E 2 Wa), (mpu, aI E 2 Pu)]) 6 rfl (vin rfl) (rfl) dX11_copyHalf_148 ?_
  refine V.iinc (v := 4) (lv2 := [(3, .int 4), (0, .ref o), (1, .int 0), (2, .int 1)]) dX11_copyHalf_149 0 rfl (by decide) (by decide) rfl ?_
  refine V.goto (tgt := 55) dX11_copyHalf_152 (by decide) ?_
  refine V.iload_n dX11_copyHalf_55 0 rfl ?_
  refine V.bipush (v := 6) dX11_copyHalf_56 (by decide) ?_
  refine V.icmp_ge (tgt := 155) dX11_copyHalf_58 (by decide) (fun hc => absurd hc (by decide)) (fun _ => ?_)
  refine V.aload_n dX11_copyHalf_61 1 rfl ?_
  refine V.getf 0 4 rfl fa_X11_23_10 rfl dX11_copyHalf_62 ?_
  refine V.bipush (v := 6) dX11_copyHalf_65 (by decide) ?_
  refine V.iload_n dX11_copyHalf_67 3 rfl ?_
  refine V.imul dX11_copyHalf_68 ?_
  refine V.topc (v := 6) (by decide) ?_
  refine V.iload_n dX11_copyHalf_69 0 rfl ?_
  refine V.iadd dX11_copyHalf_70 ?_
  refine V.topc (v := 10) (by decide) ?_
  refine V.aload_n dX11_copyHalf_71 1 rfl ?_
  refine V.getf 0 4 rfl fa_X11_23_10 rfl dX11_copyHalf_72 ?_
  refine V.bipush (v := 6) dX11_copyHalf_75 (by decide) ?_
  refine V.iload_n dX11_copyHalf_77 2 rfl ?_
  refine V.imul dX11_copyHalf_78 ?_
  refine V.topc (v := 0) (by decide) ?_
  refine V.iload_n dX11_copyHalf_79 0 rfl ?_
  refine V.iadd dX11_copyHalf_80 ?_
  refine V.topc (v := 4) (by decide) ?_
  refine V.iald 3 rfl (vin rfl) dX11_copyHalf_81 ?_
  refine V.topc (v := (Ki 4)) (rfl) ?_
  refine V.iast (vw2 := [(o, ob 10 [.ref mw, .ref mk, .ref mt, .ref mr, .ref mki, .ref mso, .ref mst, .ref mpr, .ref msh, .ref mwa, .ref mpu, .ref mtx, .int ts, .int ma, .int bg, .int wr, .int cl, .int um, .ref mor, .ref mbo, .int mn, .ref tO, .ref tVi, .ref tSm, .int tm]), (mt, aI E 8 (upd (upd (upd (upd Ti 4 (Ti 0)) 5 (Ti 1)) 6 (Ti 2)) 7 (Ti 3))), (mr, aI E 8 (upd (upd (upd (upd Re 4 (Re 0)) 5 (Re 1)) 6 (Re 2)) 7 (Re 3))), (mki, aI E 12 (upd (upd (upd (upd (upd Ki 6 (Ki 0)) 7 (Ki 1)) 8 (Ki 2)) 9 (Ki 3)) 10 (Ki 4))), (mso, aI E 12 (upd (upd (upd (upd So 6 (So 0)) 7 (So 1)) 8 (So 2)) 9 (So 3))), (mst, aI E 12 (upd (upd (upd (upd St 6 (St 0)) 7 (St 1)) 8 (St 2)) 9 (St 3))), (mpr, aI E 12 (upd (upd (upd (upd Pr 6 (Pr 0)) 7 (Pr 1)) 8 (Pr 2)) 9 (Pr 3))), (msh, aI E 2 Sh), (mwa, aI E 2 Wa), (mpu, aI E 2 Pu)]) 3 rfl (vin rfl) (rfl) dX11_copyHalf_82 ?_
  refine V.aload_n dX11_copyHalf_83 1 rfl ?_
  refine V.getf 0 5 rfl fa_X11_26_10 rfl dX11_copyHalf_84 ?_
  refine V.bipush (v := 6) dX11_copyHalf_87 (by decide) ?_
  refine V.iload_n dX11_copyHalf_89 3 rfl ?_
  refine V.imul dX11_copyHalf_90 ?_
  refine V.topc (v := 6) (by decide) ?_
  refine V.iload_n dX11_copyHalf_91 0 rfl ?_
  refine V.iadd dX11_copyHalf_92 ?_
  refine V.topc (v := 10) (by decide) ?_
  refine V.aload_n dX11_copyHalf_93 1 rfl ?_
  refine V.getf 0 5 rfl fa_X11_26_10 rfl dX11_copyHalf_94 ?_
  refine V.bipush (v := 6) dX11_copyHalf_97 (by decide) ?_
  refine V.iload_n dX11_copyHalf_99 2 rfl ?_
  refine V.imul dX11_copyHalf_100 ?_
  refine V.topc (v := 0) (by decide) ?_
  refine V.iload_n dX11_copyHalf_101 0 rfl ?_
  refine V.iadd dX11_copyHalf_102 ?_
  refine V.topc (v := 4) (by decide) ?_
  refine V.iald 4 rfl (vin rfl) dX11_copyHalf_103 ?_
  refine V.topc (v := (So 4)) (rfl) ?_
  refine V.iast (vw2 := [(o, ob 10 [.ref mw, .ref mk, .ref mt, .ref mr, .ref mki, .ref mso, .ref mst, .ref mpr, .ref msh, .ref mwa, .ref mpu, .ref mtx, .int ts, .int ma, .int bg, .int wr, .int cl, .int um, .ref mor, .ref mbo, .int mn, .ref tO, .ref tVi, .ref tSm, .int tm]), (mt, aI E 8 (upd (upd (upd (upd Ti 4 (Ti 0)) 5 (Ti 1)) 6 (Ti 2)) 7 (Ti 3))), (mr, aI E 8 (upd (upd (upd (upd Re 4 (Re 0)) 5 (Re 1)) 6 (Re 2)) 7 (Re 3))), (mki, aI E 12 (upd (upd (upd (upd (upd Ki 6 (Ki 0)) 7 (Ki 1)) 8 (Ki 2)) 9 (Ki 3)) 10 (Ki 4))), (mso, aI E 12 (upd (upd (upd (upd (upd So 6 (So 0)) 7 (So 1)) 8 (So 2)) 9 (So 3)) 10 (So 4))), (mst, aI E 12 (upd (upd (upd (upd St 6 (St 0)) 7 (St 1)) 8 (St 2)) 9 (St 3))), (mpr, aI E 12 (upd (upd (upd (upd Pr 6 (Pr 0)) 7 (Pr 1)) 8 (Pr 2)) 9 (Pr 3))), (msh, aI E 2 Sh), (mwa, aI E 2 Wa), (mpu, aI E 2 Pu)]) 4 rfl (vin rfl) (rfl) dX11_copyHalf_104 ?_
  refine V.aload_n dX11_copyHalf_105 1 rfl ?_
  refine V.getf 0 6 rfl fa_X11_29_10 rfl dX11_copyHalf_106 ?_
  refine V.bipush (v := 6) dX11_copyHalf_109 (by decide) ?_
  refine V.iload_n dX11_copyHalf_111 3 rfl ?_
  refine V.imul dX11_copyHalf_112 ?_
  refine V.topc (v := 6) (by decide) ?_
  refine V.iload_n dX11_copyHalf_113 0 rfl ?_
  refine V.iadd dX11_copyHalf_114 ?_
  refine V.topc (v := 10) (by decide) ?_
  refine V.aload_n dX11_copyHalf_115 1 rfl ?_
  refine V.getf 0 6 rfl fa_X11_29_10 rfl dX11_copyHalf_116 ?_
  refine V.bipush (v := 6) dX11_copyHalf_119 (by decide) ?_
  refine V.iload_n dX11_copyHalf_121 2 rfl ?_
  refine V.imul dX11_copyHalf_122 ?_
  refine V.topc (v := 0) (by decide) ?_
  refine V.iload_n dX11_copyHalf_123 0 rfl ?_
  refine V.iadd dX11_copyHalf_124 ?_
  refine V.topc (v := 4) (by decide) ?_
  refine V.iald 5 rfl (vin rfl) dX11_copyHalf_125 ?_
  refine V.topc (v := (St 4)) (rfl) ?_
  refine V.iast (vw2 := [(o, ob 10 [.ref mw, .ref mk, .ref mt, .ref mr, .ref mki, .ref mso, .ref mst, .ref mpr, .ref msh, .ref mwa, .ref mpu, .ref mtx, .int ts, .int ma, .int bg, .int wr, .int cl, .int um, .ref mor, .ref mbo, .int mn, .ref tO, .ref tVi, .ref tSm, .int tm]), (mt, aI E 8 (upd (upd (upd (upd Ti 4 (Ti 0)) 5 (Ti 1)) 6 (Ti 2)) 7 (Ti 3))), (mr, aI E 8 (upd (upd (upd (upd Re 4 (Re 0)) 5 (Re 1)) 6 (Re 2)) 7 (Re 3))), (mki, aI E 12 (upd (upd (upd (upd (upd Ki 6 (Ki 0)) 7 (Ki 1)) 8 (Ki 2)) 9 (Ki 3)) 10 (Ki 4))), (mso, aI E 12 (upd (upd (upd (upd (upd So 6 (So 0)) 7 (So 1)) 8 (So 2)) 9 (So 3)) 10 (So 4))), (mst, aI E 12 (upd (upd (upd (upd (upd St 6 (St 0)) 7 (St 1)) 8 (St 2)) 9 (St 3)) 10 (St 4))), (mpr, aI E 12 (upd (upd (upd (upd Pr 6 (Pr 0)) 7 (Pr 1)) 8 (Pr 2)) 9 (Pr 3))), (msh, aI E 2 Sh), (mwa, aI E 2 Wa), (mpu, aI E 2 Pu)]) 5 rfl (vin rfl) (rfl) dX11_copyHalf_126 ?_
  refine V.aload_n dX11_copyHalf_127 1 rfl ?_
  refine V.getf 0 7 rfl fa_X11_32_10 rfl dX11_copyHalf_128 ?_
  refine V.bipush (v := 6) dX11_copyHalf_131 (by decide) ?_
  refine V.iload_n dX11_copyHalf_133 3 rfl ?_
  refine V.imul dX11_copyHalf_134 ?_
  refine V.topc (v := 6) (by decide) ?_
  refine V.iload_n dX11_copyHalf_135 0 rfl ?_
  refine V.iadd dX11_copyHalf_136 ?_
  refine V.topc (v := 10) (by decide) ?_
  refine V.aload_n dX11_copyHalf_137 1 rfl ?_
  refine V.getf 0 7 rfl fa_X11_32_10 rfl dX11_copyHalf_138 ?_
  refine V.bipush (v := 6) dX11_copyHalf_141 (by decide) ?_
  refine V.iload_n dX11_copyHalf_143 2 rfl ?_
  refine V.imul dX11_copyHalf_144 ?_
  refine V.topc (v := 0) (by decide) ?_
  refine V.iload_n dX11_copyHalf_145 0 rfl ?_
  refine V.iadd dX11_copyHalf_146 ?_
  refine V.topc (v := 4) (by decide) ?_
  refine V.iald 6 rfl (vin rfl) dX11_copyHalf_147 ?_
  refine V.topc (v := (Pr 4)) (rfl) ?_
  refine V.iast (vw2 := [(o, ob 10 [.ref mw, .ref mk, .ref mt, .ref mr, .ref mki, .ref mso, .ref mst, .ref mpr, .ref msh, .ref mwa, .ref mpu, .ref mtx, .int ts, .int ma, .int bg, .int wr, .int cl, .int um, .ref mor, .ref mbo, .int mn, .ref tO, .ref tVi, .ref tSm, .int tm]), (mt, aI E 8 (upd (upd (upd (upd Ti 4 (Ti 0)) 5 (Ti 1)) 6 (Ti 2)) 7 (Ti 3))), (mr, aI E 8 (upd (upd (upd (upd Re 4 (Re 0)) 5 (Re 1)) 6 (Re 2)) 7 (Re 3))), (mki, aI E 12 (upd (upd (upd (upd (upd Ki 6 (Ki 0)) 7 (Ki 1)) 8 (Ki 2)) 9 (Ki 3)) 10 (Ki 4))), (mso, aI E 12 (upd (upd (upd (upd (upd So 6 (So 0)) 7 (So 1)) 8 (So 2)) 9 (So 3)) 10 (So 4))), (mst, aI E 12 (upd (upd (upd (upd (upd St 6 (St 0)) 7 (St 1)) 8 (St 2)) 9 (St 3)) 10 (St 4))), (mpr, aI E 12 (upd (upd (upd (upd (upd Pr 6 (Pr 0)) 7 (Pr 1)) 8 (Pr 2)) 9 (Pr 3)) 10 (Pr 4))), (msh, aI E 2 Sh), (mwa, aI E 2 Wa), (mpu, aI E 2 Pu)]) 6 rfl (vin rfl) (rfl) dX11_copyHalf_148 ?_
  refine V.iinc (v := 5) (lv2 := [(3, .int 5), (0, .ref o), (1, .int 0), (2, .int 1)]) dX11_copyHalf_149 0 rfl (by decide) (by decide) rfl ?_
  refine V.goto (tgt := 55) dX11_copyHalf_152 (by decide) ?_
  refine V.iload_n dX11_copyHalf_55 0 rfl ?_
  refine V.bipush (v := 6) dX11_copyHalf_56 (by decide) ?_
  refine V.icmp_ge (tgt := 155) dX11_copyHalf_58 (by decide) (fun hc => absurd hc (by decide)) (fun _ => ?_)
  refine V.aload_n dX11_copyHalf_61 1 rfl ?_
  refine V.getf 0 4 rfl fa_X11_23_10 rfl dX11_copyHalf_62 ?_
  refine V.bipush (v := 6) dX11_copyHalf_65 (by decide) ?_
  refine V.iload_n dX11_copyHalf_67 3 rfl ?_
  refine V.imul dX11_copyHalf_68 ?_
  refine V.topc (v := 6) (by decide) ?_
  refine V.iload_n dX11_copyHalf_69 0 rfl ?_
  refine V.iadd dX11_copyHalf_70 ?_
  refine V.topc (v := 11) (by decide) ?_
  refine V.aload_n dX11_copyHalf_71 1 rfl ?_
  refine V.getf 0 4 rfl fa_X11_23_10 rfl dX11_copyHalf_72 ?_
  refine V.bipush (v := 6) dX11_copyHalf_75 (by decide) ?_
  refine V.iload_n dX11_copyHalf_77 2 rfl ?_
  refine V.imul dX11_copyHalf_78 ?_
  refine V.topc (v := 0) (by decide) ?_
  refine V.iload_n dX11_copyHalf_79 0 rfl ?_
  refine V.iadd dX11_copyHalf_80 ?_
  refine V.topc (v := 5) (by decide) ?_
  refine V.iald 3 rfl (vin rfl) dX11_copyHalf_81 ?_
  refine V.topc (v := (Ki 5)) (rfl) ?_
  refine V.iast (vw2 := [(o, ob 10 [.ref mw, .ref mk, .ref mt, .ref mr, .ref mki, .ref mso, .ref mst, .ref mpr, .ref msh, .ref mwa, .ref mpu, .ref mtx, .int ts, .int ma, .int bg, .int wr, .int cl, .int um, .ref mor, .ref mbo, .int mn, .ref tO, .ref tVi, .ref tSm, .int tm]), (mt, aI E 8 (upd (upd (upd (upd Ti 4 (Ti 0)) 5 (Ti 1)) 6 (Ti 2)) 7 (Ti 3))), (mr, aI E 8 (upd (upd (upd (upd Re 4 (Re 0)) 5 (Re 1)) 6 (Re 2)) 7 (Re 3))), (mki, aI E 12 (upd (upd (upd (upd (upd (upd Ki 6 (Ki 0)) 7 (Ki 1)) 8 (Ki 2)) 9 (Ki 3)) 10 (Ki 4)) 11 (Ki 5))), (mso, aI E 12 (upd (upd (upd (upd (upd So 6 (So 0)) 7 (So 1)) 8 (So 2)) 9 (So 3)) 10 (So 4))), (mst, aI E 12 (upd (upd (upd (upd (upd St 6 (St 0)) 7 (St 1)) 8 (St 2)) 9 (St 3)) 10 (St 4))), (mpr, aI E 12 (upd (upd (upd (upd (upd Pr 6 (Pr 0)) 7 (Pr 1)) 8 (Pr 2)) 9 (Pr 3)) 10 (Pr 4))), (msh, aI E 2 Sh), (mwa, aI E 2 Wa), (mpu, aI E 2 Pu)]) 3 rfl (vin rfl) (rfl) dX11_copyHalf_82 ?_
  refine V.aload_n dX11_copyHalf_83 1 rfl ?_
  refine V.getf 0 5 rfl fa_X11_26_10 rfl dX11_copyHalf_84 ?_
  refine V.bipush (v := 6) dX11_copyHalf_87 (by decide) ?_
  refine V.iload_n dX11_copyHalf_89 3 rfl ?_
  refine V.imul dX11_copyHalf_90 ?_
  refine V.topc (v := 6) (by decide) ?_
  refine V.iload_n dX11_copyHalf_91 0 rfl ?_
  refine V.iadd dX11_copyHalf_92 ?_
  refine V.topc (v := 11) (by decide) ?_
  refine V.aload_n dX11_copyHalf_93 1 rfl ?_
  refine V.getf 0 5 rfl fa_X11_26_10 rfl dX11_copyHalf_94 ?_
  refine V.bipush (v := 6) dX11_copyHalf_97 (by decide) ?_
  refine V.iload_n dX11_copyHalf_99 2 rfl ?_
  refine V.imul dX11_copyHalf_100 ?_
  refine V.topc (v := 0) (by decide) ?_
  refine V.iload_n dX11_copyHalf_101 0 rfl ?_
  refine V.iadd dX11_copyHalf_102 ?_
  refine V.topc (v := 5) (by decide) ?_
  refine V.iald 4 rfl (vin rfl) dX11_copyHalf_103 ?_
  refine V.topc (v := (So 5)) (rfl) ?_
  refine V.iast (vw2 := [(o, ob 10 [.ref mw, .ref mk, .ref mt, .ref mr, .ref mki, .ref mso, .ref mst, .ref mpr, .ref msh, .ref mwa, .ref mpu, .ref mtx, .int ts, .int ma, .int bg, .int wr, .int cl, .int um, .ref mor, .ref mbo, .int mn, .ref tO, .ref tVi, .ref tSm, .int tm]), (mt, aI E 8 (upd (upd (upd (upd Ti 4 (Ti 0)) 5 (Ti 1)) 6 (Ti 2)) 7 (Ti 3))), (mr, aI E 8 (upd (upd (upd (upd Re 4 (Re 0)) 5 (Re 1)) 6 (Re 2)) 7 (Re 3))), (mki, aI E 12 (upd (upd (upd (upd (upd (upd Ki 6 (Ki 0)) 7 (Ki 1)) 8 (Ki 2)) 9 (Ki 3)) 10 (Ki 4)) 11 (Ki 5))), (mso, aI E 12 (upd (upd (upd (upd (upd (upd So 6 (So 0)) 7 (So 1)) 8 (So 2)) 9 (So 3)) 10 (So 4)) 11 (So 5))), (mst, aI E 12 (upd (upd (upd (upd (upd St 6 (St 0)) 7 (St 1)) 8 (St 2)) 9 (St 3)) 10 (St 4))), (mpr, aI E 12 (upd (upd (upd (upd (upd Pr 6 (Pr 0)) 7 (Pr 1)) 8 (Pr 2)) 9 (Pr 3)) 10 (Pr 4))), (msh, aI E 2 Sh), (mwa, aI E 2 Wa), (mpu, aI E 2 Pu)]) 4 rfl (vin rfl) (rfl) dX11_copyHalf_104 ?_
  refine V.aload_n dX11_copyHalf_105 1 rfl ?_
  refine V.getf 0 6 rfl fa_X11_29_10 rfl dX11_copyHalf_106 ?_
  refine V.bipush (v := 6) dX11_copyHalf_109 (by decide) ?_
  refine V.iload_n dX11_copyHalf_111 3 rfl ?_
  refine V.imul dX11_copyHalf_112 ?_
  refine V.topc (v := 6) (by decide) ?_
  refine V.iload_n dX11_copyHalf_113 0 rfl ?_
  refine V.iadd dX11_copyHalf_114 ?_
  refine V.topc (v := 11) (by decide) ?_
  refine V.aload_n dX11_copyHalf_115 1 rfl ?_
  refine V.getf 0 6 rfl fa_X11_29_10 rfl dX11_copyHalf_116 ?_
  refine V.bipush (v := 6) dX11_copyHalf_119 (by decide) ?_
  refine V.iload_n dX11_copyHalf_121 2 rfl ?_
  refine V.imul dX11_copyHalf_122 ?_
  refine V.topc (v := 0) (by decide) ?_
  refine V.iload_n dX11_copyHalf_123 0 rfl ?_
  refine V.iadd dX11_copyHalf_124 ?_
  refine V.topc (v := 5) (by decide) ?_
  refine V.iald 5 rfl (vin rfl) dX11_copyHalf_125 ?_
  refine V.topc (v := (St 5)) (rfl) ?_
  refine V.iast (vw2 := [(o, ob 10 [.ref mw, .ref mk, .ref mt, .ref mr, .ref mki, .ref mso, .ref mst, .ref mpr, .ref msh, .ref mwa, .ref mpu, .ref mtx, .int ts, .int ma, .int bg, .int wr, .int cl, .int um, .ref mor, .ref mbo, .int mn, .ref tO, .ref tVi, .ref tSm, .int tm]), (mt, aI E 8 (upd (upd (upd (upd Ti 4 (Ti 0)) 5 (Ti 1)) 6 (Ti 2)) 7 (Ti 3))), (mr, aI E 8 (upd (upd (upd (upd Re 4 (Re 0)) 5 (Re 1)) 6 (Re 2)) 7 (Re 3))), (mki, aI E 12 (upd (upd (upd (upd (upd (upd Ki 6 (Ki 0)) 7 (Ki 1)) 8 (Ki 2)) 9 (Ki 3)) 10 (Ki 4)) 11 (Ki 5))), (mso, aI E 12 (upd (upd (upd (upd (upd (upd So 6 (So 0)) 7 (So 1)) 8 (So 2)) 9 (So 3)) 10 (So 4)) 11 (So 5))), (mst, aI E 12 (upd (upd (upd (upd (upd (upd St 6 (St 0)) 7 (St 1)) 8 (St 2)) 9 (St 3)) 10 (St 4)) 11 (St 5))), (mpr, aI E 12 (upd (upd (upd (upd (upd Pr 6 (Pr 0)) 7 (Pr 1)) 8 (Pr 2)) 9 (Pr 3)) 10 (Pr 4))), (msh, aI E 2 Sh), (mwa, aI E 2 Wa), (mpu, aI E 2 Pu)]) 5 rfl (vin rfl) (rfl) dX11_copyHalf_126 ?_
  refine V.aload_n dX11_copyHalf_127 1 rfl ?_
  refine V.getf 0 7 rfl fa_X11_32_10 rfl dX11_copyHalf_128 ?_
  refine V.bipush (v := 6) dX11_copyHalf_131 (by decide) ?_
  refine V.iload_n dX11_copyHalf_133 3 rfl ?_
  refine V.imul dX11_copyHalf_134 ?_
  refine V.topc (v := 6) (by decide) ?_
  refine V.iload_n dX11_copyHalf_135 0 rfl ?_
  refine V.iadd dX11_copyHalf_136 ?_
  refine V.topc (v := 11) (by decide) ?_
  refine V.aload_n dX11_copyHalf_137 1 rfl ?_
  refine V.getf 0 7 rfl fa_X11_32_10 rfl dX11_copyHalf_138 ?_
  refine V.bipush (v := 6) dX11_copyHalf_141 (by decide) ?_
  refine V.iload_n dX11_copyHalf_143 2 rfl ?_
  refine V.imul dX11_copyHalf_144 ?_
  refine V.topc (v := 0) (by decide) ?_
  refine V.iload_n dX11_copyHalf_145 0 rfl ?_
  refine V.iadd dX11_copyHalf_146 ?_
  refine V.topc (v := 5) (by decide) ?_
  refine V.iald 6 rfl (vin rfl) dX11_copyHalf_147 ?_
  refine V.topc (v := (Pr 5)) (rfl) ?_
  refine V.iast (vw2 := [(o, ob 10 [.ref mw, .ref mk, .ref mt, .ref mr, .ref mki, .ref mso, .ref mst, .ref mpr, .ref msh, .ref mwa, .ref mpu, .ref mtx, .int ts, .int ma, .int bg, .int wr, .int cl, .int um, .ref mor, .ref mbo, .int mn, .ref tO, .ref tVi, .ref tSm, .int tm]), (mt, aI E 8 (upd (upd (upd (upd Ti 4 (Ti 0)) 5 (Ti 1)) 6 (Ti 2)) 7 (Ti 3))), (mr, aI E 8 (upd (upd (upd (upd Re 4 (Re 0)) 5 (Re 1)) 6 (Re 2)) 7 (Re 3))), (mki, aI E 12 (upd (upd (upd (upd (upd (upd Ki 6 (Ki 0)) 7 (Ki 1)) 8 (Ki 2)) 9 (Ki 3)) 10 (Ki 4)) 11 (Ki 5))), (mso, aI E 12 (upd (upd (upd (upd (upd (upd So 6 (So 0)) 7 (So 1)) 8 (So 2)) 9 (So 3)) 10 (So 4)) 11 (So 5))), (mst, aI E 12 (upd (upd (upd (upd (upd (upd St 6 (St 0)) 7 (St 1)) 8 (St 2)) 9 (St 3)) 10 (St 4)) 11 (St 5))), (mpr, aI E 12 (upd (upd (upd (upd (upd (upd Pr 6 (Pr 0)) 7 (Pr 1)) 8 (Pr 2)) 9 (Pr 3)) 10 (Pr 4)) 11 (Pr 5))), (msh, aI E 2 Sh), (mwa, aI E 2 Wa), (mpu, aI E 2 Pu)]) 6 rfl (vin rfl) (rfl) dX11_copyHalf_148 ?_
  refine V.iinc (v := 6) (lv2 := [(3, .int 6), (0, .ref o), (1, .int 0), (2, .int 1)]) dX11_copyHalf_149 0 rfl (by decide) (by decide) rfl ?_
  refine V.goto (tgt := 55) dX11_copyHalf_152 (by decide) ?_
  refine V.iload_n dX11_copyHalf_55 0 rfl ?_
  refine V.bipush (v := 6) dX11_copyHalf_56 (by decide) ?_
  refine V.icmp_ge (tgt := 155) dX11_copyHalf_58 (by decide) (fun _ => ?_) (fun hc => absurd (by decide) hc)
  refine V.aload_n dX11_copyHalf_155 1 rfl ?_
  refine V.getf 0 8 rfl fa_X11_35_10 rfl dX11_copyHalf_156 ?_
  refine V.iload_n dX11_copyHalf_159 3 rfl ?_
  refine V.aload_n dX11_copyHalf_160 1 rfl ?_
  refine V.getf 0 8 rfl fa_X11_35_10 rfl dX11_copyHalf_161 ?_
  refine V.iload_n dX11_copyHalf_164 2 rfl ?_
  refine V.iald 7 rfl (vin rfl) dX11_copyHalf_165 ?_
  refine V.topc (v := (Sh 0)) (rfl) ?_
  refine V.iast (vw2 := [(o, ob 10 [.ref mw, .ref mk, .ref mt, .ref mr, .ref mki, .ref mso, .ref mst, .ref mpr, .ref msh, .ref mwa, .ref mpu, .ref mtx, .int ts, .int ma, .int bg, .int wr, .int cl, .int um, .ref mor, .ref mbo, .int mn, .ref tO, .ref tVi, .ref tSm, .int tm]), (mt, aI E 8 (upd (upd (upd (upd Ti 4 (Ti 0)) 5 (Ti 1)) 6 (Ti 2)) 7 (Ti 3))), (mr, aI E 8 (upd (upd (upd (upd Re 4 (Re 0)) 5 (Re 1)) 6 (Re 2)) 7 (Re 3))), (mki, aI E 12 (upd (upd (upd (upd (upd (upd Ki 6 (Ki 0)) 7 (Ki 1)) 8 (Ki 2)) 9 (Ki 3)) 10 (Ki 4)) 11 (Ki 5))), (mso, aI E 12 (upd (upd (upd (upd (upd (upd So 6 (So 0)) 7 (So 1)) 8 (So 2)) 9 (So 3)) 10 (So 4)) 11 (So 5))), (mst, aI E 12 (upd (upd (upd (upd (upd (upd St 6 (St 0)) 7 (St 1)) 8 (St 2)) 9 (St 3)) 10 (St 4)) 11 (St 5))), (mpr, aI E 12 (upd (upd (upd (upd (upd (upd Pr 6 (Pr 0)) 7 (Pr 1)) 8 (Pr 2)) 9 (Pr 3)) 10 (Pr 4)) 11 (Pr 5))), (msh, aI E 2 (upd Sh 1 (Sh 0))), (mwa, aI E 2 Wa), (mpu, aI E 2 Pu)]) 7 rfl (vin rfl) (rfl) dX11_copyHalf_166 ?_
  refine V.aload_n dX11_copyHalf_167 1 rfl ?_
  refine V.getf 0 9 rfl fa_X11_38_10 rfl dX11_copyHalf_168 ?_
  refine V.iload_n dX11_copyHalf_171 3 rfl ?_
  refine V.aload_n dX11_copyHalf_172 1 rfl ?_
  refine V.getf 0 9 rfl fa_X11_38_10 rfl dX11_copyHalf_173 ?_
  refine V.iload_n dX11_copyHalf_176 2 rfl ?_
  refine V.iald 8 rfl (vin rfl) dX11_copyHalf_177 ?_
  refine V.topc (v := (Wa 0)) (rfl) ?_
  refine V.iast (vw2 := [(o, ob 10 [.ref mw, .ref mk, .ref mt, .ref mr, .ref mki, .ref mso, .ref mst, .ref mpr, .ref msh, .ref mwa, .ref mpu, .ref mtx, .int ts, .int ma, .int bg, .int wr, .int cl, .int um, .ref mor, .ref mbo, .int mn, .ref tO, .ref tVi, .ref tSm, .int tm]), (mt, aI E 8 (upd (upd (upd (upd Ti 4 (Ti 0)) 5 (Ti 1)) 6 (Ti 2)) 7 (Ti 3))), (mr, aI E 8 (upd (upd (upd (upd Re 4 (Re 0)) 5 (Re 1)) 6 (Re 2)) 7 (Re 3))), (mki, aI E 12 (upd (upd (upd (upd (upd (upd Ki 6 (Ki 0)) 7 (Ki 1)) 8 (Ki 2)) 9 (Ki 3)) 10 (Ki 4)) 11 (Ki 5))), (mso, aI E 12 (upd (upd (upd (upd (upd (upd So 6 (So 0)) 7 (So 1)) 8 (So 2)) 9 (So 3)) 10 (So 4)) 11 (So 5))), (mst, aI E 12 (upd (upd (upd (upd (upd (upd St 6 (St 0)) 7 (St 1)) 8 (St 2)) 9 (St 3)) 10 (St 4)) 11 (St 5))), (mpr, aI E 12 (upd (upd (upd (upd (upd (upd Pr 6 (Pr 0)) 7 (Pr 1)) 8 (Pr 2)) 9 (Pr 3)) 10 (Pr 4)) 11 (Pr 5))), (msh, aI E 2 (upd Sh 1 (Sh 0))), (mwa, aI E 2 (upd Wa 1 (Wa 0))), (mpu, aI E 2 Pu)]) 8 rfl (vin rfl) (rfl) dX11_copyHalf_178 ?_
  refine V.aload_n dX11_copyHalf_179 1 rfl ?_
  refine V.getf 0 10 rfl fa_X11_41_10 rfl dX11_copyHalf_180 ?_
  refine V.iload_n dX11_copyHalf_183 3 rfl ?_
  refine V.aload_n dX11_copyHalf_184 1 rfl ?_
  refine V.getf 0 10 rfl fa_X11_41_10 rfl dX11_copyHalf_185 ?_
  refine V.iload_n dX11_copyHalf_188 2 rfl ?_
  refine V.iald 9 rfl (vin rfl) dX11_copyHalf_189 ?_
  refine V.topc (v := (Pu 0)) (rfl) ?_
  refine V.iast (vw2 := [(o, ob 10 [.ref mw, .ref mk, .ref mt, .ref mr, .ref mki, .ref mso, .ref mst, .ref mpr, .ref msh, .ref mwa, .ref mpu, .ref mtx, .int ts, .int ma, .int bg, .int wr, .int cl, .int um, .ref mor, .ref mbo, .int mn, .ref tO, .ref tVi, .ref tSm, .int tm]), (mt, aI E 8 (upd (upd (upd (upd Ti 4 (Ti 0)) 5 (Ti 1)) 6 (Ti 2)) 7 (Ti 3))), (mr, aI E 8 (upd (upd (upd (upd Re 4 (Re 0)) 5 (Re 1)) 6 (Re 2)) 7 (Re 3))), (mki, aI E 12 (upd (upd (upd (upd (upd (upd Ki 6 (Ki 0)) 7 (Ki 1)) 8 (Ki 2)) 9 (Ki 3)) 10 (Ki 4)) 11 (Ki 5))), (mso, aI E 12 (upd (upd (upd (upd (upd (upd So 6 (So 0)) 7 (So 1)) 8 (So 2)) 9 (So 3)) 10 (So 4)) 11 (So 5))), (mst, aI E 12 (upd (upd (upd (upd (upd (upd St 6 (St 0)) 7 (St 1)) 8 (St 2)) 9 (St 3)) 10 (St 4)) 11 (St 5))), (mpr, aI E 12 (upd (upd (upd (upd (upd (upd Pr 6 (Pr 0)) 7 (Pr 1)) 8 (Pr 2)) 9 (Pr 3)) 10 (Pr 4)) 11 (Pr 5))), (msh, aI E 2 (upd Sh 1 (Sh 0))), (mwa, aI E 2 (upd Wa 1 (Wa 0))), (mpu, aI E 2 (upd Pu 1 (Pu 0)))]) 9 rfl (vin rfl) (rfl) dX11_copyHalf_190 ?_
  refine V.arrEq (vw2 := [(o, ob 10 [.ref mw, .ref mk, .ref mt, .ref mr, .ref mki, .ref mso, .ref mst, .ref mpr, .ref msh, .ref mwa, .ref mpu, .ref mtx, .int ts, .int ma, .int bg, .int wr, .int cl, .int um, .ref mor, .ref mbo, .int mn, .ref tO, .ref tVi, .ref tSm, .int tm]), (mt, aI E 8 (putH 4 Ti 1 (fun j => Ti (0 + j)))), (mr, aI E 8 (upd (upd (upd (upd Re 4 (Re 0)) 5 (Re 1)) 6 (Re 2)) 7 (Re 3))), (mki, aI E 12 (upd (upd (upd (upd (upd (upd Ki 6 (Ki 0)) 7 (Ki 1)) 8 (Ki 2)) 9 (Ki 3)) 10 (Ki 4)) 11 (Ki 5))), (mso, aI E 12 (upd (upd (upd (upd (upd (upd So 6 (So 0)) 7 (So 1)) 8 (So 2)) 9 (So 3)) 10 (So 4)) 11 (So 5))), (mst, aI E 12 (upd (upd (upd (upd (upd (upd St 6 (St 0)) 7 (St 1)) 8 (St 2)) 9 (St 3)) 10 (St 4)) 11 (St 5))), (mpr, aI E 12 (upd (upd (upd (upd (upd (upd Pr 6 (Pr 0)) 7 (Pr 1)) 8 (Pr 2)) 9 (Pr 3)) 10 (Pr 4)) 11 (Pr 5))), (msh, aI E 2 (upd Sh 1 (Sh 0))), (mwa, aI E 2 (upd Wa 1 (Wa 0))), (mpu, aI E 2 (upd Pu 1 (Pu 0)))]) 1 0 rfl (fun j hj => by rcases (show j = 0 ∨ j = 1 ∨ j = 2 ∨ j = 3 ∨ j = 4 ∨ j = 5 ∨ j = 6 ∨ j = 7 by omega) with rfl | rfl | rfl | rfl | rfl | rfl | rfl | rfl <;> rfl) rfl ?_
  refine V.arrEq (vw2 := [(o, ob 10 [.ref mw, .ref mk, .ref mt, .ref mr, .ref mki, .ref mso, .ref mst, .ref mpr, .ref msh, .ref mwa, .ref mpu, .ref mtx, .int ts, .int ma, .int bg, .int wr, .int cl, .int um, .ref mor, .ref mbo, .int mn, .ref tO, .ref tVi, .ref tSm, .int tm]), (mt, aI E 8 (putH 4 Ti 1 (fun j => Ti (0 + j)))), (mr, aI E 8 (putH 4 Re 1 (fun j => Re (0 + j)))), (mki, aI E 12 (upd (upd (upd (upd (upd (upd Ki 6 (Ki 0)) 7 (Ki 1)) 8 (Ki 2)) 9 (Ki 3)) 10 (Ki 4)) 11 (Ki 5))), (mso, aI E 12 (upd (upd (upd (upd (upd (upd So 6 (So 0)) 7 (So 1)) 8 (So 2)) 9 (So 3)) 10 (So 4)) 11 (So 5))), (mst, aI E 12 (upd (upd (upd (upd (upd (upd St 6 (St 0)) 7 (St 1)) 8 (St 2)) 9 (St 3)) 10 (St 4)) 11 (St 5))), (mpr, aI E 12 (upd (upd (upd (upd (upd (upd Pr 6 (Pr 0)) 7 (Pr 1)) 8 (Pr 2)) 9 (Pr 3)) 10 (Pr 4)) 11 (Pr 5))), (msh, aI E 2 (upd Sh 1 (Sh 0))), (mwa, aI E 2 (upd Wa 1 (Wa 0))), (mpu, aI E 2 (upd Pu 1 (Pu 0)))]) 2 0 rfl (fun j hj => by rcases (show j = 0 ∨ j = 1 ∨ j = 2 ∨ j = 3 ∨ j = 4 ∨ j = 5 ∨ j = 6 ∨ j = 7 by omega) with rfl | rfl | rfl | rfl | rfl | rfl | rfl | rfl <;> rfl) rfl ?_
  refine V.arrEq (vw2 := [(o, ob 10 [.ref mw, .ref mk, .ref mt, .ref mr, .ref mki, .ref mso, .ref mst, .ref mpr, .ref msh, .ref mwa, .ref mpu, .ref mtx, .int ts, .int ma, .int bg, .int wr, .int cl, .int um, .ref mor, .ref mbo, .int mn, .ref tO, .ref tVi, .ref tSm, .int tm]), (mt, aI E 8 (putH 4 Ti 1 (fun j => Ti (0 + j)))), (mr, aI E 8 (putH 4 Re 1 (fun j => Re (0 + j)))), (mki, aI E 12 (putH 6 Ki 1 (fun j => Ki (0 + j)))), (mso, aI E 12 (upd (upd (upd (upd (upd (upd So 6 (So 0)) 7 (So 1)) 8 (So 2)) 9 (So 3)) 10 (So 4)) 11 (So 5))), (mst, aI E 12 (upd (upd (upd (upd (upd (upd St 6 (St 0)) 7 (St 1)) 8 (St 2)) 9 (St 3)) 10 (St 4)) 11 (St 5))), (mpr, aI E 12 (upd (upd (upd (upd (upd (upd Pr 6 (Pr 0)) 7 (Pr 1)) 8 (Pr 2)) 9 (Pr 3)) 10 (Pr 4)) 11 (Pr 5))), (msh, aI E 2 (upd Sh 1 (Sh 0))), (mwa, aI E 2 (upd Wa 1 (Wa 0))), (mpu, aI E 2 (upd Pu 1 (Pu 0)))]) 3 0 rfl (fun j hj => by rcases (show j = 0 ∨ j = 1 ∨ j = 2 ∨ j = 3 ∨ j = 4 ∨ j = 5 ∨ j = 6 ∨ j = 7 ∨ j = 8 ∨ j = 9 ∨ j = 10 ∨ j = 11 by omega) with rfl | rfl | rfl | rfl | rfl | rfl | rfl | rfl | rfl | rfl | rfl | rfl <;> rfl) rfl ?_
  refine V.arrEq (vw2 := [(o, ob 10 [.ref mw, .ref mk, .ref mt, .ref mr, .ref mki, .ref mso, .ref mst, .ref mpr, .ref msh, .ref mwa, .ref mpu, .ref mtx, .int ts, .int ma, .int bg, .int wr, .int cl, .int um, .ref mor, .ref mbo, .int mn, .ref tO, .ref tVi, .ref tSm, .int tm]), (mt, aI E 8 (putH 4 Ti 1 (fun j => Ti (0 + j)))), (mr, aI E 8 (putH 4 Re 1 (fun j => Re (0 + j)))), (mki, aI E 12 (putH 6 Ki 1 (fun j => Ki (0 + j)))), (mso, aI E 12 (putH 6 So 1 (fun j => So (0 + j)))), (mst, aI E 12 (upd (upd (upd (upd (upd (upd St 6 (St 0)) 7 (St 1)) 8 (St 2)) 9 (St 3)) 10 (St 4)) 11 (St 5))), (mpr, aI E 12 (upd (upd (upd (upd (upd (upd Pr 6 (Pr 0)) 7 (Pr 1)) 8 (Pr 2)) 9 (Pr 3)) 10 (Pr 4)) 11 (Pr 5))), (msh, aI E 2 (upd Sh 1 (Sh 0))), (mwa, aI E 2 (upd Wa 1 (Wa 0))), (mpu, aI E 2 (upd Pu 1 (Pu 0)))]) 4 0 rfl (fun j hj => by rcases (show j = 0 ∨ j = 1 ∨ j = 2 ∨ j = 3 ∨ j = 4 ∨ j = 5 ∨ j = 6 ∨ j = 7 ∨ j = 8 ∨ j = 9 ∨ j = 10 ∨ j = 11 by omega) with rfl | rfl | rfl | rfl | rfl | rfl | rfl | rfl | rfl | rfl | rfl | rfl <;> rfl) rfl ?_
  refine V.arrEq (vw2 := [(o, ob 10 [.ref mw, .ref mk, .ref mt, .ref mr, .ref mki, .ref mso, .ref mst, .ref mpr, .ref msh, .ref mwa, .ref mpu, .ref mtx, .int ts, .int ma, .int bg, .int wr, .int cl, .int um, .ref mor, .ref mbo, .int mn, .ref tO, .ref tVi, .ref tSm, .int tm]), (mt, aI E 8 (putH 4 Ti 1 (fun j => Ti (0 + j)))), (mr, aI E 8 (putH 4 Re 1 (fun j => Re (0 + j)))), (mki, aI E 12 (putH 6 Ki 1 (fun j => Ki (0 + j)))), (mso, aI E 12 (putH 6 So 1 (fun j => So (0 + j)))), (mst, aI E 12 (putH 6 St 1 (fun j => St (0 + j)))), (mpr, aI E 12 (upd (upd (upd (upd (upd (upd Pr 6 (Pr 0)) 7 (Pr 1)) 8 (Pr 2)) 9 (Pr 3)) 10 (Pr 4)) 11 (Pr 5))), (msh, aI E 2 (upd Sh 1 (Sh 0))), (mwa, aI E 2 (upd Wa 1 (Wa 0))), (mpu, aI E 2 (upd Pu 1 (Pu 0)))]) 5 0 rfl (fun j hj => by rcases (show j = 0 ∨ j = 1 ∨ j = 2 ∨ j = 3 ∨ j = 4 ∨ j = 5 ∨ j = 6 ∨ j = 7 ∨ j = 8 ∨ j = 9 ∨ j = 10 ∨ j = 11 by omega) with rfl | rfl | rfl | rfl | rfl | rfl | rfl | rfl | rfl | rfl | rfl | rfl <;> rfl) rfl ?_
  refine V.arrEq (vw2 := [(o, ob 10 [.ref mw, .ref mk, .ref mt, .ref mr, .ref mki, .ref mso, .ref mst, .ref mpr, .ref msh, .ref mwa, .ref mpu, .ref mtx, .int ts, .int ma, .int bg, .int wr, .int cl, .int um, .ref mor, .ref mbo, .int mn, .ref tO, .ref tVi, .ref tSm, .int tm]), (mt, aI E 8 (putH 4 Ti 1 (fun j => Ti (0 + j)))), (mr, aI E 8 (putH 4 Re 1 (fun j => Re (0 + j)))), (mki, aI E 12 (putH 6 Ki 1 (fun j => Ki (0 + j)))), (mso, aI E 12 (putH 6 So 1 (fun j => So (0 + j)))), (mst, aI E 12 (putH 6 St 1 (fun j => St (0 + j)))), (mpr, aI E 12 (putH 6 Pr 1 (fun j => Pr (0 + j)))), (msh, aI E 2 (upd Sh 1 (Sh 0))), (mwa, aI E 2 (upd Wa 1 (Wa 0))), (mpu, aI E 2 (upd Pu 1 (Pu 0)))]) 6 0 rfl (fun j hj => by rcases (show j = 0 ∨ j = 1 ∨ j = 2 ∨ j = 3 ∨ j = 4 ∨ j = 5 ∨ j = 6 ∨ j = 7 ∨ j = 8 ∨ j = 9 ∨ j = 10 ∨ j = 11 by omega) with rfl | rfl | rfl | rfl | rfl | rfl | rfl | rfl | rfl | rfl | rfl | rfl <;> rfl) rfl ?_
  refine V.arrEq (vw2 := [(o, ob 10 [.ref mw, .ref mk, .ref mt, .ref mr, .ref mki, .ref mso, .ref mst, .ref mpr, .ref msh, .ref mwa, .ref mpu, .ref mtx, .int ts, .int ma, .int bg, .int wr, .int cl, .int um, .ref mor, .ref mbo, .int mn, .ref tO, .ref tVi, .ref tSm, .int tm]), (mt, aI E 8 (putH 4 Ti 1 (fun j => Ti (0 + j)))), (mr, aI E 8 (putH 4 Re 1 (fun j => Re (0 + j)))), (mki, aI E 12 (putH 6 Ki 1 (fun j => Ki (0 + j)))), (mso, aI E 12 (putH 6 So 1 (fun j => So (0 + j)))), (mst, aI E 12 (putH 6 St 1 (fun j => St (0 + j)))), (mpr, aI E 12 (putH 6 Pr 1 (fun j => Pr (0 + j)))), (msh, aI E 2 (putH 1 Sh 1 (fun j => Sh (0 + j)))), (mwa, aI E 2 (upd Wa 1 (Wa 0))), (mpu, aI E 2 (upd Pu 1 (Pu 0)))]) 7 0 rfl (fun j hj => by rcases (show j = 0 ∨ j = 1 by omega) with rfl | rfl <;> rfl) rfl ?_
  refine V.arrEq (vw2 := [(o, ob 10 [.ref mw, .ref mk, .ref mt, .ref mr, .ref mki, .ref mso, .ref mst, .ref mpr, .ref msh, .ref mwa, .ref mpu, .ref mtx, .int ts, .int ma, .int bg, .int wr, .int cl, .int um, .ref mor, .ref mbo, .int mn, .ref tO, .ref tVi, .ref tSm, .int tm]), (mt, aI E 8 (putH 4 Ti 1 (fun j => Ti (0 + j)))), (mr, aI E 8 (putH 4 Re 1 (fun j => Re (0 + j)))), (mki, aI E 12 (putH 6 Ki 1 (fun j => Ki (0 + j)))), (mso, aI E 12 (putH 6 So 1 (fun j => So (0 + j)))), (mst, aI E 12 (putH 6 St 1 (fun j => St (0 + j)))), (mpr, aI E 12 (putH 6 Pr 1 (fun j => Pr (0 + j)))), (msh, aI E 2 (putH 1 Sh 1 (fun j => Sh (0 + j)))), (mwa, aI E 2 (putH 1 Wa 1 (fun j => Wa (0 + j)))), (mpu, aI E 2 (upd Pu 1 (Pu 0)))]) 8 0 rfl (fun j hj => by rcases (show j = 0 ∨ j = 1 by omega) with rfl | rfl <;> rfl) rfl ?_
  refine V.arrEq (vw2 := [(o, ob 10 [.ref mw, .ref mk, .ref mt, .ref mr, .ref mki, .ref mso, .ref mst, .ref mpr, .ref msh, .ref mwa, .ref mpu, .ref mtx, .int ts, .int ma, .int bg, .int wr, .int cl, .int um, .ref mor, .ref mbo, .int mn, .ref tO, .ref tVi, .ref tSm, .int tm]), (mt, aI E 8 (putH 4 Ti 1 (fun j => Ti (0 + j)))), (mr, aI E 8 (putH 4 Re 1 (fun j => Re (0 + j)))), (mki, aI E 12 (putH 6 Ki 1 (fun j => Ki (0 + j)))), (mso, aI E 12 (putH 6 So 1 (fun j => So (0 + j)))), (mst, aI E 12 (putH 6 St 1 (fun j => St (0 + j)))), (mpr, aI E 12 (putH 6 Pr 1 (fun j => Pr (0 + j)))), (msh, aI E 2 (putH 1 Sh 1 (fun j => Sh (0 + j)))), (mwa, aI E 2 (putH 1 Wa 1 (fun j => Wa (0 + j)))), (mpu, aI E 2 (putH 1 Pu 1 (fun j => Pu (0 + j))))]) 9 0 rfl (fun j hj => by rcases (show j = 0 ∨ j = 1 by omega) with rfl | rfl <;> rfl) rfl ?_
  exact V.vret rfl dX11_copyHalf_191 (⟨(), rfl, rfl, rfl, trivial⟩)

set_option maxHeartbeats 4000000 in
set_option maxRecDepth 100000 in
theorem c_M_copyHalf_1 (E : vEnv) (l : Launch) (L : List Nat) (h : Nat → va_E) (o : Nat) (mw : Nat) (mk : Nat) (mt : Nat) (mr : Nat) (mki : Nat) (mso : Nat) (mst : Nat) (mpr : Nat) (msh : Nat) (mwa : Nat) (mpu : Nat) (mtx : Nat) (mor : Nat) (mbo : Nat) (tO : Nat) (tVi : Nat) (tSm : Nat) (ts : Int32) (ma : Int32) (bg : Int32) (wr : Int32) (cl : Int32) (um : Int32) (mn : Int32) (tm : Int32) (Ti : Nat → Int32) (Re : Nat → Int32) (Ki : Nat → Int32) (So : Nat → Int32) (St : Nat → Int32) (Pr : Nat → Int32) (Sh : Nat → Int32) (Wa : Nat → Int32) (Pu : Nat → Int32) : CT E l yX11_copyHalf cX11_copyHalf 4 none 0 0 0 L h [(o, ob 10 [.ref mw, .ref mk, .ref mt, .ref mr, .ref mki, .ref mso, .ref mst, .ref mpr, .ref msh, .ref mwa, .ref mpu, .ref mtx, .int ts, .int ma, .int bg, .int wr, .int cl, .int um, .ref mor, .ref mbo, .int mn, .ref tO, .ref tVi, .ref tSm, .int tm]), (mt, aI E 8 Ti), (mr, aI E 8 Re), (mki, aI E 12 Ki), (mso, aI E 12 So), (mst, aI E 12 St), (mpr, aI E 12 Pr), (msh, aI E 2 Sh), (mwa, aI E 2 Wa), (mpu, aI E 2 Pu)] [.ref o, .int 1, .int 0] (qP L h (fun (_ : Unit) => [(o, ob 10 [.ref mw, .ref mk, .ref mt, .ref mr, .ref mki, .ref mso, .ref mst, .ref mpr, .ref msh, .ref mwa, .ref mpu, .ref mtx, .int ts, .int ma, .int bg, .int wr, .int cl, .int um, .ref mor, .ref mbo, .int mn, .ref tO, .ref tVi, .ref tSm, .int tm]), (mt, aI E 8 (putH 4 Ti 0 (fun j => Ti (4 + j)))), (mr, aI E 8 (putH 4 Re 0 (fun j => Re (4 + j)))), (mki, aI E 12 (putH 6 Ki 0 (fun j => Ki (6 + j)))), (mso, aI E 12 (putH 6 So 0 (fun j => So (6 + j)))), (mst, aI E 12 (putH 6 St 0 (fun j => St (6 + j)))), (mpr, aI E 12 (putH 6 Pr 0 (fun j => Pr (6 + j)))), (msh, aI E 2 (putH 1 Sh 0 (fun j => Sh (1 + j)))), (mwa, aI E 2 (putH 1 Wa 0 (fun j => Wa (1 + j)))), (mpu, aI E 2 (putH 1 Pu 0 (fun j => Pu (1 + j))))]) (fun _ => none) (fun _ => True)) := by
  refine CT.ofV (by decide +kernel) (Nat.le_of_ble_eq_true rfl) ?_
  refine V.locals2 (lv2 := [(0, .ref o), (1, .int 1), (2, .int 0)]) rfl ?_
  refine V.iconst (v := 0) dX11_copyHalf_0 (by decide) ?_
  refine V.istore_n (lv2 := [(3, .int 0), (0, .ref o), (1, .int 1), (2, .int 0)]) dX11_copyHalf_1 rfl (by decide) rfl ?_
  refine V.iload_n dX11_copyHalf_2 0 rfl ?_
  refine V.iconst (v := 4) dX11_copyHalf_3 (by decide) ?_
  refine V.icmp_ge (tgt := 53) dX11_copyHalf_4 (by decide) (fun hc => absurd hc (by decide)) (fun _ => ?_)
  refine V.aload_n dX11_copyHalf_7 1 rfl ?_
  refine V.getf 0 2 rfl fa_X11_17_10 rfl dX11_copyHalf_8 ?_
  refine V.iconst (v := 4) dX11_copyHalf_11 (by decide) ?_
  refine V.iload_n dX11_copyHalf_12 3 rfl ?_
  refine V.imul dX11_copyHalf_13 ?_
  refine V.topc (v := 0) (by decide) ?_
  refine V.iload_n dX11_copyHalf_14 0 rfl ?_
  refine V.iadd dX11_copyHalf_15 ?_
  refine V.topc (v := 0) (by decide) ?_
  refine V.aload_n dX11_copyHalf_16 1 rfl ?_
  refine V.getf 0 2 rfl fa_X11_17_10 rfl dX11_copyHalf_17 ?_
  refine V.iconst (v := 4) dX11_copyHalf_20 (by decide) ?_
  refine V.iload_n dX11_copyHalf_21 2 rfl ?_
  refine V.imul dX11_copyHalf_22 ?_
  refine V.topc (v := 4) (by decide) ?_
  refine V.iload_n dX11_copyHalf_23 0 rfl ?_
  refine V.iadd dX11_copyHalf_24 ?_
  refine V.topc (v := 4) (by decide) ?_
  refine V.iald 1 rfl (vin rfl) dX11_copyHalf_25 ?_
  refine V.topc (v := (Ti 4)) (rfl) ?_
  refine V.iast (vw2 := [(o, ob 10 [.ref mw, .ref mk, .ref mt, .ref mr, .ref mki, .ref mso, .ref mst, .ref mpr, .ref msh, .ref mwa, .ref mpu, .ref mtx, .int ts, .int ma, .int bg, .int wr, .int cl, .int um, .ref mor, .ref mbo, .int mn, .ref tO, .ref tVi, .ref tSm, .int tm]), (mt, aI E 8 (upd Ti 0 (Ti 4))), (mr, aI E 8 Re), (mki, aI E 12 Ki), (mso, aI E 12 So), (mst, aI E 12 St), (mpr, aI E 12 Pr), (msh, aI E 2 Sh), (mwa, aI E 2 Wa), (mpu, aI E 2 Pu)]) 1 rfl (vin rfl) (rfl) dX11_copyHalf_26 ?_
  refine V.aload_n dX11_copyHalf_27 1 rfl ?_
  refine V.getf 0 3 rfl fa_X11_20_10 rfl dX11_copyHalf_28 ?_
  refine V.iconst (v := 4) dX11_copyHalf_31 (by decide) ?_
  refine V.iload_n dX11_copyHalf_32 3 rfl ?_
  refine V.imul dX11_copyHalf_33 ?_
  refine V.topc (v := 0) (by decide) ?_
  refine V.iload_n dX11_copyHalf_34 0 rfl ?_
  refine V.iadd dX11_copyHalf_35 ?_
  refine V.topc (v := 0) (by decide) ?_
  refine V.aload_n dX11_copyHalf_36 1 rfl ?_
  refine V.getf 0 3 rfl fa_X11_20_10 rfl dX11_copyHalf_37 ?_
  refine V.iconst (v := 4) dX11_copyHalf_40 (by decide) ?_
  refine V.iload_n dX11_copyHalf_41 2 rfl ?_
  refine V.imul dX11_copyHalf_42 ?_
  refine V.topc (v := 4) (by decide) ?_
  refine V.iload_n dX11_copyHalf_43 0 rfl ?_
  refine V.iadd dX11_copyHalf_44 ?_
  refine V.topc (v := 4) (by decide) ?_
  refine V.iald 2 rfl (vin rfl) dX11_copyHalf_45 ?_
  refine V.topc (v := (Re 4)) (rfl) ?_
  refine V.iast (vw2 := [(o, ob 10 [.ref mw, .ref mk, .ref mt, .ref mr, .ref mki, .ref mso, .ref mst, .ref mpr, .ref msh, .ref mwa, .ref mpu, .ref mtx, .int ts, .int ma, .int bg, .int wr, .int cl, .int um, .ref mor, .ref mbo, .int mn, .ref tO, .ref tVi, .ref tSm, .int tm]), (mt, aI E 8 (upd Ti 0 (Ti 4))), (mr, aI E 8 (upd Re 0 (Re 4))), (mki, aI E 12 Ki), (mso, aI E 12 So), (mst, aI E 12 St), (mpr, aI E 12 Pr), (msh, aI E 2 Sh), (mwa, aI E 2 Wa), (mpu, aI E 2 Pu)]) 2 rfl (vin rfl) (rfl) dX11_copyHalf_46 ?_
  refine V.iinc (v := 1) (lv2 := [(3, .int 1), (0, .ref o), (1, .int 1), (2, .int 0)]) dX11_copyHalf_47 0 rfl (by decide) (by decide) rfl ?_
  refine V.goto (tgt := 2) dX11_copyHalf_50 (by decide) ?_
  refine V.iload_n dX11_copyHalf_2 0 rfl ?_
  refine V.iconst (v := 4) dX11_copyHalf_3 (by decide) ?_
  refine V.icmp_ge (tgt := 53) dX11_copyHalf_4 (by decide) (fun hc => absurd hc (by decide)) (fun _ => ?_)
  refine V.aload_n dX11_copyHalf_7 1 rfl ?_
  refine V.getf 0 2 rfl fa_X11_17_10 rfl dX11_copyHalf_8 ?_
  refine V.iconst (v := 4) dX11_copyHalf_11 (by decide) ?_
  refine V.iload_n dX11_copyHalf_12 3 rfl ?_
  refine V.imul dX11_copyHalf_13 ?_
  refine V.topc (v := 0) (by decide) ?_
  refine V.iload_n dX11_copyHalf_14 0 rfl ?_
  refine V.iadd dX11_copyHalf_15 ?_
  refine V.topc (v := 1) (by decide) ?_
  refine V.aload_n dX11_copyHalf_16 1 rfl ?_
  refine V.getf 0 2 rfl fa_X11_17_10 rfl dX11_copyHalf_17 ?_
  refine V.iconst (v := 4) dX11_copyHalf_20 (by decide) ?_
  refine V.iload_n dX11_copyHalf_21 2 rfl ?_
  refine V.imul dX11_copyHalf_22 ?_
  refine V.topc (v := 4) (by decide) ?_
  refine V.iload_n dX11_copyHalf_23 0 rfl ?_
  refine V.iadd dX11_copyHalf_24 ?_
  refine V.topc (v := 5) (by decide) ?_
  refine V.iald 1 rfl (vin rfl) dX11_copyHalf_25 ?_
  refine V.topc (v := (Ti 5)) (rfl) ?_
  refine V.iast (vw2 := [(o, ob 10 [.ref mw, .ref mk, .ref mt, .ref mr, .ref mki, .ref mso, .ref mst, .ref mpr, .ref msh, .ref mwa, .ref mpu, .ref mtx, .int ts, .int ma, .int bg, .int wr, .int cl, .int um, .ref mor, .ref mbo, .int mn, .ref tO, .ref tVi, .ref tSm, .int tm]), (mt, aI E 8 (upd (upd Ti 0 (Ti 4)) 1 (Ti 5))), (mr, aI E 8 (upd Re 0 (Re 4))), (mki, aI E 12 Ki), (mso, aI E 12 So), (mst, aI E 12 St), (mpr, aI E 12 Pr), (msh, aI E 2 Sh), (mwa, aI E 2 Wa), (mpu, aI E 2 Pu)]) 1 rfl (vin rfl) (rfl) dX11_copyHalf_26 ?_
  refine V.aload_n dX11_copyHalf_27 1 rfl ?_
  refine V.getf 0 3 rfl fa_X11_20_10 rfl dX11_copyHalf_28 ?_
  refine V.iconst (v := 4) dX11_copyHalf_31 (by decide) ?_
  refine V.iload_n dX11_copyHalf_32 3 rfl ?_
  refine V.imul dX11_copyHalf_33 ?_
  refine V.topc (v := 0) (by decide) ?_
  refine V.iload_n dX11_copyHalf_34 0 rfl ?_
  refine V.iadd dX11_copyHalf_35 ?_
  refine V.topc (v := 1) (by decide) ?_
  refine V.aload_n dX11_copyHalf_36 1 rfl ?_
  refine V.getf 0 3 rfl fa_X11_20_10 rfl dX11_copyHalf_37 ?_
  refine V.iconst (v := 4) dX11_copyHalf_40 (by decide) ?_
  refine V.iload_n dX11_copyHalf_41 2 rfl ?_
  refine V.imul dX11_copyHalf_42 ?_
  refine V.topc (v := 4) (by decide) ?_
  refine V.iload_n dX11_copyHalf_43 0 rfl ?_
  refine V.iadd dX11_copyHalf_44 ?_
  refine V.topc (v := 5) (by decide) ?_
  refine V.iald 2 rfl (vin rfl) dX11_copyHalf_45 ?_
  refine V.topc (v := (Re 5)) (rfl) ?_
  refine V.iast (vw2 := [(o, ob 10 [.ref mw, .ref mk, .ref mt, .ref mr, .ref mki, .ref mso, .ref mst, .ref mpr, .ref msh, .ref mwa, .ref mpu, .ref mtx, .int ts, .int ma, .int bg, .int wr, .int cl, .int um, .ref mor, .ref mbo, .int mn, .ref tO, .ref tVi, .ref tSm, .int tm]), (mt, aI E 8 (upd (upd Ti 0 (Ti 4)) 1 (Ti 5))), (mr, aI E 8 (upd (upd Re 0 (Re 4)) 1 (Re 5))), (mki, aI E 12 Ki), (mso, aI E 12 So), (mst, aI E 12 St), (mpr, aI E 12 Pr), (msh, aI E 2 Sh), (mwa, aI E 2 Wa), (mpu, aI E 2 Pu)]) 2 rfl (vin rfl) (rfl) dX11_copyHalf_46 ?_
  refine V.iinc (v := 2) (lv2 := [(3, .int 2), (0, .ref o), (1, .int 1), (2, .int 0)]) dX11_copyHalf_47 0 rfl (by decide) (by decide) rfl ?_
  refine V.goto (tgt := 2) dX11_copyHalf_50 (by decide) ?_
  refine V.iload_n dX11_copyHalf_2 0 rfl ?_
  refine V.iconst (v := 4) dX11_copyHalf_3 (by decide) ?_
  refine V.icmp_ge (tgt := 53) dX11_copyHalf_4 (by decide) (fun hc => absurd hc (by decide)) (fun _ => ?_)
  refine V.aload_n dX11_copyHalf_7 1 rfl ?_
  refine V.getf 0 2 rfl fa_X11_17_10 rfl dX11_copyHalf_8 ?_
  refine V.iconst (v := 4) dX11_copyHalf_11 (by decide) ?_
  refine V.iload_n dX11_copyHalf_12 3 rfl ?_
  refine V.imul dX11_copyHalf_13 ?_
  refine V.topc (v := 0) (by decide) ?_
  refine V.iload_n dX11_copyHalf_14 0 rfl ?_
  refine V.iadd dX11_copyHalf_15 ?_
  refine V.topc (v := 2) (by decide) ?_
  refine V.aload_n dX11_copyHalf_16 1 rfl ?_
  refine V.getf 0 2 rfl fa_X11_17_10 rfl dX11_copyHalf_17 ?_
  refine V.iconst (v := 4) dX11_copyHalf_20 (by decide) ?_
  refine V.iload_n dX11_copyHalf_21 2 rfl ?_
  refine V.imul dX11_copyHalf_22 ?_
  refine V.topc (v := 4) (by decide) ?_
  refine V.iload_n dX11_copyHalf_23 0 rfl ?_
  refine V.iadd dX11_copyHalf_24 ?_
  refine V.topc (v := 6) (by decide) ?_
  refine V.iald 1 rfl (vin rfl) dX11_copyHalf_25 ?_
  refine V.topc (v := (Ti 6)) (rfl) ?_
  refine V.iast (vw2 := [(o, ob 10 [.ref mw, .ref mk, .ref mt, .ref mr, .ref mki, .ref mso, .ref mst, .ref mpr, .ref msh, .ref mwa, .ref mpu, .ref mtx, .int ts, .int ma, .int bg, .int wr, .int cl, .int um, .ref mor, .ref mbo, .int mn, .ref tO, .ref tVi, .ref tSm, .int tm]), (mt, aI E 8 (upd (upd (upd Ti 0 (Ti 4)) 1 (Ti 5)) 2 (Ti 6))), (mr, aI E 8 (upd (upd Re 0 (Re 4)) 1 (Re 5))), (mki, aI E 12 Ki), (mso, aI E 12 So), (mst, aI E 12 St), (mpr, aI E 12 Pr), (msh, aI E 2 Sh), (mwa, aI E 2 Wa), (mpu, aI E 2 Pu)]) 1 rfl (vin rfl) (rfl) dX11_copyHalf_26 ?_
  refine V.aload_n dX11_copyHalf_27 1 rfl ?_
  refine V.getf 0 3 rfl fa_X11_20_10 rfl dX11_copyHalf_28 ?_
  refine V.iconst (v := 4) dX11_copyHalf_31 (by decide) ?_
  refine V.iload_n dX11_copyHalf_32 3 rfl ?_
  refine V.imul dX11_copyHalf_33 ?_
  refine V.topc (v := 0) (by decide) ?_
  refine V.iload_n dX11_copyHalf_34 0 rfl ?_
  refine V.iadd dX11_copyHalf_35 ?_
  refine V.topc (v := 2) (by decide) ?_
  refine V.aload_n dX11_copyHalf_36 1 rfl ?_
  refine V.getf 0 3 rfl fa_X11_20_10 rfl dX11_copyHalf_37 ?_
  refine V.iconst (v := 4) dX11_copyHalf_40 (by decide) ?_
  refine V.iload_n dX11_copyHalf_41 2 rfl ?_
  refine V.imul dX11_copyHalf_42 ?_
  refine V.topc (v := 4) (by decide) ?_
  refine V.iload_n dX11_copyHalf_43 0 rfl ?_
  refine V.iadd dX11_copyHalf_44 ?_
  refine V.topc (v := 6) (by decide) ?_
  refine V.iald 2 rfl (vin rfl) dX11_copyHalf_45 ?_
  refine V.topc (v := (Re 6)) (rfl) ?_
  refine V.iast (vw2 := [(o, ob 10 [.ref mw, .ref mk, .ref mt, .ref mr, .ref mki, .ref mso, .ref mst, .ref mpr, .ref msh, .ref mwa, .ref mpu, .ref mtx, .int ts, .int ma, .int bg, .int wr, .int cl, .int um, .ref mor, .ref mbo, .int mn, .ref tO, .ref tVi, .ref tSm, .int tm]), (mt, aI E 8 (upd (upd (upd Ti 0 (Ti 4)) 1 (Ti 5)) 2 (Ti 6))), (mr, aI E 8 (upd (upd (upd Re 0 (Re 4)) 1 (Re 5)) 2 (Re 6))), (mki, aI E 12 Ki), (mso, aI E 12 So), (mst, aI E 12 St), (mpr, aI E 12 Pr), (msh, aI E 2 Sh), (mwa, aI E 2 Wa), (mpu, aI E 2 Pu)]) 2 rfl (vin rfl) (rfl) dX11_copyHalf_46 ?_
  refine V.iinc (v := 3) (lv2 := [(3, .int 3), (0, .ref o), (1, .int 1), (2, .int 0)]) dX11_copyHalf_47 0 rfl (by decide) (by decide) rfl ?_
  refine V.goto (tgt := 2) dX11_copyHalf_50 (by decide) ?_
  refine V.iload_n dX11_copyHalf_2 0 rfl ?_
  refine V.iconst (v := 4) dX11_copyHalf_3 (by decide) ?_
  refine V.icmp_ge (tgt := 53) dX11_copyHalf_4 (by decide) (fun hc => absurd hc (by decide)) (fun _ => ?_)
  refine V.aload_n dX11_copyHalf_7 1 rfl ?_
  refine V.getf 0 2 rfl fa_X11_17_10 rfl dX11_copyHalf_8 ?_
  refine V.iconst (v := 4) dX11_copyHalf_11 (by decide) ?_
  refine V.iload_n dX11_copyHalf_12 3 rfl ?_
  refine V.imul dX11_copyHalf_13 ?_
  refine V.topc (v := 0) (by decide) ?_
  refine V.iload_n dX11_copyHalf_14 0 rfl ?_
  refine V.iadd dX11_copyHalf_15 ?_
  refine V.topc (v := 3) (by decide) ?_
  refine V.aload_n dX11_copyHalf_16 1 rfl ?_
  refine V.getf 0 2 rfl fa_X11_17_10 rfl dX11_copyHalf_17 ?_
  refine V.iconst (v := 4) dX11_copyHalf_20 (by decide) ?_
  refine V.iload_n dX11_copyHalf_21 2 rfl ?_
  refine V.imul dX11_copyHalf_22 ?_
  refine V.topc (v := 4) (by decide) ?_
  refine V.iload_n dX11_copyHalf_23 0 rfl ?_
  refine V.iadd dX11_copyHalf_24 ?_
  refine V.topc (v := 7) (by decide) ?_
  refine V.iald 1 rfl (vin rfl) dX11_copyHalf_25 ?_
  refine V.topc (v := (Ti 7)) (rfl) ?_
  refine V.iast (vw2 := [(o, ob 10 [.ref mw, .ref mk, .ref mt, .ref mr, .ref mki, .ref mso, .ref mst, .ref mpr, .ref msh, .ref mwa, .ref mpu, .ref mtx, .int ts, .int ma, .int bg, .int wr, .int cl, .int um, .ref mor, .ref mbo, .int mn, .ref tO, .ref tVi, .ref tSm, .int tm]), (mt, aI E 8 (upd (upd (upd (upd Ti 0 (Ti 4)) 1 (Ti 5)) 2 (Ti 6)) 3 (Ti 7))), (mr, aI E 8 (upd (upd (upd Re 0 (Re 4)) 1 (Re 5)) 2 (Re 6))), (mki, aI E 12 Ki), (mso, aI E 12 So), (mst, aI E 12 St), (mpr, aI E 12 Pr), (msh, aI E 2 Sh), (mwa, aI E 2 Wa), (mpu, aI E 2 Pu)]) 1 rfl (vin rfl) (rfl) dX11_copyHalf_26 ?_
  refine V.aload_n dX11_copyHalf_27 1 rfl ?_
  refine V.getf 0 3 rfl fa_X11_20_10 rfl dX11_copyHalf_28 ?_
  refine V.iconst (v := 4) dX11_copyHalf_31 (by decide) ?_
  refine V.iload_n dX11_copyHalf_32 3 rfl ?_
  refine V.imul dX11_copyHalf_33 ?_
  refine V.topc (v := 0) (by decide) ?_
  refine V.iload_n dX11_copyHalf_34 0 rfl ?_
  refine V.iadd dX11_copyHalf_35 ?_
  refine V.topc (v := 3) (by decide) ?_
  refine V.aload_n dX11_copyHalf_36 1 rfl ?_
  refine V.getf 0 3 rfl fa_X11_20_10 rfl dX11_copyHalf_37 ?_
  refine V.iconst (v := 4) dX11_copyHalf_40 (by decide) ?_
  refine V.iload_n dX11_copyHalf_41 2 rfl ?_
  refine V.imul dX11_copyHalf_42 ?_
  refine V.topc (v := 4) (by decide) ?_
  refine V.iload_n dX11_copyHalf_43 0 rfl ?_
  refine V.iadd dX11_copyHalf_44 ?_
  refine V.topc (v := 7) (by decide) ?_
  refine V.iald 2 rfl (vin rfl) dX11_copyHalf_45 ?_
  refine V.topc (v := (Re 7)) (rfl) ?_
  refine V.iast (vw2 := [(o, ob 10 [.ref mw, .ref mk, .ref mt, .ref mr, .ref mki, .ref mso, .ref mst, .ref mpr, .ref msh, .ref mwa, .ref mpu, .ref mtx, .int ts, .int ma, .int bg, .int wr, .int cl, .int um, .ref mor, .ref mbo, .int mn, .ref tO, .ref tVi, .ref tSm, .int tm]), (mt, aI E 8 (upd (upd (upd (upd Ti 0 (Ti 4)) 1 (Ti 5)) 2 (Ti 6)) 3 (Ti 7))), (mr, aI E 8 (upd (upd (upd (upd Re 0 (Re 4)) 1 (Re 5)) 2 (Re 6)) 3 (Re 7))), (mki, aI E 12 Ki), (mso, aI E 12 So), (mst, aI E 12 St), (mpr, aI E 12 Pr), (msh, aI E 2 Sh), (mwa, aI E 2 Wa), (mpu, aI E 2 Pu)]) 2 rfl (vin rfl) (rfl) dX11_copyHalf_46 ?_
  refine V.iinc (v := 4) (lv2 := [(3, .int 4), (0, .ref o), (1, .int 1), (2, .int 0)]) dX11_copyHalf_47 0 rfl (by decide) (by decide) rfl ?_
  refine V.goto (tgt := 2) dX11_copyHalf_50 (by decide) ?_
  refine V.iload_n dX11_copyHalf_2 0 rfl ?_
  refine V.iconst (v := 4) dX11_copyHalf_3 (by decide) ?_
  refine V.icmp_ge (tgt := 53) dX11_copyHalf_4 (by decide) (fun _ => ?_) (fun hc => absurd (by decide) hc)
  refine V.iconst (v := 0) dX11_copyHalf_53 (by decide) ?_
  refine V.istore_n (lv2 := [(3, .int 0), (0, .ref o), (1, .int 1), (2, .int 0)]) dX11_copyHalf_54 rfl (by decide) rfl ?_
  refine V.iload_n dX11_copyHalf_55 0 rfl ?_
  refine V.bipush (v := 6) dX11_copyHalf_56 (by decide) ?_
  refine V.icmp_ge (tgt := 155) dX11_copyHalf_58 (by decide) (fun hc => absurd hc (by decide)) (fun _ => ?_)
  refine V.aload_n dX11_copyHalf_61 1 rfl ?_
  refine V.getf 0 4 rfl fa_X11_23_10 rfl dX11_copyHalf_62 ?_
  refine V.bipush (v := 6) dX11_copyHalf_65 (by decide) ?_
  refine V.iload_n dX11_copyHalf_67 3 rfl ?_
  refine V.imul dX11_copyHalf_68 ?_
  refine V.topc (v := 0) (by decide) ?_
  refine V.iload_n dX11_copyHalf_69 0 rfl ?_
  refine V.iadd dX11_copyHalf_70 ?_
  refine V.topc (v := 0) (by decide) ?_
  refine V.aload_n dX11_copyHalf_71 1 rfl ?_
  refine V.getf 0 4 rfl fa_X11_23_10 rfl dX11_copyHalf_72 ?_
  refine V.bipush (v := 6) dX11_copyHalf_75 (by decide) ?_
  refine V.iload_n dX11_copyHalf_77 2 rfl ?_
  refine V.imul dX11_copyHalf_78 ?_
  refine V.topc (v := 6) (by decide) ?_
  refine V.iload_n dX11_copyHalf_79 0 rfl ?_
  refine V.iadd dX11_copyHalf_80 ?_
  refine V.topc (v := 6) (by decide) ?_
  refine V.iald 3 rfl (vin rfl) dX11_copyHalf_81 ?_
  refine V.topc (v := (Ki 6)) (rfl) ?_
  refine V.iast (vw2 := [(o, ob 10 [.ref mw, .ref mk, .ref mt, .ref mr, .ref mki, .ref mso, .ref mst, .ref mpr, .ref msh, .ref mwa, .ref mpu, .ref mtx, .int ts, .int ma, .int bg, .int wr, .int cl, .int um, .ref mor, .ref mbo, .int mn, .ref tO, .ref tVi, .ref tSm, .int tm]), (mt, aI E 8 (upd (upd (upd (upd Ti 0 (Ti 4)) 1 (Ti 5)) 2 (Ti 6)) 3 (Ti 7))), (mr, aI E 8 (upd (upd (upd (upd Re 0 (Re 4)) 1 (Re 5)) 2 (Re 6)) 3 (Re 7))), (mki, aI E 12 (upd Ki 0 (Ki 6))), (mso, aI E 12 So), (mst, aI E 12 St), (mpr, aI E 12 Pr), (msh, aI E 2 Sh), (mwa, aI E 2 Wa), (mpu, aI E 2 Pu)]) 3 rfl (vin rfl) (rfl) dX11_copyHalf_82 ?_
  refine V.aload_n dX11_copyHalf_83 1 rfl ?_
  refine V.getf 0 5 rfl fa_X11_26_10 rfl dX11_copyHalf_84 ?_
  refine V.bipush (v := 6) dX11_copyHalf_87 (by decide) ?_
  refine V.iload_n dX11_copyHalf_89 3 rfl ?_
  refine V.imul dX11_copyHalf_90 ?_
  refine V.topc (v := 0) (by decide) ?_
  refine V.iload_n dX11_copyHalf_91 0 rfl ?_
  refine V.iadd dX11_copyHalf_92 ?_
  refine V.topc (v := 0) (by decide) ?_
  refine V.aload_n dX11_copyHalf_93 1 rfl ?_
  refine V.getf 0 5 rfl fa_X11_26_10 rfl dX11_copyHalf_94 ?_
  refine V.bipush (v := 6) dX11_copyHalf_97 (by decide) ?_
  refine V.iload_n dX11_copyHalf_99 2 rfl ?_
  refine V.imul dX11_copyHalf_100 ?_
  refine V.topc (v := 6) (by decide) ?_
  refine V.iload_n dX11_copyHalf_101 0 rfl ?_
  refine V.iadd dX11_copyHalf_102 ?_
  refine V.topc (v := 6) (by decide) ?_
  refine V.iald 4 rfl (vin rfl) dX11_copyHalf_103 ?_
  refine V.topc (v := (So 6)) (rfl) ?_
  refine V.iast (vw2 := [(o, ob 10 [.ref mw, .ref mk, .ref mt, .ref mr, .ref mki, .ref mso, .ref mst, .ref mpr, .ref msh, .ref mwa, .ref mpu, .ref mtx, .int ts, .int ma, .int bg, .int wr, .int cl, .int um, .ref mor, .ref mbo, .int mn, .ref tO, .ref tVi, .ref tSm, .int tm]), (mt, aI E 8 (upd (upd (upd (upd Ti 0 (Ti 4)) 1 (Ti 5)) 2 (Ti 6)) 3 (Ti 7))), (mr, aI E 8 (upd (upd (upd (upd Re 0 (Re 4)) 1 (Re 5)) 2 (Re 6)) 3 (Re 7))), (mki, aI E 12 (upd Ki 0 (Ki 6))), (mso, aI E 12 (upd So 0 (So 6))), (mst, aI E 12 St), (mpr, aI E 12 Pr), (msh, aI E 2 Sh), (mwa, aI E 2 Wa), (mpu, aI E 2 Pu)]) 4 rfl (vin rfl) (rfl) dX11_copyHalf_104 ?_
  refine V.aload_n dX11_copyHalf_105 1 rfl ?_
  refine V.getf 0 6 rfl fa_X11_29_10 rfl dX11_copyHalf_106 ?_
  refine V.bipush (v := 6) dX11_copyHalf_109 (by decide) ?_
  refine V.iload_n dX11_copyHalf_111 3 rfl ?_
  refine V.imul dX11_copyHalf_112 ?_
  refine V.topc (v := 0) (by decide) ?_
  refine V.iload_n dX11_copyHalf_113 0 rfl ?_
  refine V.iadd dX11_copyHalf_114 ?_
  refine V.topc (v := 0) (by decide) ?_
  refine V.aload_n dX11_copyHalf_115 1 rfl ?_
  refine V.getf 0 6 rfl fa_X11_29_10 rfl dX11_copyHalf_116 ?_
  refine V.bipush (v := 6) dX11_copyHalf_119 (by decide) ?_
  refine V.iload_n dX11_copyHalf_121 2 rfl ?_
  refine V.imul dX11_copyHalf_122 ?_
  refine V.topc (v := 6) (by decide) ?_
  refine V.iload_n dX11_copyHalf_123 0 rfl ?_
  refine V.iadd dX11_copyHalf_124 ?_
  refine V.topc (v := 6) (by decide) ?_
  refine V.iald 5 rfl (vin rfl) dX11_copyHalf_125 ?_
  refine V.topc (v := (St 6)) (rfl) ?_
  refine V.iast (vw2 := [(o, ob 10 [.ref mw, .ref mk, .ref mt, .ref mr, .ref mki, .ref mso, .ref mst, .ref mpr, .ref msh, .ref mwa, .ref mpu, .ref mtx, .int ts, .int ma, .int bg, .int wr, .int cl, .int um, .ref mor, .ref mbo, .int mn, .ref tO, .ref tVi, .ref tSm, .int tm]), (mt, aI E 8 (upd (upd (upd (upd Ti 0 (Ti 4)) 1 (Ti 5)) 2 (Ti 6)) 3 (Ti 7))), (mr, aI E 8 (upd (upd (upd (upd Re 0 (Re 4)) 1 (Re 5)) 2 (Re 6)) 3 (Re 7))), (mki, aI E 12 (upd Ki 0 (Ki 6))), (mso, aI E 12 (upd So 0 (So 6))), (mst, aI E 12 (upd St 0 (St 6))), (mpr, aI E 12 Pr), (msh, aI E 2 Sh), (mwa, aI E 2 Wa), (mpu, aI E 2 Pu)]) 5 rfl (vin rfl) (rfl) dX11_copyHalf_126 ?_
  refine V.aload_n dX11_copyHalf_127 1 rfl ?_
  refine V.getf 0 7 rfl fa_X11_32_10 rfl dX11_copyHalf_128 ?_
  refine V.bipush (v := 6) dX11_copyHalf_131 (by decide) ?_
  refine V.iload_n dX11_copyHalf_133 3 rfl ?_
  refine V.imul dX11_copyHalf_134 ?_
  refine V.topc (v := 0) (by decide) ?_
  refine V.iload_n dX11_copyHalf_135 0 rfl ?_
  refine V.iadd dX11_copyHalf_136 ?_
  refine V.topc (v := 0) (by decide) ?_
  refine V.aload_n dX11_copyHalf_137 1 rfl ?_
  refine V.getf 0 7 rfl fa_X11_32_10 rfl dX11_copyHalf_138 ?_
  refine V.bipush (v := 6) dX11_copyHalf_141 (by decide) ?_
  refine V.iload_n dX11_copyHalf_143 2 rfl ?_
  refine V.imul dX11_copyHalf_144 ?_
  refine V.topc (v := 6) (by decide) ?_
  refine V.iload_n dX11_copyHalf_145 0 rfl ?_
  refine V.iadd dX11_copyHalf_146 ?_
  refine V.topc (v := 6) (by decide) ?_
  refine V.iald 6 rfl (vin rfl) dX11_copyHalf_147 ?_
  refine V.topc (v := (Pr 6)) (rfl) ?_
  refine V.iast (vw2 := [(o, ob 10 [.ref mw, .ref mk, .ref mt, .ref mr, .ref mki, .ref mso, .ref mst, .ref mpr, .ref msh, .ref mwa, .ref mpu, .ref mtx, .int ts, .int ma, .int bg, .int wr, .int cl, .int um, .ref mor, .ref mbo, .int mn, .ref tO, .ref tVi, .ref tSm, .int tm]), (mt, aI E 8 (upd (upd (upd (upd Ti 0 (Ti 4)) 1 (Ti 5)) 2 (Ti 6)) 3 (Ti 7))), (mr, aI E 8 (upd (upd (upd (upd Re 0 (Re 4)) 1 (Re 5)) 2 (Re 6)) 3 (Re 7))), (mki, aI E 12 (upd Ki 0 (Ki 6))), (mso, aI E 12 (upd So 0 (So 6))), (mst, aI E 12 (upd St 0 (St 6))), (mpr, aI E 12 (upd Pr 0 (Pr 6))), (msh, aI E 2 Sh), (mwa, aI E 2 Wa), (mpu, aI E 2 Pu)]) 6 rfl (vin rfl) (rfl) dX11_copyHalf_148 ?_
  refine V.iinc (v := 1) (lv2 := [(3, .int 1), (0, .ref o), (1, .int 1), (2, .int 0)]) dX11_copyHalf_149 0 rfl (by decide) (by decide) rfl ?_
  refine V.goto (tgt := 55) dX11_copyHalf_152 (by decide) ?_
  refine V.iload_n dX11_copyHalf_55 0 rfl ?_
  refine V.bipush (v := 6) dX11_copyHalf_56 (by decide) ?_
  refine V.icmp_ge (tgt := 155) dX11_copyHalf_58 (by decide) (fun hc => absurd hc (by decide)) (fun _ => ?_)
  refine V.aload_n dX11_copyHalf_61 1 rfl ?_
  refine V.getf 0 4 rfl fa_X11_23_10 rfl dX11_copyHalf_62 ?_
  refine V.bipush (v := 6) dX11_copyHalf_65 (by decide) ?_
  refine V.iload_n dX11_copyHalf_67 3 rfl ?_
  refine V.imul dX11_copyHalf_68 ?_
  refine V.topc (v := 0) (by decide) ?_
  refine V.iload_n dX11_copyHalf_69 0 rfl ?_
  refine V.iadd dX11_copyHalf_70 ?_
  refine V.topc (v := 1) (by decide) ?_
  refine V.aload_n dX11_copyHalf_71 1 rfl ?_
  refine V.getf 0 4 rfl fa_X11_23_10 rfl dX11_copyHalf_72 ?_
  refine V.bipush (v := 6) dX11_copyHalf_75 (by decide) ?_
  refine V.iload_n dX11_copyHalf_77 2 rfl ?_
  refine V.imul dX11_copyHalf_78 ?_
  refine V.topc (v := 6) (by decide) ?_
  refine V.iload_n dX11_copyHalf_79 0 rfl ?_
  refine V.iadd dX11_copyHalf_80 ?_
  refine V.topc (v := 7) (by decide) ?_
  refine V.iald 3 rfl (vin rfl) dX11_copyHalf_81 ?_
  refine V.topc (v := (Ki 7)) (rfl) ?_
  refine V.iast (vw2 := [(o, ob 10 [.ref mw, .ref mk, .ref mt, .ref mr, .ref mki, .ref mso, .ref mst, .ref mpr, .ref msh, .ref mwa, .ref mpu, .ref mtx, .int ts, .int ma, .int bg, .int wr, .int cl, .int um, .ref mor, .ref mbo, .int mn, .ref tO, .ref tVi, .ref tSm, .int tm]), (mt, aI E 8 (upd (upd (upd (upd Ti 0 (Ti 4)) 1 (Ti 5)) 2 (Ti 6)) 3 (Ti 7))), (mr, aI E 8 (upd (upd (upd (upd Re 0 (Re 4)) 1 (Re 5)) 2 (Re 6)) 3 (Re 7))), (mki, aI E 12 (upd (upd Ki 0 (Ki 6)) 1 (Ki 7))), (mso, aI E 12 (upd So 0 (So 6))), (mst, aI E 12 (upd St 0 (St 6))), (mpr, aI E 12 (upd Pr 0 (Pr 6))), (msh, aI E 2 Sh), (mwa, aI E 2 Wa), (mpu, aI E 2 Pu)]) 3 rfl (vin rfl) (rfl) dX11_copyHalf_82 ?_
  refine V.aload_n dX11_copyHalf_83 1 rfl ?_
  refine V.getf 0 5 rfl fa_X11_26_10 rfl dX11_copyHalf_84 ?_
  refine V.bipush (v := 6) dX11_copyHalf_87 (by decide) ?_
  refine V.iload_n dX11_copyHalf_89 3 rfl ?_
  refine V.imul dX11_copyHalf_90 ?_
  refine V.topc (v := 0) (by decide) ?_
  refine V.iload_n dX11_copyHalf_91 0 rfl ?_
  refine V.iadd dX11_copyHalf_92 ?_
  refine V.topc (v := 1) (by decide) ?_
  refine V.aload_n dX11_copyHalf_93 1 rfl ?_
  refine V.getf 0 5 rfl fa_X11_26_10 rfl dX11_copyHalf_94 ?_
  refine V.bipush (v := 6) dX11_copyHalf_97 (by decide) ?_
  refine V.iload_n dX11_copyHalf_99 2 rfl ?_
  refine V.imul dX11_copyHalf_100 ?_
  refine V.topc (v := 6) (by decide) ?_
  refine V.iload_n dX11_copyHalf_101 0 rfl ?_
  refine V.iadd dX11_copyHalf_102 ?_
  refine V.topc (v := 7) (by decide) ?_
  refine V.iald 4 rfl (vin rfl) dX11_copyHalf_103 ?_
  refine V.topc (v := (So 7)) (rfl) ?_
  refine V.iast (vw2 := [(o, ob 10 [.ref mw, .ref mk, .ref mt, .ref mr, .ref mki, .ref mso, .ref mst, .ref mpr, .ref msh, .ref mwa, .ref mpu, .ref mtx, .int ts, .int ma, .int bg, .int wr, .int cl, .int um, .ref mor, .ref mbo, .int mn, .ref tO, .ref tVi, .ref tSm, .int tm]), (mt, aI E 8 (upd (upd (upd (upd Ti 0 (Ti 4)) 1 (Ti 5)) 2 (Ti 6)) 3 (Ti 7))), (mr, aI E 8 (upd (upd (upd (upd Re 0 (Re 4)) 1 (Re 5)) 2 (Re 6)) 3 (Re 7))), (mki, aI E 12 (upd (upd Ki 0 (Ki 6)) 1 (Ki 7))), (mso, aI E 12 (upd (upd So 0 (So 6)) 1 (So 7))), (mst, aI E 12 (upd St 0 (St 6))), (mpr, aI E 12 (upd Pr 0 (Pr 6))), (msh, aI E 2 Sh), (mwa, aI E 2 Wa), (mpu, aI E 2 Pu)]) 4 rfl (vin rfl) (rfl) dX11_copyHalf_104 ?_
  refine V.aload_n dX11_copyHalf_105 1 rfl ?_
  refine V.getf 0 6 rfl fa_X11_29_10 rfl dX11_copyHalf_106 ?_
  refine V.bipush (v := 6) dX11_copyHalf_109 (by decide) ?_
  refine V.iload_n dX11_copyHalf_111 3 rfl ?_
  refine V.imul dX11_copyHalf_112 ?_
  refine V.topc (v := 0) (by decide) ?_
  refine V.iload_n dX11_copyHalf_113 0 rfl ?_
  refine V.iadd dX11_copyHalf_114 ?_
  refine V.topc (v := 1) (by decide) ?_
  refine V.aload_n dX11_copyHalf_115 1 rfl ?_
  refine V.getf 0 6 rfl fa_X11_29_10 rfl dX11_copyHalf_116 ?_
  refine V.bipush (v := 6) dX11_copyHalf_119 (by decide) ?_
  refine V.iload_n dX11_copyHalf_121 2 rfl ?_
  refine V.imul dX11_copyHalf_122 ?_
  refine V.topc (v := 6) (by decide) ?_
  refine V.iload_n dX11_copyHalf_123 0 rfl ?_
  refine V.iadd dX11_copyHalf_124 ?_
  refine V.topc (v := 7) (by decide) ?_
  refine V.iald 5 rfl (vin rfl) dX11_copyHalf_125 ?_
  refine V.topc (v := (St 7)) (rfl) ?_
  refine V.iast (vw2 := [(o, ob 10 [.ref mw, .ref mk, .ref mt, .ref mr, .ref mki, .ref mso, .ref mst, .ref mpr, .ref msh, .ref mwa, .ref mpu, .ref mtx, .int ts, .int ma, .int bg, .int wr, .int cl, .int um, .ref mor, .ref mbo, .int mn, .ref tO, .ref tVi, .ref tSm, .int tm]), (mt, aI E 8 (upd (upd (upd (upd Ti 0 (Ti 4)) 1 (Ti 5)) 2 (Ti 6)) 3 (Ti 7))), (mr, aI E 8 (upd (upd (upd (upd Re 0 (Re 4)) 1 (Re 5)) 2 (Re 6)) 3 (Re 7))), (mki, aI E 12 (upd (upd Ki 0 (Ki 6)) 1 (Ki 7))), (mso, aI E 12 (upd (upd So 0 (So 6)) 1 (So 7))), (mst, aI E 12 (upd (upd St 0 (St 6)) 1 (St 7))), (mpr, aI E 12 (upd Pr 0 (Pr 6))), (msh, aI E 2 Sh), (mwa, aI E 2 Wa), (mpu, aI E 2 Pu)]) 5 rfl (vin rfl) (rfl) dX11_copyHalf_126 ?_
  refine V.aload_n dX11_copyHalf_127 1 rfl ?_
  refine V.getf 0 7 rfl fa_X11_32_10 rfl dX11_copyHalf_128 ?_
  refine V.bipush (v := 6) dX11_copyHalf_131 (by decide) ?_
  refine V.iload_n dX11_copyHalf_133 3 rfl ?_
  refine V.imul dX11_copyHalf_134 ?_
  refine V.topc (v := 0) (by decide) ?_
  refine V.iload_n dX11_copyHalf_135 0 rfl ?_
  refine V.iadd dX11_copyHalf_136 ?_
  refine V.topc (v := 1) (by decide) ?_
  refine V.aload_n dX11_copyHalf_137 1 rfl ?_
  refine V.getf 0 7 rfl fa_X11_32_10 rfl dX11_copyHalf_138 ?_
  refine V.bipush (v := 6) dX11_copyHalf_141 (by decide) ?_
  refine V.iload_n dX11_copyHalf_143 2 rfl ?_
  refine V.imul dX11_copyHalf_144 ?_
  refine V.topc (v := 6) (by decide) ?_
  refine V.iload_n dX11_copyHalf_145 0 rfl ?_
  refine V.iadd dX11_copyHalf_146 ?_
  refine V.topc (v := 7) (by decide) ?_
  refine V.iald 6 rfl (vin rfl) dX11_copyHalf_147 ?_
  refine V.topc (v := (Pr 7)) (rfl) ?_
  refine V.iast (vw2 := [(o, ob 10 [.ref mw, .ref mk, .ref mt, .ref mr, .ref mki, .ref mso, .ref mst, .ref mpr, .ref msh, .ref mwa, .ref mpu, .ref mtx, .int ts, .int ma, .int bg, .int wr, .int cl, .int um, .ref mor, .ref mbo, .int mn, .ref tO, .ref tVi, .ref tSm, .int tm]), (mt, aI E 8 (upd (upd (upd (upd Ti 0 (Ti 4)) 1 (Ti 5)) 2 (Ti 6)) 3 (Ti 7))), (mr, aI E 8 (upd (upd (upd (upd Re 0 (Re 4)) 1 (Re 5)) 2 (Re 6)) 3 (Re 7))), (mki, aI E 12 (upd (upd Ki 0 (Ki 6)) 1 (Ki 7))), (mso, aI E 12 (upd (upd So 0 (So 6)) 1 (So 7))), (mst, aI E 12 (upd (upd St 0 (St 6)) 1 (St 7))), (mpr, aI E 12 (upd (upd Pr 0 (Pr 6)) 1 (Pr 7))), (msh, aI E 2 Sh), (mwa, aI E 2 Wa), (mpu, aI E 2 Pu)]) 6 rfl (vin rfl) (rfl) dX11_copyHalf_148 ?_
  refine V.iinc (v := 2) (lv2 := [(3, .int 2), (0, .ref o), (1, .int 1), (2, .int 0)]) dX11_copyHalf_149 0 rfl (by decide) (by decide) rfl ?_
  refine V.goto (tgt := 55) dX11_copyHalf_152 (by decide) ?_
  refine V.iload_n dX11_copyHalf_55 0 rfl ?_
  refine V.bipush (v := 6) dX11_copyHalf_56 (by decide) ?_
  refine V.icmp_ge (tgt := 155) dX11_copyHalf_58 (by decide) (fun hc => absurd hc (by decide)) (fun _ => ?_)
  refine V.aload_n dX11_copyHalf_61 1 rfl ?_
  refine V.getf 0 4 rfl fa_X11_23_10 rfl dX11_copyHalf_62 ?_
  refine V.bipush (v := 6) dX11_copyHalf_65 (by decide) ?_
  refine V.iload_n dX11_copyHalf_67 3 rfl ?_
  refine V.imul dX11_copyHalf_68 ?_
  refine V.topc (v := 0) (by decide) ?_
  refine V.iload_n dX11_copyHalf_69 0 rfl ?_
  refine V.iadd dX11_copyHalf_70 ?_
  refine V.topc (v := 2) (by decide) ?_
  refine V.aload_n dX11_copyHalf_71 1 rfl ?_
  refine V.getf 0 4 rfl fa_X11_23_10 rfl dX11_copyHalf_72 ?_
  refine V.bipush (v := 6) dX11_copyHalf_75 (by decide) ?_
  refine V.iload_n dX11_copyHalf_77 2 rfl ?_
  refine V.imul dX11_copyHalf_78 ?_
  refine V.topc (v := 6) (by decide) ?_
  refine V.iload_n dX11_copyHalf_79 0 rfl ?_
  refine V.iadd dX11_copyHalf_80 ?_
  refine V.topc (v := 8) (by decide) ?_
  refine V.iald 3 rfl (vin rfl) dX11_copyHalf_81 ?_
  refine V.topc (v := (Ki 8)) (rfl) ?_
  refine V.iast (vw2 := [(o, ob 10 [.ref mw, .ref mk, .ref mt, .ref mr, .ref mki, .ref mso, .ref mst, .ref mpr, .ref msh, .ref mwa, .ref mpu, .ref mtx, .int ts, .int ma, .int bg, .int wr, .int cl, .int um, .ref mor, .ref mbo, .int mn, .ref tO, .ref tVi, .ref tSm, .int tm]), (mt, aI E 8 (upd (upd (upd (upd Ti 0 (Ti 4)) 1 (Ti 5)) 2 (Ti 6)) 3 (Ti 7))), (mr, aI E 8 (upd (upd (upd (upd Re 0 (Re 4)) 1 (Re 5)) 2 (Re 6)) 3 (Re 7))), (mki, aI E 12 (upd (upd (upd Ki 0 (Ki 6)) 1 (Ki 7)) 2 (Ki 8))), (mso, aI E 12 (upd (upd So 0 (So 6)) 1 (So 7))), (mst, aI E 12 (upd (upd St 0 (St 6)) 1 (St 7))), (mpr, aI E 12 (upd (upd Pr 0 (Pr 6)) 1 (Pr 7))), (msh, aI E 2 Sh), (mwa, aI E 2 Wa), (mpu, aI E 2 Pu)]) 3 rfl (vin rfl) (rfl) dX11_copyHalf_82 ?_
  refine V.aload_n dX11_copyHalf_83 1 rfl ?_
  refine V.getf 0 5 rfl fa_X11_26_10 rfl dX11_copyHalf_84 ?_
  refine V.bipush (v := 6) dX11_copyHalf_87 (by decide) ?_
  refine V.iload_n dX11_copyHalf_89 3 rfl ?_
  refine V.imul dX11_copyHalf_90 ?_
  refine V.topc (v := 0) (by decide) ?_
  refine V.iload_n dX11_copyHalf_91 0 rfl ?_
  refine V.iadd dX11_copyHalf_92 ?_
  refine V.topc (v := 2) (by decide) ?_
  refine V.aload_n dX11_copyHalf_93 1 rfl ?_
  refine V.getf 0 5 rfl fa_X11_26_10 rfl dX11_copyHalf_94 ?_
  refine V.bipush (v := 6) dX11_copyHalf_97 (by decide) ?_
  refine V.iload_n dX11_copyHalf_99 2 rfl ?_
  refine V.imul dX11_copyHalf_100 ?_
  refine V.topc (v := 6) (by decide) ?_
  refine V.iload_n dX11_copyHalf_101 0 rfl ?_
  refine V.iadd dX11_copyHalf_102 ?_
  refine V.topc (v := 8) (by decide) ?_
  refine V.iald 4 rfl (vin rfl) dX11_copyHalf_103 ?_
  refine V.topc (v := (So 8)) (rfl) ?_
  refine V.iast (vw2 := [(o, ob 10 [.ref mw, .ref mk, .ref mt, .ref mr, .ref mki, .ref mso, .ref mst, .ref mpr, .ref msh, .ref mwa, .ref mpu, .ref mtx, .int ts, .int ma, .int bg, .int wr, .int cl, .int um, .ref mor, .ref mbo, .int mn, .ref tO, .ref tVi, .ref tSm, .int tm]), (mt, aI E 8 (upd (upd (upd (upd Ti 0 (Ti 4)) 1 (Ti 5)) 2 (Ti 6)) 3 (Ti 7))), (mr, aI E 8 (upd (upd (upd (upd Re 0 (Re 4)) 1 (Re 5)) 2 (Re 6)) 3 (Re 7))), (mki, aI E 12 (upd (upd (upd Ki 0 (Ki 6)) 1 (Ki 7)) 2 (Ki 8))), (mso, aI E 12 (upd (upd (upd So 0 (So 6)) 1 (So 7)) 2 (So 8))), (mst, aI E 12 (upd (upd St 0 (St 6)) 1 (St 7))), (mpr, aI E 12 (upd (upd Pr 0 (Pr 6)) 1 (Pr 7))), (msh, aI E 2 Sh), (mwa, aI E 2 Wa), (mpu, aI E 2 Pu)]) 4 rfl (vin rfl) (rfl) dX11_copyHalf_104 ?_
  refine V.aload_n dX11_copyHalf_105 1 rfl ?_
  refine V.getf 0 6 rfl fa_X11_29_10 rfl dX11_copyHalf_106 ?_
  refine V.bipush (v := 6) dX11_copyHalf_109 (by decide) ?_
  refine V.iload_n dX11_copyHalf_111 3 rfl ?_
  refine V.imul dX11_copyHalf_112 ?_
  refine V.topc (v := 0) (by decide) ?_
  refine V.iload_n dX11_copyHalf_113 0 rfl ?_
  refine V.iadd dX11_copyHalf_114 ?_
  refine V.topc (v := 2) (by decide) ?_
  refine V.aload_n dX11_copyHalf_115 1 rfl ?_
  refine V.getf 0 6 rfl fa_X11_29_10 rfl dX11_copyHalf_116 ?_
  refine V.bipush (v := 6) dX11_copyHalf_119 (by decide) ?_
  refine V.iload_n dX11_copyHalf_121 2 rfl ?_
  refine V.imul dX11_copyHalf_122 ?_
  refine V.topc (v := 6) (by decide) ?_
  refine V.iload_n dX11_copyHalf_123 0 rfl ?_
  refine V.iadd dX11_copyHalf_124 ?_
  refine V.topc (v := 8) (by decide) ?_
  refine V.iald 5 rfl (vin rfl) dX11_copyHalf_125 ?_
  refine V.topc (v := (St 8)) (rfl) ?_
  refine V.iast (vw2 := [(o, ob 10 [.ref mw, .ref mk, .ref mt, .ref mr, .ref mki, .ref mso, .ref mst, .ref mpr, .ref msh, .ref mwa, .ref mpu, .ref mtx, .int ts, .int ma, .int bg, .int wr, .int cl, .int um, .ref mor, .ref mbo, .int mn, .ref tO, .ref tVi, .ref tSm, .int tm]), (mt, aI E 8 (upd (upd (upd (upd Ti 0 (Ti 4)) 1 (Ti 5)) 2 (Ti 6)) 3 (Ti 7))), (mr, aI E 8 (upd (upd (upd (upd Re 0 (Re 4)) 1 (Re 5)) 2 (Re 6)) 3 (Re 7))), (mki, aI E 12 (upd (upd (upd Ki 0 (Ki 6)) 1 (Ki 7)) 2 (Ki 8))), (mso, aI E 12 (upd (upd (upd So 0 (So 6)) 1 (So 7)) 2 (So 8))), (mst, aI E 12 (upd (upd (upd St 0 (St 6)) 1 (St 7)) 2 (St 8))), (mpr, aI E 12 (upd (upd Pr 0 (Pr 6)) 1 (Pr 7))), (msh, aI E 2 Sh), (mwa, aI E 2 Wa), (mpu, aI E 2 Pu)]) 5 rfl (vin rfl) (rfl) dX11_copyHalf_126 ?_
  refine V.aload_n dX11_copyHalf_127 1 rfl ?_
  refine V.getf 0 7 rfl fa_X11_32_10 rfl dX11_copyHalf_128 ?_
  refine V.bipush (v := 6) dX11_copyHalf_131 (by decide) ?_
  refine V.iload_n dX11_copyHalf_133 3 rfl ?_
  refine V.imul dX11_copyHalf_134 ?_
  refine V.topc (v := 0) (by decide) ?_
  refine V.iload_n dX11_copyHalf_135 0 rfl ?_
  refine V.iadd dX11_copyHalf_136 ?_
  refine V.topc (v := 2) (by decide) ?_
  refine V.aload_n dX11_copyHalf_137 1 rfl ?_
  refine V.getf 0 7 rfl fa_X11_32_10 rfl dX11_copyHalf_138 ?_
  refine V.bipush (v := 6) dX11_copyHalf_141 (by decide) ?_
  refine V.iload_n dX11_copyHalf_143 2 rfl ?_
  refine V.imul dX11_copyHalf_144 ?_
  refine V.topc (v := 6) (by decide) ?_
  refine V.iload_n dX11_copyHalf_145 0 rfl ?_
  refine V.iadd dX11_copyHalf_146 ?_
  refine V.topc (v := 8) (by decide) ?_
  refine V.iald 6 rfl (vin rfl) dX11_copyHalf_147 ?_
  refine V.topc (v := (Pr 8)) (rfl) ?_
  refine V.iast (vw2 := [(o, ob 10 [.ref mw, .ref mk, .ref mt, .ref mr, .ref mki, .ref mso, .ref mst, .ref mpr, .ref msh, .ref mwa, .ref mpu, .ref mtx, .int ts, .int ma, .int bg, .int wr, .int cl, .int um, .ref mor, .ref mbo, .int mn, .ref tO, .ref tVi, .ref tSm, .int tm]), (mt, aI E 8 (upd (upd (upd (upd Ti 0 (Ti 4)) 1 (Ti 5)) 2 (Ti 6)) 3 (Ti 7))), (mr, aI E 8 (upd (upd (upd (upd Re 0 (Re 4)) 1 (Re 5)) 2 (Re 6)) 3 (Re 7))), (mki, aI E 12 (upd (upd (upd Ki 0 (Ki 6)) 1 (Ki 7)) 2 (Ki 8))), (mso, aI E 12 (upd (upd (upd So 0 (So 6)) 1 (So 7)) 2 (So 8))), (mst, aI E 12 (upd (upd (upd St 0 (St 6)) 1 (St 7)) 2 (St 8))), (mpr, aI E 12 (upd (upd (upd Pr 0 (Pr 6)) 1 (Pr 7)) 2 (Pr 8))), (msh, aI E 2 Sh), (mwa, aI E 2 Wa), (mpu, aI E 2 Pu)]) 6 rfl (vin rfl) (rfl) dX11_copyHalf_148 ?_
  refine V.iinc (v := 3) (lv2 := [(3, .int 3), (0, .ref o), (1, .int 1), (2, .int 0)]) dX11_copyHalf_149 0 rfl (by decide) (by decide) rfl ?_
  refine V.goto (tgt := 55) dX11_copyHalf_152 (by decide) ?_
  refine V.iload_n dX11_copyHalf_55 0 rfl ?_
  refine V.bipush (v := 6) dX11_copyHalf_56 (by decide) ?_
  refine V.icmp_ge (tgt := 155) dX11_copyHalf_58 (by decide) (fun hc => absurd hc (by decide)) (fun _ => ?_)
  refine V.aload_n dX11_copyHalf_61 1 rfl ?_
  refine V.getf 0 4 rfl fa_X11_23_10 rfl dX11_copyHalf_62 ?_
  refine V.bipush (v := 6) dX11_copyHalf_65 (by decide) ?_
  refine V.iload_n dX11_copyHalf_67 3 rfl ?_
  refine V.imul dX11_copyHalf_68 ?_
  refine V.topc (v := 0) (by decide) ?_
  refine V.iload_n dX11_copyHalf_69 0 rfl ?_
  refine V.iadd dX11_copyHalf_70 ?_
  refine V.topc (v := 3) (by decide) ?_
  refine V.aload_n dX11_copyHalf_71 1 rfl ?_
  refine V.getf 0 4 rfl fa_X11_23_10 rfl dX11_copyHalf_72 ?_
  refine V.bipush (v := 6) dX11_copyHalf_75 (by decide) ?_
  refine V.iload_n dX11_copyHalf_77 2 rfl ?_
  refine V.imul dX11_copyHalf_78 ?_
  refine V.topc (v := 6) (by decide) ?_
  refine V.iload_n dX11_copyHalf_79 0 rfl ?_
  refine V.iadd dX11_copyHalf_80 ?_
  refine V.topc (v := 9) (by decide) ?_
  refine V.iald 3 rfl (vin rfl) dX11_copyHalf_81 ?_
  refine V.topc (v := (Ki 9)) (rfl) ?_
  refine V.iast (vw2 := [(o, ob 10 [.ref mw, .ref mk, .ref mt, .ref mr, .ref mki, .ref mso, .ref mst, .ref mpr, .ref msh, .ref mwa, .ref mpu, .ref mtx, .int ts, .int ma, .int bg, .int wr, .int cl, .int um, .ref mor, .ref mbo, .int mn, .ref tO, .ref tVi, .ref tSm, .int tm]), (mt, aI E 8 (upd (upd (upd (upd Ti 0 (Ti 4)) 1 (Ti 5)) 2 (Ti 6)) 3 (Ti 7))), (mr, aI E 8 (upd (upd (upd (upd Re 0 (Re 4)) 1 (Re 5)) 2 (Re 6)) 3 (Re 7))), (mki, aI E 12 (upd (upd (upd (upd Ki 0 (Ki 6)) 1 (Ki 7)) 2 (Ki 8)) 3 (Ki 9))), (mso, aI E 12 (upd (upd (upd So 0 (So 6)) 1 (So 7)) 2 (So 8))), (mst, aI E 12 (upd (upd (upd St 0 (St 6)) 1 (St 7)) 2 (St 8))), (mpr, aI E 12 (upd (upd (upd Pr 0 (Pr 6)) 1 (Pr 7)) 2 (Pr 8))), (msh, aI E 2 Sh), (mwa, aI E 2 Wa), (mpu, aI E 2 Pu)]) 3 rfl (vin rfl) (rfl) dX11_copyHalf_82 ?_
  refine V.aload_n dX11_copyHalf_83 1 rfl ?_
  refine V.getf 0 5 rfl fa_X11_26_10 rfl dX11_copyHalf_84 ?_
  refine V.bipush (v := 6) dX11_copyHalf_87 (by decide) ?_
  refine V.iload_n dX11_copyHalf_89 3 rfl ?_
  refine V.imul dX11_copyHalf_90 ?_
  refine V.topc (v := 0) (by decide) ?_
  refine V.iload_n dX11_copyHalf_91 0 rfl ?_
  refine V.iadd dX11_copyHalf_92 ?_
  refine V.topc (v := 3) (by decide) ?_
  refine V.aload_n dX11_copyHalf_93 1 rfl ?_
  refine V.getf 0 5 rfl fa_X11_26_10 rfl dX11_copyHalf_94 ?_
  refine V.bipush (v := 6) dX11_copyHalf_97 (by decide) ?_
  refine V.iload_n dX11_copyHalf_99 2 rfl ?_
  refine V.imul dX11_copyHalf_100 ?_
  refine V.topc (v := 6) (by decide) ?_
  refine V.iload_n dX11_copyHalf_101 0 rfl ?_
  refine V.iadd dX11_copyHalf_102 ?_
  refine V.topc (v := 9) (by decide) ?_
  refine V.iald 4 rfl (vin rfl) dX11_copyHalf_103 ?_
  refine V.topc (v := (So 9)) (rfl) ?_
  refine V.iast (vw2 := [(o, ob 10 [.ref mw, .ref mk, .ref mt, .ref mr, .ref mki, .ref mso, .ref mst, .ref mpr, .ref msh, .ref mwa, .ref mpu, .ref mtx, .int ts, .int ma, .int bg, .int wr, .int cl, .int um, .ref mor, .ref mbo, .int mn, .ref tO, .ref tVi, .ref tSm, .int tm]), (mt, aI E 8 (upd (upd (upd (upd Ti 0 (Ti 4)) 1 (Ti 5)) 2 (Ti 6)) 3 (Ti 7))), (mr, aI E 8 (upd (upd (upd (upd Re 0 (Re 4)) 1 (Re 5)) 2 (Re 6)) 3 (Re 7))), (mki, aI E 12 (upd (upd (upd (upd Ki 0 (Ki 6)) 1 (Ki 7)) 2 (Ki 8)) 3 (Ki 9))), (mso, aI E 12 (upd (upd (upd (upd So 0 (So 6)) 1 (So 7)) 2 (So 8)) 3 (So 9))), (mst, aI E 12 (upd (upd (upd St 0 (St 6)) 1 (St 7)) 2 (St 8))), (mpr, aI E 12 (upd (upd (upd Pr 0 (Pr 6)) 1 (Pr 7)) 2 (Pr 8))), (msh, aI E 2 Sh), (mwa, aI E 2 Wa), (mpu, aI E 2 Pu)]) 4 rfl (vin rfl) (rfl) dX11_copyHalf_104 ?_
  refine V.aload_n dX11_copyHalf_105 1 rfl ?_
  refine V.getf 0 6 rfl fa_X11_29_10 rfl dX11_copyHalf_106 ?_
  refine V.bipush (v := 6) dX11_copyHalf_109 (by decide) ?_
  refine V.iload_n dX11_copyHalf_111 3 rfl ?_
  refine V.imul dX11_copyHalf_112 ?_
  refine V.topc (v := 0) (by decide) ?_
  refine V.iload_n dX11_copyHalf_113 0 rfl ?_
  refine V.iadd dX11_copyHalf_114 ?_
  refine V.topc (v := 3) (by decide) ?_
  refine V.aload_n dX11_copyHalf_115 1 rfl ?_
  refine V.getf 0 6 rfl fa_X11_29_10 rfl dX11_copyHalf_116 ?_
  refine V.bipush (v := 6) dX11_copyHalf_119 (by decide) ?_
  refine V.iload_n dX11_copyHalf_121 2 rfl ?_
  refine V.imul dX11_copyHalf_122 ?_
  refine V.topc (v := 6) (by decide) ?_
  refine V.iload_n dX11_copyHalf_123 0 rfl ?_
  refine V.iadd dX11_copyHalf_124 ?_
  refine V.topc (v := 9) (by decide) ?_
  refine V.iald 5 rfl (vin rfl) dX11_copyHalf_125 ?_
  refine V.topc (v := (St 9)) (rfl) ?_
  refine V.iast (vw2 := [(o, ob 10 [.ref mw, .ref mk, .ref mt, .ref mr, .ref mki, .ref mso, .ref mst, .ref mpr, .ref msh, .ref mwa, .ref mpu, .ref mtx, .int ts, .int ma, .int bg, .int wr, .int cl, .int um, .ref mor, .ref mbo, .int mn, .ref tO, .ref tVi, .ref tSm, .int tm]), (mt, aI E 8 (upd (upd (upd (upd Ti 0 (Ti 4)) 1 (Ti 5)) 2 (Ti 6)) 3 (Ti 7))), (mr, aI E 8 (upd (upd (upd (upd Re 0 (Re 4)) 1 (Re 5)) 2 (Re 6)) 3 (Re 7))), (mki, aI E 12 (upd (upd (upd (upd Ki 0 (Ki 6)) 1 (Ki 7)) 2 (Ki 8)) 3 (Ki 9))), (mso, aI E 12 (upd (upd (upd (upd So 0 (So 6)) 1 (So 7)) 2 (So 8)) 3 (So 9))), (mst, aI E 12 (upd (upd (upd (upd St 0 (St 6)) 1 (St 7)) 2 (St 8)) 3 (St 9))), (mpr, aI E 12 (upd (upd (upd Pr 0 (Pr 6)) 1 (Pr 7)) 2 (Pr 8))), (msh, aI E 2 Sh), (mwa, aI E 2 Wa), (mpu, aI E 2 Pu)]) 5 rfl (vin rfl) (rfl) dX11_copyHalf_126 ?_
  refine V.aload_n dX11_copyHalf_127 1 rfl ?_
  refine V.getf 0 7 rfl fa_X11_32_10 rfl dX11_copyHalf_128 ?_
  refine V.bipush (v := 6) dX11_copyHalf_131 (by decide) ?_
  refine V.iload_n dX11_copyHalf_133 3 rfl ?_
  refine V.imul dX11_copyHalf_134 ?_
  refine V.topc (v := 0) (by decide) ?_
  refine V.iload_n dX11_copyHalf_135 0 rfl ?_
  refine V.iadd dX11_copyHalf_136 ?_
  refine V.topc (v := 3) (by decide) ?_
  refine V.aload_n dX11_copyHalf_137 1 rfl ?_
  refine V.getf 0 7 rfl fa_X11_32_10 rfl dX11_copyHalf_138 ?_
  refine V.bipush (v := 6) dX11_copyHalf_141 (by decide) ?_
  refine V.iload_n dX11_copyHalf_143 2 rfl ?_
  refine V.imul dX11_copyHalf_144 ?_
  refine V.topc (v := 6) (by decide) ?_
  refine V.iload_n dX11_copyHalf_145 0 rfl ?_
  refine V.iadd dX11_copyHalf_146 ?_
  refine V.topc (v := 9) (by decide) ?_
  refine V.iald 6 rfl (vin rfl) dX11_copyHalf_147 ?_
  refine V.topc (v := (Pr 9)) (rfl) ?_
  refine V.iast (vw2 := [(o, ob 10 [.ref mw, .ref mk, .ref mt, .ref mr, .ref mki, .ref mso, .ref mst, .ref mpr, .ref msh, .ref mwa, .ref mpu, .ref mtx, .int ts, .int ma, .int bg, .int wr, .int cl, .int um, .ref mor, .ref mbo, .int mn, .ref tO, .ref tVi, .ref tSm, .int tm]), (mt, aI E 8 (upd (upd (upd (upd Ti 0 (Ti 4)) 1 (Ti 5)) 2 (Ti 6)) 3 (Ti 7))), (mr, aI E 8 (upd (upd (upd (upd Re 0 (Re 4)) 1 (Re 5)) 2 (Re 6)) 3 (Re 7))), (mki, aI E 12 (upd (upd (upd (upd Ki 0 (Ki 6)) 1 (Ki 7)) 2 (Ki 8)) 3 (Ki 9))), (mso, aI E 12 (upd (upd (upd (upd So 0 (So 6)) 1 (So 7)) 2 (So 8)) 3 (So 9))), (mst, aI E 12 (upd (upd (upd (upd St 0 (St 6)) 1 (St 7)) 2 (St 8)) 3 (St 9))), (mpr, aI E 12 (upd (upd (upd (upd Pr 0 (Pr 6)) 1 (Pr 7)) 2 (Pr 8)) 3 (Pr 9))), (msh, aI E 2 Sh), (mwa, aI E 2 Wa), (mpu, aI E 2 Pu)]) 6 rfl (vin rfl) (rfl) dX11_copyHalf_148 ?_
  refine V.iinc (v := 4) (lv2 := [(3, .int 4), (0, .ref o), (1, .int 1), (2, .int 0)]) dX11_copyHalf_149 0 rfl (by decide) (by decide) rfl ?_
  refine V.goto (tgt := 55) dX11_copyHalf_152 (by decide) ?_
  refine V.iload_n dX11_copyHalf_55 0 rfl ?_
  refine V.bipush (v := 6) dX11_copyHalf_56 (by decide) ?_
  refine V.icmp_ge (tgt := 155) dX11_copyHalf_58 (by decide) (fun hc => absurd hc (by decide)) (fun _ => ?_)
  refine V.aload_n dX11_copyHalf_61 1 rfl ?_
  refine V.getf 0 4 rfl fa_X11_23_10 rfl dX11_copyHalf_62 ?_
  refine V.bipush (v := 6) dX11_copyHalf_65 (by decide) ?_
  refine V.iload_n dX11_copyHalf_67 3 rfl ?_
  refine V.imul dX11_copyHalf_68 ?_
  refine V.topc (v := 0) (by decide) ?_
  refine V.iload_n dX11_copyHalf_69 0 rfl ?_
  refine V.iadd dX11_copyHalf_70 ?_
  refine V.topc (v := 4) (by decide) ?_
  refine V.aload_n dX11_copyHalf_71 1 rfl ?_
  refine V.getf 0 4 rfl fa_X11_23_10 rfl dX11_copyHalf_72 ?_
  refine V.bipush (v := 6) dX11_copyHalf_75 (by decide) ?_
  refine V.iload_n dX11_copyHalf_77 2 rfl ?_
  refine V.imul dX11_copyHalf_78 ?_
  refine V.topc (v := 6) (by decide) ?_
  refine V.iload_n dX11_copyHalf_79 0 rfl ?_
  refine V.iadd dX11_copyHalf_80 ?_
  refine V.topc (v := 10) (by decide) ?_
  refine V.iald 3 rfl (vin rfl) dX11_copyHalf_81 ?_
  refine V.topc (v := (Ki 10)) (rfl) ?_
  refine V.iast (vw2 := [(o, ob 10 [.ref mw, .ref mk, .ref mt, .ref mr, .ref mki, .ref mso, .ref mst, .ref mpr, .ref msh, .ref mwa, .ref mpu, .ref mtx, .int ts, .int ma, .int bg, .int wr, .int cl, .int um, .ref mor, .ref mbo, .int mn, .ref tO, .ref tVi, .ref tSm, .int tm]), (mt, aI E 8 (upd (upd (upd (upd Ti 0 (Ti 4)) 1 (Ti 5)) 2 (Ti 6)) 3 (Ti 7))), (mr, aI E 8 (upd (upd (upd (upd Re 0 (Re 4)) 1 (Re 5)) 2 (Re 6)) 3 (Re 7))), (mki, aI E 12 (upd (upd (upd (upd (upd Ki 0 (Ki 6)) 1 (Ki 7)) 2 (Ki 8)) 3 (Ki 9)) 4 (Ki 10))), (mso, aI E 12 (upd (upd (upd (upd So 0 (So 6)) 1 (So 7)) 2 (So 8)) 3 (So 9))), (mst, aI E 12 (upd (upd (upd (upd St 0 (St 6)) 1 (St 7)) 2 (St 8)) 3 (St 9))), (mpr, aI E 12 (upd (upd (upd (upd Pr 0 (Pr 6)) 1 (Pr 7)) 2 (Pr 8)) 3 (Pr 9))), (msh, aI E 2 Sh), (mwa, aI E 2 Wa), (mpu, aI E 2 Pu)]) 3 rfl (vin rfl) (rfl) dX11_copyHalf_82 ?_
  refine V.aload_n dX11_copyHalf_83 1 rfl ?_
  refine V.getf 0 5 rfl fa_X11_26_10 rfl dX11_copyHalf_84 ?_
  refine V.bipush (v := 6) dX11_copyHalf_87 (by decide) ?_
  refine V.iload_n dX11_copyHalf_89 3 rfl ?_
  refine V.imul dX11_copyHalf_90 ?_
  refine V.topc (v := 0) (by decide) ?_
  refine V.iload_n dX11_copyHalf_91 0 rfl ?_
  refine V.iadd dX11_copyHalf_92 ?_
  refine V.topc (v := 4) (by decide) ?_
  refine V.aload_n dX11_copyHalf_93 1 rfl ?_
  refine V.getf 0 5 rfl fa_X11_26_10 rfl dX11_copyHalf_94 ?_
  refine V.bipush (v := 6) dX11_copyHalf_97 (by decide) ?_
  refine V.iload_n dX11_copyHalf_99 2 rfl ?_
  refine V.imul dX11_copyHalf_100 ?_
  refine V.topc (v := 6) (by decide) ?_
  refine V.iload_n dX11_copyHalf_101 0 rfl ?_
  refine V.iadd dX11_copyHalf_102 ?_
  refine V.topc (v := 10) (by decide) ?_
  refine V.iald 4 rfl (vin rfl) dX11_copyHalf_103 ?_
  refine V.topc (v := (So 10)) (rfl) ?_
  refine V.iast (vw2 := [(o, ob 10 [.ref mw, .ref mk, .ref mt, .ref mr, .ref mki, .ref mso, .ref mst, .ref mpr, .ref msh, .ref mwa, .ref mpu, .ref mtx, .int ts, .int ma, .int bg, .int wr, .int cl, .int um, .ref mor, .ref mbo, .int mn, .ref tO, .ref tVi, .ref tSm, .int tm]), (mt, aI E 8 (upd (upd (upd (upd Ti 0 (Ti 4)) 1 (Ti 5)) 2 (Ti 6)) 3 (Ti 7))), (mr, aI E 8 (upd (upd (upd (upd Re 0 (Re 4)) 1 (Re 5)) 2 (Re 6)) 3 (Re 7))), (mki, aI E 12 (upd (upd (upd (upd (upd Ki 0 (Ki 6)) 1 (Ki 7)) 2 (Ki 8)) 3 (Ki 9)) 4 (Ki 10))), (mso, aI E 12 (upd (upd (upd (upd (upd So 0 (So 6)) 1 (So 7)) 2 (So 8)) 3 (So 9)) 4 (So 10))), (mst, aI E 12 (upd (upd (upd (upd St 0 (St 6)) 1 (St 7)) 2 (St 8)) 3 (St 9))), (mpr, aI E 12 (upd (upd (upd (upd Pr 0 (Pr 6)) 1 (Pr 7)) 2 (Pr 8)) 3 (Pr 9))), (msh, aI E 2 Sh), (mwa, aI E 2 Wa), (mpu, aI E 2 Pu)]) 4 rfl (vin rfl) (rfl) dX11_copyHalf_104 ?_
  refine V.aload_n dX11_copyHalf_105 1 rfl ?_
  refine V.getf 0 6 rfl fa_X11_29_10 rfl dX11_copyHalf_106 ?_
  refine V.bipush (v := 6) dX11_copyHalf_109 (by decide) ?_
  refine V.iload_n dX11_copyHalf_111 3 rfl ?_
  refine V.imul dX11_copyHalf_112 ?_
  refine V.topc (v := 0) (by decide) ?_
  refine V.iload_n dX11_copyHalf_113 0 rfl ?_
  refine V.iadd dX11_copyHalf_114 ?_
  refine V.topc (v := 4) (by decide) ?_
  refine V.aload_n dX11_copyHalf_115 1 rfl ?_
  refine V.getf 0 6 rfl fa_X11_29_10 rfl dX11_copyHalf_116 ?_
  refine V.bipush (v := 6) dX11_copyHalf_119 (by decide) ?_
  refine V.iload_n dX11_copyHalf_121 2 rfl ?_
  refine V.imul dX11_copyHalf_122 ?_
  refine V.topc (v := 6) (by decide) ?_
  refine V.iload_n dX11_copyHalf_123 0 rfl ?_
  refine V.iadd dX11_copyHalf_124 ?_
  refine V.topc (v := 10) (by decide) ?_
  refine V.iald 5 rfl (vin rfl) dX11_copyHalf_125 ?_
  refine V.topc (v := (St 10)) (rfl) ?_
  refine V.iast (vw2 := [(o, ob 10 [.ref mw, .ref mk, .ref mt, .ref mr, .ref mki, .ref mso, .ref mst, .ref mpr, .ref msh, .ref mwa, .ref mpu, .ref mtx, .int ts, .int ma, .int bg, .int wr, .int cl, .int um, .ref mor, .ref mbo, .int mn, .ref tO, .ref tVi, .ref tSm, .int tm]), (mt, aI E 8 (upd (upd (upd (upd Ti 0 (Ti 4)) 1 (Ti 5)) 2 (Ti 6)) 3 (Ti 7))), (mr, aI E 8 (upd (upd (upd (upd Re 0 (Re 4)) 1 (Re 5)) 2 (Re 6)) 3 (Re 7))), (mki, aI E 12 (upd (upd (upd (upd (upd Ki 0 (Ki 6)) 1 (Ki 7)) 2 (Ki 8)) 3 (Ki 9)) 4 (Ki 10))), (mso, aI E 12 (upd (upd (upd (upd (upd So 0 (So 6)) 1 (So 7)) 2 (So 8)) 3 (So 9)) 4 (So 10))), (mst, aI E 12 (upd (upd (upd (upd (upd St 0 (St 6)) 1 (St 7)) 2 (St 8)) 3 (St 9)) 4 (St 10))), (mpr, aI E 12 (upd (upd (upd (upd Pr 0 (Pr 6)) 1 (Pr 7)) 2 (Pr 8)) 3 (Pr 9))), (msh, aI E 2 Sh), (mwa, aI E 2 Wa), (mpu, aI E 2 Pu)]) 5 rfl (vin rfl) (rfl) dX11_copyHalf_126 ?_
  refine V.aload_n dX11_copyHalf_127 1 rfl ?_
  refine V.getf 0 7 rfl fa_X11_32_10 rfl dX11_copyHalf_128 ?_
  refine V.bipush (v := 6) dX11_copyHalf_131 (by decide) ?_
  refine V.iload_n dX11_copyHalf_133 3 rfl ?_
  refine V.imul dX11_copyHalf_134 ?_
  refine V.topc (v := 0) (by decide) ?_
  refine V.iload_n dX11_copyHalf_135 0 rfl ?_
  refine V.iadd dX11_copyHalf_136 ?_
  refine V.topc (v := 4) (by decide) ?_
  refine V.aload_n dX11_copyHalf_137 1 rfl ?_
  refine V.getf 0 7 rfl fa_X11_32_10 rfl dX11_copyHalf_138 ?_
  refine V.bipush (v := 6) dX11_copyHalf_141 (by decide) ?_
  refine V.iload_n dX11_copyHalf_143 2 rfl ?_
  refine V.imul dX11_copyHalf_144 ?_
  refine V.topc (v := 6) (by decide) ?_
  refine V.iload_n dX11_copyHalf_145 0 rfl ?_
  refine V.iadd dX11_copyHalf_146 ?_
  refine V.topc (v := 10) (by decide) ?_
  refine V.iald 6 rfl (vin rfl) dX11_copyHalf_147 ?_
  refine V.topc (v := (Pr 10)) (rfl) ?_
  refine V.iast (vw2 := [(o, ob 10 [.ref mw, .ref mk, .ref mt, .ref mr, .ref mki, .ref mso, .ref mst, .ref mpr, .ref msh, .ref mwa, .ref mpu, .ref mtx, .int ts, .int ma, .int bg, .int wr, .int cl, .int um, .ref mor, .ref mbo, .int mn, .ref tO, .ref tVi, .ref tSm, .int tm]), (mt, aI E 8 (upd (upd (upd (upd Ti 0 (Ti 4)) 1 (Ti 5)) 2 (Ti 6)) 3 (Ti 7))), (mr, aI E 8 (upd (upd (upd (upd Re 0 (Re 4)) 1 (Re 5)) 2 (Re 6)) 3 (Re 7))), (mki, aI E 12 (upd (upd (upd (upd (upd Ki 0 (Ki 6)) 1 (Ki 7)) 2 (Ki 8)) 3 (Ki 9)) 4 (Ki 10))), (mso, aI E 12 (upd (upd (upd (upd (upd So 0 (So 6)) 1 (So 7)) 2 (So 8)) 3 (So 9)) 4 (So 10))), (mst, aI E 12 (upd (upd (upd (upd (upd St 0 (St 6)) 1 (St 7)) 2 (St 8)) 3 (St 9)) 4 (St 10))), (mpr, aI E 12 (upd (upd (upd (upd (upd Pr 0 (Pr 6)) 1 (Pr 7)) 2 (Pr 8)) 3 (Pr 9)) 4 (Pr 10))), (msh, aI E 2 Sh), (mwa, aI E 2 Wa), (mpu, aI E 2 Pu)]) 6 rfl (vin rfl) (rfl) dX11_copyHalf_148 ?_
  refine V.iinc (v := 5) (lv2 := [(3, .int 5), (0, .ref o), (1, .int 1), (2, .int 0)]) dX11_copyHalf_149 0 rfl (by decide) (by decide) rfl ?_
  refine V.goto (tgt := 55) dX11_copyHalf_152 (by decide) ?_
  refine V.iload_n dX11_copyHalf_55 0 rfl ?_
  refine V.bipush (v := 6) dX11_copyHalf_56 (by decide) ?_
  refine V.icmp_ge (tgt := 155) dX11_copyHalf_58 (by decide) (fun hc => absurd hc (by decide)) (fun _ => ?_)
  refine V.aload_n dX11_copyHalf_61 1 rfl ?_
  refine V.getf 0 4 rfl fa_X11_23_10 rfl dX11_copyHalf_62 ?_
  refine V.bipush (v := 6) dX11_copyHalf_65 (by decide) ?_
  refine V.iload_n dX11_copyHalf_67 3 rfl ?_
  refine V.imul dX11_copyHalf_68 ?_
  refine V.topc (v := 0) (by decide) ?_
  refine V.iload_n dX11_copyHalf_69 0 rfl ?_
  refine V.iadd dX11_copyHalf_70 ?_
  refine V.topc (v := 5) (by decide) ?_
  refine V.aload_n dX11_copyHalf_71 1 rfl ?_
  refine V.getf 0 4 rfl fa_X11_23_10 rfl dX11_copyHalf_72 ?_
  refine V.bipush (v := 6) dX11_copyHalf_75 (by decide) ?_
  refine V.iload_n dX11_copyHalf_77 2 rfl ?_
  refine V.imul dX11_copyHalf_78 ?_
  refine V.topc (v := 6) (by decide) ?_
  refine V.iload_n dX11_copyHalf_79 0 rfl ?_
  refine V.iadd dX11_copyHalf_80 ?_
  refine V.topc (v := 11) (by decide) ?_
  refine V.iald 3 rfl (vin rfl) dX11_copyHalf_81 ?_
  refine V.topc (v := (Ki 11)) (rfl) ?_
  refine V.iast (vw2 := [(o, ob 10 [.ref mw, .ref mk, .ref mt, .ref mr, .ref mki, .ref mso, .ref mst, .ref mpr, .ref msh, .ref mwa, .ref mpu, .ref mtx, .int ts, .int ma, .int bg, .int wr, .int cl, .int um, .ref mor, .ref mbo, .int mn, .ref tO, .ref tVi, .ref tSm, .int tm]), (mt, aI E 8 (upd (upd (upd (upd Ti 0 (Ti 4)) 1 (Ti 5)) 2 (Ti 6)) 3 (Ti 7))), (mr, aI E 8 (upd (upd (upd (upd Re 0 (Re 4)) 1 (Re 5)) 2 (Re 6)) 3 (Re 7))), (mki, aI E 12 (upd (upd (upd (upd (upd (upd Ki 0 (Ki 6)) 1 (Ki 7)) 2 (Ki 8)) 3 (Ki 9)) 4 (Ki 10)) 5 (Ki 11))), (mso, aI E 12 (upd (upd (upd (upd (upd So 0 (So 6)) 1 (So 7)) 2 (So 8)) 3 (So 9)) 4 (So 10))), (mst, aI E 12 (upd (upd (upd (upd (upd St 0 (St 6)) 1 (St 7)) 2 (St 8)) 3 (St 9)) 4 (St 10))), (mpr, aI E 12 (upd (upd (upd (upd (upd Pr 0 (Pr 6)) 1 (Pr 7)) 2 (Pr 8)) 3 (Pr 9)) 4 (Pr 10))), (msh, aI E 2 Sh), (mwa, aI E 2 Wa), (mpu, aI E 2 Pu)]) 3 rfl (vin rfl) (rfl) dX11_copyHalf_82 ?_
  refine V.aload_n dX11_copyHalf_83 1 rfl ?_
  refine V.getf 0 5 rfl fa_X11_26_10 rfl dX11_copyHalf_84 ?_
  refine V.bipush (v := 6) dX11_copyHalf_87 (by decide) ?_
  refine V.iload_n dX11_copyHalf_89 3 rfl ?_
  refine V.imul dX11_copyHalf_90 ?_
  refine V.topc (v := 0) (by decide) ?_
  refine V.iload_n dX11_copyHalf_91 0 rfl ?_
  refine V.iadd dX11_copyHalf_92 ?_
  refine V.topc (v := 5) (by decide) ?_
  refine V.aload_n dX11_copyHalf_93 1 rfl ?_
  refine V.getf 0 5 rfl fa_X11_26_10 rfl dX11_copyHalf_94 ?_
  refine V.bipush (v := 6) dX11_copyHalf_97 (by decide) ?_
  refine V.iload_n dX11_copyHalf_99 2 rfl ?_
  refine V.imul dX11_copyHalf_100 ?_
  refine V.topc (v := 6) (by decide) ?_
  refine V.iload_n dX11_copyHalf_101 0 rfl ?_
  refine V.iadd dX11_copyHalf_102 ?_
  refine V.topc (v := 11) (by decide) ?_
  refine V.iald 4 rfl (vin rfl) dX11_copyHalf_103 ?_
  refine V.topc (v := (So 11)) (rfl) ?_
  refine V.iast (vw2 := [(o, ob 10 [.ref mw, .ref mk, .ref mt, .ref mr, .ref mki, .ref mso, .ref mst, .ref mpr, .ref msh, .ref mwa, .ref mpu, .ref mtx, .int ts, .int ma, .int bg, .int wr, .int cl, .int um, .ref mor, .ref mbo, .int mn, .ref tO, .ref tVi, .ref tSm, .int tm]), (mt, aI E 8 (upd (upd (upd (upd Ti 0 (Ti 4)) 1 (Ti 5)) 2 (Ti 6)) 3 (Ti 7))), (mr, aI E 8 (upd (upd (upd (upd Re 0 (Re 4)) 1 (Re 5)) 2 (Re 6)) 3 (Re 7))), (mki, aI E 12 (upd (upd (upd (upd (upd (upd Ki 0 (Ki 6)) 1 (Ki 7)) 2 (Ki 8)) 3 (Ki 9)) 4 (Ki 10)) 5 (Ki 11))), (mso, aI E 12 (upd (upd (upd (upd (upd (upd So 0 (So 6)) 1 (So 7)) 2 (So 8)) 3 (So 9)) 4 (So 10)) 5 (So 11))), (mst, aI E 12 (upd (upd (upd (upd (upd St 0 (St 6)) 1 (St 7)) 2 (St 8)) 3 (St 9)) 4 (St 10))), (mpr, aI E 12 (upd (upd (upd (upd (upd Pr 0 (Pr 6)) 1 (Pr 7)) 2 (Pr 8)) 3 (Pr 9)) 4 (Pr 10))), (msh, aI E 2 Sh), (mwa, aI E 2 Wa), (mpu, aI E 2 Pu)]) 4 rfl (vin rfl) (rfl) dX11_copyHalf_104 ?_
  refine V.aload_n dX11_copyHalf_105 1 rfl ?_
  refine V.getf 0 6 rfl fa_X11_29_10 rfl dX11_copyHalf_106 ?_
  refine V.bipush (v := 6) dX11_copyHalf_109 (by decide) ?_
  refine V.iload_n dX11_copyHalf_111 3 rfl ?_
  refine V.imul dX11_copyHalf_112 ?_
  refine V.topc (v := 0) (by decide) ?_
  refine V.iload_n dX11_copyHalf_113 0 rfl ?_
  refine V.iadd dX11_copyHalf_114 ?_
  refine V.topc (v := 5) (by decide) ?_
  refine V.aload_n dX11_copyHalf_115 1 rfl ?_
  refine V.getf 0 6 rfl fa_X11_29_10 rfl dX11_copyHalf_116 ?_
  refine V.bipush (v := 6) dX11_copyHalf_119 (by decide) ?_
  refine V.iload_n dX11_copyHalf_121 2 rfl ?_
  refine V.imul dX11_copyHalf_122 ?_
  refine V.topc (v := 6) (by decide) ?_
  refine V.iload_n dX11_copyHalf_123 0 rfl ?_
  refine V.iadd dX11_copyHalf_124 ?_
  refine V.topc (v := 11) (by decide) ?_
  refine V.iald 5 rfl (vin rfl) dX11_copyHalf_125 ?_
  refine V.topc (v := (St 11)) (rfl) ?_
  refine V.iast (vw2 := [(o, ob 10 [.ref mw, .ref mk, .ref mt, .ref mr, .ref mki, .ref mso, .ref mst, .ref mpr, .ref msh, .ref mwa, .ref mpu, .ref mtx, .int ts, .int ma, .int bg, .int wr, .int cl, .int um, .ref mor, .ref mbo, .int mn, .ref tO, .ref tVi, .ref tSm, .int tm]), (mt, aI E 8 (upd (upd (upd (upd Ti 0 (Ti 4)) 1 (Ti 5)) 2 (Ti 6)) 3 (Ti 7))), (mr, aI E 8 (upd (upd (upd (upd Re 0 (Re 4)) 1 (Re 5)) 2 (Re 6)) 3 (Re 7))), (mki, aI E 12 (upd (upd (upd (upd (upd (upd Ki 0 (Ki 6)) 1 (Ki 7)) 2 (Ki 8)) 3 (Ki 9)) 4 (Ki 10)) 5 (Ki 11))), (mso, aI E 12 (upd (upd (upd (upd (upd (upd So 0 (So 6)) 1 (So 7)) 2 (So 8)) 3 (So 9)) 4 (So 10)) 5 (So 11))), (mst, aI E 12 (upd (upd (upd (upd (upd (upd St 0 (St 6)) 1 (St 7)) 2 (St 8)) 3 (St 9)) 4 (St 10)) 5 (St 11))), (mpr, aI E 12 (upd (upd (upd (upd (upd Pr 0 (Pr 6)) 1 (Pr 7)) 2 (Pr 8)) 3 (Pr 9)) 4 (Pr 10))), (msh, aI E 2 Sh), (mwa, aI E 2 Wa), (mpu, aI E 2 Pu)]) 5 rfl (vin rfl) (rfl) dX11_copyHalf_126 ?_
  refine V.aload_n dX11_copyHalf_127 1 rfl ?_
  refine V.getf 0 7 rfl fa_X11_32_10 rfl dX11_copyHalf_128 ?_
  refine V.bipush (v := 6) dX11_copyHalf_131 (by decide) ?_
  refine V.iload_n dX11_copyHalf_133 3 rfl ?_
  refine V.imul dX11_copyHalf_134 ?_
  refine V.topc (v := 0) (by decide) ?_
  refine V.iload_n dX11_copyHalf_135 0 rfl ?_
  refine V.iadd dX11_copyHalf_136 ?_
  refine V.topc (v := 5) (by decide) ?_
  refine V.aload_n dX11_copyHalf_137 1 rfl ?_
  refine V.getf 0 7 rfl fa_X11_32_10 rfl dX11_copyHalf_138 ?_
  refine V.bipush (v := 6) dX11_copyHalf_141 (by decide) ?_
  refine V.iload_n dX11_copyHalf_143 2 rfl ?_
  refine V.imul dX11_copyHalf_144 ?_
  refine V.topc (v := 6) (by decide) ?_
  refine V.iload_n dX11_copyHalf_145 0 rfl ?_
  refine V.iadd dX11_copyHalf_146 ?_
  refine V.topc (v := 11) (by decide) ?_
  refine V.iald 6 rfl (vin rfl) dX11_copyHalf_147 ?_
  refine V.topc (v := (Pr 11)) (rfl) ?_
  refine V.iast (vw2 := [(o, ob 10 [.ref mw, .ref mk, .ref mt, .ref mr, .ref mki, .ref mso, .ref mst, .ref mpr, .ref msh, .ref mwa, .ref mpu, .ref mtx, .int ts, .int ma, .int bg, .int wr, .int cl, .int um, .ref mor, .ref mbo, .int mn, .ref tO, .ref tVi, .ref tSm, .int tm]), (mt, aI E 8 (upd (upd (upd (upd Ti 0 (Ti 4)) 1 (Ti 5)) 2 (Ti 6)) 3 (Ti 7))), (mr, aI E 8 (upd (upd (upd (upd Re 0 (Re 4)) 1 (Re 5)) 2 (Re 6)) 3 (Re 7))), (mki, aI E 12 (upd (upd (upd (upd (upd (upd Ki 0 (Ki 6)) 1 (Ki 7)) 2 (Ki 8)) 3 (Ki 9)) 4 (Ki 10)) 5 (Ki 11))), (mso, aI E 12 (upd (upd (upd (upd (upd (upd So 0 (So 6)) 1 (So 7)) 2 (So 8)) 3 (So 9)) 4 (So 10)) 5 (So 11))), (mst, aI E 12 (upd (upd (upd (upd (upd (upd St 0 (St 6)) 1 (St 7)) 2 (St 8)) 3 (St 9)) 4 (St 10)) 5 (St 11))), (mpr, aI E 12 (upd (upd (upd (upd (upd (upd Pr 0 (Pr 6)) 1 (Pr 7)) 2 (Pr 8)) 3 (Pr 9)) 4 (Pr 10)) 5 (Pr 11))), (msh, aI E 2 Sh), (mwa, aI E 2 Wa), (mpu, aI E 2 Pu)]) 6 rfl (vin rfl) (rfl) dX11_copyHalf_148 ?_
  refine V.iinc (v := 6) (lv2 := [(3, .int 6), (0, .ref o), (1, .int 1), (2, .int 0)]) dX11_copyHalf_149 0 rfl (by decide) (by decide) rfl ?_
  refine V.goto (tgt := 55) dX11_copyHalf_152 (by decide) ?_
  refine V.iload_n dX11_copyHalf_55 0 rfl ?_
  refine V.bipush (v := 6) dX11_copyHalf_56 (by decide) ?_
  refine V.icmp_ge (tgt := 155) dX11_copyHalf_58 (by decide) (fun _ => ?_) (fun hc => absurd (by decide) hc)
  refine V.aload_n dX11_copyHalf_155 1 rfl ?_
  refine V.getf 0 8 rfl fa_X11_35_10 rfl dX11_copyHalf_156 ?_
  refine V.iload_n dX11_copyHalf_159 3 rfl ?_
  refine V.aload_n dX11_copyHalf_160 1 rfl ?_
  refine V.getf 0 8 rfl fa_X11_35_10 rfl dX11_copyHalf_161 ?_
  refine V.iload_n dX11_copyHalf_164 2 rfl ?_
  refine V.iald 7 rfl (vin rfl) dX11_copyHalf_165 ?_
  refine V.topc (v := (Sh 1)) (rfl) ?_
  refine V.iast (vw2 := [(o, ob 10 [.ref mw, .ref mk, .ref mt, .ref mr, .ref mki, .ref mso, .ref mst, .ref mpr, .ref msh, .ref mwa, .ref mpu, .ref mtx, .int ts, .int ma, .int bg, .int wr, .int cl, .int um, .ref mor, .ref mbo, .int mn, .ref tO, .ref tVi, .ref tSm, .int tm]), (mt, aI E 8 (upd (upd (upd (upd Ti 0 (Ti 4)) 1 (Ti 5)) 2 (Ti 6)) 3 (Ti 7))), (mr, aI E 8 (upd (upd (upd (upd Re 0 (Re 4)) 1 (Re 5)) 2 (Re 6)) 3 (Re 7))), (mki, aI E 12 (upd (upd (upd (upd (upd (upd Ki 0 (Ki 6)) 1 (Ki 7)) 2 (Ki 8)) 3 (Ki 9)) 4 (Ki 10)) 5 (Ki 11))), (mso, aI E 12 (upd (upd (upd (upd (upd (upd So 0 (So 6)) 1 (So 7)) 2 (So 8)) 3 (So 9)) 4 (So 10)) 5 (So 11))), (mst, aI E 12 (upd (upd (upd (upd (upd (upd St 0 (St 6)) 1 (St 7)) 2 (St 8)) 3 (St 9)) 4 (St 10)) 5 (St 11))), (mpr, aI E 12 (upd (upd (upd (upd (upd (upd Pr 0 (Pr 6)) 1 (Pr 7)) 2 (Pr 8)) 3 (Pr 9)) 4 (Pr 10)) 5 (Pr 11))), (msh, aI E 2 (upd Sh 0 (Sh 1))), (mwa, aI E 2 Wa), (mpu, aI E 2 Pu)]) 7 rfl (vin rfl) (rfl) dX11_copyHalf_166 ?_
  refine V.aload_n dX11_copyHalf_167 1 rfl ?_
  refine V.getf 0 9 rfl fa_X11_38_10 rfl dX11_copyHalf_168 ?_
  refine V.iload_n dX11_copyHalf_171 3 rfl ?_
  refine V.aload_n dX11_copyHalf_172 1 rfl ?_
  refine V.getf 0 9 rfl fa_X11_38_10 rfl dX11_copyHalf_173 ?_
  refine V.iload_n dX11_copyHalf_176 2 rfl ?_
  refine V.iald 8 rfl (vin rfl) dX11_copyHalf_177 ?_
  refine V.topc (v := (Wa 1)) (rfl) ?_
  refine V.iast (vw2 := [(o, ob 10 [.ref mw, .ref mk, .ref mt, .ref mr, .ref mki, .ref mso, .ref mst, .ref mpr, .ref msh, .ref mwa, .ref mpu, .ref mtx, .int ts, .int ma, .int bg, .int wr, .int cl, .int um, .ref mor, .ref mbo, .int mn, .ref tO, .ref tVi, .ref tSm, .int tm]), (mt, aI E 8 (upd (upd (upd (upd Ti 0 (Ti 4)) 1 (Ti 5)) 2 (Ti 6)) 3 (Ti 7))), (mr, aI E 8 (upd (upd (upd (upd Re 0 (Re 4)) 1 (Re 5)) 2 (Re 6)) 3 (Re 7))), (mki, aI E 12 (upd (upd (upd (upd (upd (upd Ki 0 (Ki 6)) 1 (Ki 7)) 2 (Ki 8)) 3 (Ki 9)) 4 (Ki 10)) 5 (Ki 11))), (mso, aI E 12 (upd (upd (upd (upd (upd (upd So 0 (So 6)) 1 (So 7)) 2 (So 8)) 3 (So 9)) 4 (So 10)) 5 (So 11))), (mst, aI E 12 (upd (upd (upd (upd (upd (upd St 0 (St 6)) 1 (St 7)) 2 (St 8)) 3 (St 9)) 4 (St 10)) 5 (St 11))), (mpr, aI E 12 (upd (upd (upd (upd (upd (upd Pr 0 (Pr 6)) 1 (Pr 7)) 2 (Pr 8)) 3 (Pr 9)) 4 (Pr 10)) 5 (Pr 11))), (msh, aI E 2 (upd Sh 0 (Sh 1))), (mwa, aI E 2 (upd Wa 0 (Wa 1))), (mpu, aI E 2 Pu)]) 8 rfl (vin rfl) (rfl) dX11_copyHalf_178 ?_
  refine V.aload_n dX11_copyHalf_179 1 rfl ?_
  refine V.getf 0 10 rfl fa_X11_41_10 rfl dX11_copyHalf_180 ?_
  refine V.iload_n dX11_copyHalf_183 3 rfl ?_
  refine V.aload_n dX11_copyHalf_184 1 rfl ?_
  refine V.getf 0 10 rfl fa_X11_41_10 rfl dX11_copyHalf_185 ?_
  refine V.iload_n dX11_copyHalf_188 2 rfl ?_
  refine V.iald 9 rfl (vin rfl) dX11_copyHalf_189 ?_
  refine V.topc (v := (Pu 1)) (rfl) ?_
  refine V.iast (vw2 := [(o, ob 10 [.ref mw, .ref mk, .ref mt, .ref mr, .ref mki, .ref mso, .ref mst, .ref mpr, .ref msh, .ref mwa, .ref mpu, .ref mtx, .int ts, .int ma, .int bg, .int wr, .int cl, .int um, .ref mor, .ref mbo, .int mn, .ref tO, .ref tVi, .ref tSm, .int tm]), (mt, aI E 8 (upd (upd (upd (upd Ti 0 (Ti 4)) 1 (Ti 5)) 2 (Ti 6)) 3 (Ti 7))), (mr, aI E 8 (upd (upd (upd (upd Re 0 (Re 4)) 1 (Re 5)) 2 (Re 6)) 3 (Re 7))), (mki, aI E 12 (upd (upd (upd (upd (upd (upd Ki 0 (Ki 6)) 1 (Ki 7)) 2 (Ki 8)) 3 (Ki 9)) 4 (Ki 10)) 5 (Ki 11))), (mso, aI E 12 (upd (upd (upd (upd (upd (upd So 0 (So 6)) 1 (So 7)) 2 (So 8)) 3 (So 9)) 4 (So 10)) 5 (So 11))), (mst, aI E 12 (upd (upd (upd (upd (upd (upd St 0 (St 6)) 1 (St 7)) 2 (St 8)) 3 (St 9)) 4 (St 10)) 5 (St 11))), (mpr, aI E 12 (upd (upd (upd (upd (upd (upd Pr 0 (Pr 6)) 1 (Pr 7)) 2 (Pr 8)) 3 (Pr 9)) 4 (Pr 10)) 5 (Pr 11))), (msh, aI E 2 (upd Sh 0 (Sh 1))), (mwa, aI E 2 (upd Wa 0 (Wa 1))), (mpu, aI E 2 (upd Pu 0 (Pu 1)))]) 9 rfl (vin rfl) (rfl) dX11_copyHalf_190 ?_
  refine V.arrEq (vw2 := [(o, ob 10 [.ref mw, .ref mk, .ref mt, .ref mr, .ref mki, .ref mso, .ref mst, .ref mpr, .ref msh, .ref mwa, .ref mpu, .ref mtx, .int ts, .int ma, .int bg, .int wr, .int cl, .int um, .ref mor, .ref mbo, .int mn, .ref tO, .ref tVi, .ref tSm, .int tm]), (mt, aI E 8 (putH 4 Ti 0 (fun j => Ti (4 + j)))), (mr, aI E 8 (upd (upd (upd (upd Re 0 (Re 4)) 1 (Re 5)) 2 (Re 6)) 3 (Re 7))), (mki, aI E 12 (upd (upd (upd (upd (upd (upd Ki 0 (Ki 6)) 1 (Ki 7)) 2 (Ki 8)) 3 (Ki 9)) 4 (Ki 10)) 5 (Ki 11))), (mso, aI E 12 (upd (upd (upd (upd (upd (upd So 0 (So 6)) 1 (So 7)) 2 (So 8)) 3 (So 9)) 4 (So 10)) 5 (So 11))), (mst, aI E 12 (upd (upd (upd (upd (upd (upd St 0 (St 6)) 1 (St 7)) 2 (St 8)) 3 (St 9)) 4 (St 10)) 5 (St 11))), (mpr, aI E 12 (upd (upd (upd (upd (upd (upd Pr 0 (Pr 6)) 1 (Pr 7)) 2 (Pr 8)) 3 (Pr 9)) 4 (Pr 10)) 5 (Pr 11))), (msh, aI E 2 (upd Sh 0 (Sh 1))), (mwa, aI E 2 (upd Wa 0 (Wa 1))), (mpu, aI E 2 (upd Pu 0 (Pu 1)))]) 1 0 rfl (fun j hj => by rcases (show j = 0 ∨ j = 1 ∨ j = 2 ∨ j = 3 ∨ j = 4 ∨ j = 5 ∨ j = 6 ∨ j = 7 by omega) with rfl | rfl | rfl | rfl | rfl | rfl | rfl | rfl <;> rfl) rfl ?_
  refine V.arrEq (vw2 := [(o, ob 10 [.ref mw, .ref mk, .ref mt, .ref mr, .ref mki, .ref mso, .ref mst, .ref mpr, .ref msh, .ref mwa, .ref mpu, .ref mtx, .int ts, .int ma, .int bg, .int wr, .int cl, .int um, .ref mor, .ref mbo, .int mn, .ref tO, .ref tVi, .ref tSm, .int tm]), (mt, aI E 8 (putH 4 Ti 0 (fun j => Ti (4 + j)))), (mr, aI E 8 (putH 4 Re 0 (fun j => Re (4 + j)))), (mki, aI E 12 (upd (upd (upd (upd (upd (upd Ki 0 (Ki 6)) 1 (Ki 7)) 2 (Ki 8)) 3 (Ki 9)) 4 (Ki 10)) 5 (Ki 11))), (mso, aI E 12 (upd (upd (upd (upd (upd (upd So 0 (So 6)) 1 (So 7)) 2 (So 8)) 3 (So 9)) 4 (So 10)) 5 (So 11))), (mst, aI E 12 (upd (upd (upd (upd (upd (upd St 0 (St 6)) 1 (St 7)) 2 (St 8)) 3 (St 9)) 4 (St 10)) 5 (St 11))), (mpr, aI E 12 (upd (upd (upd (upd (upd (upd Pr 0 (Pr 6)) 1 (Pr 7)) 2 (Pr 8)) 3 (Pr 9)) 4 (Pr 10)) 5 (Pr 11))), (msh, aI E 2 (upd Sh 0 (Sh 1))), (mwa, aI E 2 (upd Wa 0 (Wa 1))), (mpu, aI E 2 (upd Pu 0 (Pu 1)))]) 2 0 rfl (fun j hj => by rcases (show j = 0 ∨ j = 1 ∨ j = 2 ∨ j = 3 ∨ j = 4 ∨ j = 5 ∨ j = 6 ∨ j = 7 by omega) with rfl | rfl | rfl | rfl | rfl | rfl | rfl | rfl <;> rfl) rfl ?_
  refine V.arrEq (vw2 := [(o, ob 10 [.ref mw, .ref mk, .ref mt, .ref mr, .ref mki, .ref mso, .ref mst, .ref mpr, .ref msh, .ref mwa, .ref mpu, .ref mtx, .int ts, .int ma, .int bg, .int wr, .int cl, .int um, .ref mor, .ref mbo, .int mn, .ref tO, .ref tVi, .ref tSm, .int tm]), (mt, aI E 8 (putH 4 Ti 0 (fun j => Ti (4 + j)))), (mr, aI E 8 (putH 4 Re 0 (fun j => Re (4 + j)))), (mki, aI E 12 (putH 6 Ki 0 (fun j => Ki (6 + j)))), (mso, aI E 12 (upd (upd (upd (upd (upd (upd So 0 (So 6)) 1 (So 7)) 2 (So 8)) 3 (So 9)) 4 (So 10)) 5 (So 11))), (mst, aI E 12 (upd (upd (upd (upd (upd (upd St 0 (St 6)) 1 (St 7)) 2 (St 8)) 3 (St 9)) 4 (St 10)) 5 (St 11))), (mpr, aI E 12 (upd (upd (upd (upd (upd (upd Pr 0 (Pr 6)) 1 (Pr 7)) 2 (Pr 8)) 3 (Pr 9)) 4 (Pr 10)) 5 (Pr 11))), (msh, aI E 2 (upd Sh 0 (Sh 1))), (mwa, aI E 2 (upd Wa 0 (Wa 1))), (mpu, aI E 2 (upd Pu 0 (Pu 1)))]) 3 0 rfl (fun j hj => by rcases (show j = 0 ∨ j = 1 ∨ j = 2 ∨ j = 3 ∨ j = 4 ∨ j = 5 ∨ j = 6 ∨ j = 7 ∨ j = 8 ∨ j = 9 ∨ j = 10 ∨ j = 11 by omega) with rfl | rfl | rfl | rfl | rfl | rfl | rfl | rfl | rfl | rfl | rfl | rfl <;> rfl) rfl ?_
  refine V.arrEq (vw2 := [(o, ob 10 [.ref mw, .ref mk, .ref mt, .ref mr, .ref mki, .ref mso, .ref mst, .ref mpr, .ref msh, .ref mwa, .ref mpu, .ref mtx, .int ts, .int ma, .int bg, .int wr, .int cl, .int um, .ref mor, .ref mbo, .int mn, .ref tO, .ref tVi, .ref tSm, .int tm]), (mt, aI E 8 (putH 4 Ti 0 (fun j => Ti (4 + j)))), (mr, aI E 8 (putH 4 Re 0 (fun j => Re (4 + j)))), (mki, aI E 12 (putH 6 Ki 0 (fun j => Ki (6 + j)))), (mso, aI E 12 (putH 6 So 0 (fun j => So (6 + j)))), (mst, aI E 12 (upd (upd (upd (upd (upd (upd St 0 (St 6)) 1 (St 7)) 2 (St 8)) 3 (St 9)) 4 (St 10)) 5 (St 11))), (mpr, aI E 12 (upd (upd (upd (upd (upd (upd Pr 0 (Pr 6)) 1 (Pr 7)) 2 (Pr 8)) 3 (Pr 9)) 4 (Pr 10)) 5 (Pr 11))), (msh, aI E 2 (upd Sh 0 (Sh 1))), (mwa, aI E 2 (upd Wa 0 (Wa 1))), (mpu, aI E 2 (upd Pu 0 (Pu 1)))]) 4 0 rfl (fun j hj => by rcases (show j = 0 ∨ j = 1 ∨ j = 2 ∨ j = 3 ∨ j = 4 ∨ j = 5 ∨ j = 6 ∨ j = 7 ∨ j = 8 ∨ j = 9 ∨ j = 10 ∨ j = 11 by omega) with rfl | rfl | rfl | rfl | rfl | rfl | rfl | rfl | rfl | rfl | rfl | rfl <;> rfl) rfl ?_
  refine V.arrEq (vw2 := [(o, ob 10 [.ref mw, .ref mk, .ref mt, .ref mr, .ref mki, .ref mso, .ref mst, .ref mpr, .ref msh, .ref mwa, .ref mpu, .ref mtx, .int ts, .int ma, .int bg, .int wr, .int cl, .int um, .ref mor, .ref mbo, .int mn, .ref tO, .ref tVi, .ref tSm, .int tm]), (mt, aI E 8 (putH 4 Ti 0 (fun j => Ti (4 + j)))), (mr, aI E 8 (putH 4 Re 0 (fun j => Re (4 + j)))), (mki, aI E 12 (putH 6 Ki 0 (fun j => Ki (6 + j)))), (mso, aI E 12 (putH 6 So 0 (fun j => So (6 + j)))), (mst, aI E 12 (putH 6 St 0 (fun j => St (6 + j)))), (mpr, aI E 12 (upd (upd (upd (upd (upd (upd Pr 0 (Pr 6)) 1 (Pr 7)) 2 (Pr 8)) 3 (Pr 9)) 4 (Pr 10)) 5 (Pr 11))), (msh, aI E 2 (upd Sh 0 (Sh 1))), (mwa, aI E 2 (upd Wa 0 (Wa 1))), (mpu, aI E 2 (upd Pu 0 (Pu 1)))]) 5 0 rfl (fun j hj => by rcases (show j = 0 ∨ j = 1 ∨ j = 2 ∨ j = 3 ∨ j = 4 ∨ j = 5 ∨ j = 6 ∨ j = 7 ∨ j = 8 ∨ j = 9 ∨ j = 10 ∨ j = 11 by omega) with rfl | rfl | rfl | rfl | rfl | rfl | rfl | rfl | rfl | rfl | rfl | rfl <;> rfl) rfl ?_
  refine V.arrEq (vw2 := [(o, ob 10 [.ref mw, .ref mk, .ref mt, .ref mr, .ref mki, .ref mso, .ref mst, .ref mpr, .ref msh, .ref mwa, .ref mpu, .ref mtx, .int ts, .int ma, .int bg, .int wr, .int cl, .int um, .ref mor, .ref mbo, .int mn, .ref tO, .ref tVi, .ref tSm, .int tm]), (mt, aI E 8 (putH 4 Ti 0 (fun j => Ti (4 + j)))), (mr, aI E 8 (putH 4 Re 0 (fun j => Re (4 + j)))), (mki, aI E 12 (putH 6 Ki 0 (fun j => Ki (6 + j)))), (mso, aI E 12 (putH 6 So 0 (fun j => So (6 + j)))), (mst, aI E 12 (putH 6 St 0 (fun j => St (6 + j)))), (mpr, aI E 12 (putH 6 Pr 0 (fun j => Pr (6 + j)))), (msh, aI E 2 (upd Sh 0 (Sh 1))), (mwa, aI E 2 (upd Wa 0 (Wa 1))), (mpu, aI E 2 (upd Pu 0 (Pu 1)))]) 6 0 rfl (fun j hj => by rcases (show j = 0 ∨ j = 1 ∨ j = 2 ∨ j = 3 ∨ j = 4 ∨ j = 5 ∨ j = 6 ∨ j = 7 ∨ j = 8 ∨ j = 9 ∨ j = 10 ∨ j = 11 by omega) with rfl | rfl | rfl | rfl | rfl | rfl | rfl | rfl | rfl | rfl | rfl | rfl <;> rfl) rfl ?_
  refine V.arrEq (vw2 := [(o, ob 10 [.ref mw, .ref mk, .ref mt, .ref mr, .ref mki, .ref mso, .ref mst, .ref mpr, .ref msh, .ref mwa, .ref mpu, .ref mtx, .int ts, .int ma, .int bg, .int wr, .int cl, .int um, .ref mor, .ref mbo, .int mn, .ref tO, .ref tVi, .ref tSm, .int tm]), (mt, aI E 8 (putH 4 Ti 0 (fun j => Ti (4 + j)))), (mr, aI E 8 (putH 4 Re 0 (fun j => Re (4 + j)))), (mki, aI E 12 (putH 6 Ki 0 (fun j => Ki (6 + j)))), (mso, aI E 12 (putH 6 So 0 (fun j => So (6 + j)))), (mst, aI E 12 (putH 6 St 0 (fun j => St (6 + j)))), (mpr, aI E 12 (putH 6 Pr 0 (fun j => Pr (6 + j)))), (msh, aI E 2 (putH 1 Sh 0 (fun j => Sh (1 + j)))), (mwa, aI E 2 (upd Wa 0 (Wa 1))), (mpu, aI E 2 (upd Pu 0 (Pu 1)))]) 7 0 rfl (fun j hj => by rcases (show j = 0 ∨ j = 1 by omega) with rfl | rfl <;> rfl) rfl ?_
  refine V.arrEq (vw2 := [(o, ob 10 [.ref mw, .ref mk, .ref mt, .ref mr, .ref mki, .ref mso, .ref mst, .ref mpr, .ref msh, .ref mwa, .ref mpu, .ref mtx, .int ts, .int ma, .int bg, .int wr, .int cl, .int um, .ref mor, .ref mbo, .int mn, .ref tO, .ref tVi, .ref tSm, .int tm]), (mt, aI E 8 (putH 4 Ti 0 (fun j => Ti (4 + j)))), (mr, aI E 8 (putH 4 Re 0 (fun j => Re (4 + j)))), (mki, aI E 12 (putH 6 Ki 0 (fun j => Ki (6 + j)))), (mso, aI E 12 (putH 6 So 0 (fun j => So (6 + j)))), (mst, aI E 12 (putH 6 St 0 (fun j => St (6 + j)))), (mpr, aI E 12 (putH 6 Pr 0 (fun j => Pr (6 + j)))), (msh, aI E 2 (putH 1 Sh 0 (fun j => Sh (1 + j)))), (mwa, aI E 2 (putH 1 Wa 0 (fun j => Wa (1 + j)))), (mpu, aI E 2 (upd Pu 0 (Pu 1)))]) 8 0 rfl (fun j hj => by rcases (show j = 0 ∨ j = 1 by omega) with rfl | rfl <;> rfl) rfl ?_
  refine V.arrEq (vw2 := [(o, ob 10 [.ref mw, .ref mk, .ref mt, .ref mr, .ref mki, .ref mso, .ref mst, .ref mpr, .ref msh, .ref mwa, .ref mpu, .ref mtx, .int ts, .int ma, .int bg, .int wr, .int cl, .int um, .ref mor, .ref mbo, .int mn, .ref tO, .ref tVi, .ref tSm, .int tm]), (mt, aI E 8 (putH 4 Ti 0 (fun j => Ti (4 + j)))), (mr, aI E 8 (putH 4 Re 0 (fun j => Re (4 + j)))), (mki, aI E 12 (putH 6 Ki 0 (fun j => Ki (6 + j)))), (mso, aI E 12 (putH 6 So 0 (fun j => So (6 + j)))), (mst, aI E 12 (putH 6 St 0 (fun j => St (6 + j)))), (mpr, aI E 12 (putH 6 Pr 0 (fun j => Pr (6 + j)))), (msh, aI E 2 (putH 1 Sh 0 (fun j => Sh (1 + j)))), (mwa, aI E 2 (putH 1 Wa 0 (fun j => Wa (1 + j)))), (mpu, aI E 2 (putH 1 Pu 0 (fun j => Pu (1 + j))))]) 9 0 rfl (fun j hj => by rcases (show j = 0 ∨ j = 1 by omega) with rfl | rfl <;> rfl) rfl ?_
  exact V.vret rfl dX11_copyHalf_191 (⟨(), rfl, rfl, rfl, trivial⟩)

set_option maxHeartbeats 4000000 in
set_option maxRecDepth 100000 in
theorem c_M_writeO (E : vEnv) (l : Launch) (L : List Nat) (h : Nat → va_E) (o : Nat) (mw : Nat) (mk : Nat) (mt : Nat) (mr : Nat) (mki : Nat) (mso : Nat) (mst : Nat) (mpr : Nat) (msh : Nat) (mwa : Nat) (mpu : Nat) (mtx : Nat) (mor : Nat) (mbo : Nat) (tO : Nat) (tVi : Nat) (tSm : Nat) (ts : Int32) (ma : Int32) (bg : Int32) (wr : Int32) (cl : Int32) (um : Int32) (mn : Int32) (tm : Int32) (x : Int32) (hx : withinI x 0 255 = 0) : CT E l yX11_write cX11_write 2 (some (.int)) 1 0 0 L h [(o, ob 10 [.ref mw, .ref mk, .ref mt, .ref mr, .ref mki, .ref mso, .ref mst, .ref mpr, .ref msh, .ref mwa, .ref mpu, .ref mtx, .int ts, .int ma, .int bg, .int wr, .int cl, .int um, .ref mor, .ref mbo, .int mn, .ref tO, .ref tVi, .ref tSm, .int tm])] [.ref o, .int x] (qP L h (fun (_ : Unit) => [(o, ob 10 [.ref mw, .ref mk, .ref mt, .ref mr, .ref mki, .ref mso, .ref mst, .ref mpr, .ref msh, .ref mwa, .ref mpu, .ref mtx, .int ts, .int ma, .int bg, .int wr, .int cl, .int um, .ref mor, .ref mbo, .int mn, .ref tO, .ref tVi, .ref tSm, .int tm])]) (fun _ => some (.int (-3))) (fun _ => True)) := by
  refine CT.ofV (by decide +kernel) (Nat.le_of_ble_eq_true rfl) ?_
  refine V.locals2 (lv2 := [(0, .ref o), (1, .int x)]) rfl ?_
  refine V.iload_n dX11_write_0 1 rfl ?_
  refine V.i2l dX11_write_1 ?_
  refine V.lconst (v := 0) dX11_write_2 (by decide) ?_
  refine V.stack (st2 := [.long (Int32.toInt64 0), .long (Int32.toInt64 x)]) (congrArg (fun z64 => Value.long z64 :: [.long (Int32.toInt64 x)]) (show (0 : Int64) = Int32.toInt64 0 by decide)) ?_
  refine V.ldc2 dX11_write_3 w_788 ?_
  refine V.stack (st2 := [.long (Int32.toInt64 255), .long (Int32.toInt64 0), .long (Int32.toInt64 x)]) (congrArg (fun z64 => Value.long z64 :: [.long (Int32.toInt64 0), .long (Int32.toInt64 x)]) (show (255 : Int64) = Int32.toInt64 255 by decide)) ?_
  refine V.callSp (As := [.long (Int32.toInt64 x), .long (Int32.toInt64 0), .long (Int32.toInt64 255)]) (rest := []) [] (c_M_in E l L _ x 0 255) rfl (by decide) mi_X11_in w_789 w_790 rfl rfl (Nat.le_of_ble_eq_true rfl) ⟨by decide, by decide⟩ ⟨by decide, by decide⟩ dX11_write_6 (vw2 := fun _ => [(o, ob 10 [.ref mw, .ref mk, .ref mt, .ref mr, .ref mki, .ref mso, .ref mst, .ref mpr, .ref msh, .ref mwa, .ref mpu, .ref mtx, .int ts, .int ma, .int bg, .int wr, .int cl, .int um, .ref mor, .ref mbo, .int mn, .ref tO, .ref tVi, .ref tSm, .int tm])]) (st2 := fun _ => [.int (withinI x 0 255)]) (fun _ => rfl) (fun _ => rfl) (fun _ => rfl) (fun _ _ => ?_)
  refine V.topc (v := 0) (hx) ?_
  refine V.if_ne (tgt := 15) dX11_write_9 (by decide) (fun hc => absurd (by decide) hc) (fun _ => ?_)
  refine V.bipush (v := (-3)) dX11_write_12 (by decide) ?_
  exact V.iret rfl dX11_write_14 (⟨(), rfl, rfl, rfl, trivial⟩)

set_option maxHeartbeats 4000000 in
set_option maxRecDepth 100000 in
theorem c_M_writeF (E : vEnv) (l : Launch) (L : List Nat) (h : Nat → va_E) (o : Nat) (mw : Nat) (mk : Nat) (mt : Nat) (mr : Nat) (mki : Nat) (mso : Nat) (mst : Nat) (mpr : Nat) (msh : Nat) (mwa : Nat) (mpu : Nat) (mtx : Nat) (mor : Nat) (mbo : Nat) (tO : Nat) (tVi : Nat) (tSm : Nat) (ma : Int32) (bg : Int32) (wr : Int32) (cl : Int32) (um : Int32) (mn : Int32) (tm : Int32) (x : Int32) (hx : withinI x 0 255 = 1) : CT E l yX11_write cX11_write 2 (some (.int)) 1 0 0 L h [(o, ob 10 [.ref mw, .ref mk, .ref mt, .ref mr, .ref mki, .ref mso, .ref mst, .ref mpr, .ref msh, .ref mwa, .ref mpu, .ref mtx, .int 160, .int ma, .int bg, .int wr, .int cl, .int um, .ref mor, .ref mbo, .int mn, .ref tO, .ref tVi, .ref tSm, .int tm])] [.ref o, .int x] (qP L h (fun (_ : Unit) => [(o, ob 10 [.ref mw, .ref mk, .ref mt, .ref mr, .ref mki, .ref mso, .ref mst, .ref mpr, .ref msh, .ref mwa, .ref mpu, .ref mtx, .int 160, .int ma, .int bg, .int wr, .int cl, .int um, .ref mor, .ref mbo, .int mn, .ref tO, .ref tVi, .ref tSm, .int tm])]) (fun _ => some (.int (-5))) (fun _ => True)) := by
  refine CT.ofV (by decide +kernel) (Nat.le_of_ble_eq_true rfl) ?_
  refine V.locals2 (lv2 := [(0, .ref o), (1, .int x)]) rfl ?_
  refine V.iload_n dX11_write_0 1 rfl ?_
  refine V.i2l dX11_write_1 ?_
  refine V.lconst (v := 0) dX11_write_2 (by decide) ?_
  refine V.stack (st2 := [.long (Int32.toInt64 0), .long (Int32.toInt64 x)]) (congrArg (fun z64 => Value.long z64 :: [.long (Int32.toInt64 x)]) (show (0 : Int64) = Int32.toInt64 0 by decide)) ?_
  refine V.ldc2 dX11_write_3 w_788 ?_
  refine V.stack (st2 := [.long (Int32.toInt64 255), .long (Int32.toInt64 0), .long (Int32.toInt64 x)]) (congrArg (fun z64 => Value.long z64 :: [.long (Int32.toInt64 0), .long (Int32.toInt64 x)]) (show (255 : Int64) = Int32.toInt64 255 by decide)) ?_
  refine V.callSp (As := [.long (Int32.toInt64 x), .long (Int32.toInt64 0), .long (Int32.toInt64 255)]) (rest := []) [] (c_M_in E l L _ x 0 255) rfl (by decide) mi_X11_in w_789 w_790 rfl rfl (Nat.le_of_ble_eq_true rfl) ⟨by decide, by decide⟩ ⟨by decide, by decide⟩ dX11_write_6 (vw2 := fun _ => [(o, ob 10 [.ref mw, .ref mk, .ref mt, .ref mr, .ref mki, .ref mso, .ref mst, .ref mpr, .ref msh, .ref mwa, .ref mpu, .ref mtx, .int 160, .int ma, .int bg, .int wr, .int cl, .int um, .ref mor, .ref mbo, .int mn, .ref tO, .ref tVi, .ref tSm, .int tm])]) (st2 := fun _ => [.int (withinI x 0 255)]) (fun _ => rfl) (fun _ => rfl) (fun _ => rfl) (fun _ _ => ?_)
  refine V.topc (v := 1) (hx) ?_
  refine V.if_ne (tgt := 15) dX11_write_9 (by decide) (fun _ => ?_) (fun hc => absurd hc (by decide))
  refine V.aload_n dX11_write_15 0 rfl ?_
  refine V.getf 0 12 rfl fa_X11_72_10 rfl dX11_write_16 ?_
  refine V.sipush (v := 160) dX11_write_19 (by decide) ?_
  refine V.icmp_ne (tgt := 28) dX11_write_22 (by decide) (fun hc => absurd (by decide) hc) (fun _ => ?_)
  refine V.bipush (v := (-5)) dX11_write_25 (by decide) ?_
  exact V.iret rfl dX11_write_27 (⟨(), rfl, rfl, rfl, trivial⟩)

set_option maxHeartbeats 4000000 in
set_option maxRecDepth 100000 in
theorem c_M_write (E : vEnv) (l : Launch) (L : List Nat) (h : Nat → va_E) (o : Nat) (mw : Nat) (mk : Nat) (mt : Nat) (mr : Nat) (mki : Nat) (mso : Nat) (mst : Nat) (mpr : Nat) (msh : Nat) (mwa : Nat) (mpu : Nat) (mtx : Nat) (mor : Nat) (mbo : Nat) (tO : Nat) (tVi : Nat) (tSm : Nat) (ma : Int32) (bg : Int32) (wr : Int32) (cl : Int32) (um : Int32) (mn : Int32) (tm : Int32) (n : Nat) (MT : Nat → Int32) (x : Int32) (hx : withinI x 0 255 = 1) (hn : n < 160) : CT E l yX11_write cX11_write 2 (some (.int)) 1 0 0 L h [(o, ob 10 [.ref mw, .ref mk, .ref mt, .ref mr, .ref mki, .ref mso, .ref mst, .ref mpr, .ref msh, .ref mwa, .ref mpu, .ref mtx, .int (nI n), .int ma, .int bg, .int wr, .int cl, .int um, .ref mor, .ref mbo, .int mn, .ref tO, .ref tVi, .ref tSm, .int tm]), (mtx, aI E 160 MT)] [.ref o, .int x] (qP L h (fun (_ : Unit) => [(o, ob 10 [.ref mw, .ref mk, .ref mt, .ref mr, .ref mki, .ref mso, .ref mst, .ref mpr, .ref msh, .ref mwa, .ref mpu, .ref mtx, .int (nI (n + 1)), .int ma, .int bg, .int wr, .int cl, .int um, .ref mor, .ref mbo, .int mn, .ref tO, .ref tVi, .ref tSm, .int tm]), (mtx, aI E 160 (upd MT n x))]) (fun _ => some (.int (nI (n + 1)))) (fun _ => True)) := by
  refine CT.ofV (by decide +kernel) (Nat.le_of_ble_eq_true rfl) ?_
  refine V.locals2 (lv2 := [(0, .ref o), (1, .int x)]) rfl ?_
  refine V.iload_n dX11_write_0 1 rfl ?_
  refine V.i2l dX11_write_1 ?_
  refine V.lconst (v := 0) dX11_write_2 (by decide) ?_
  refine V.stack (st2 := [.long (Int32.toInt64 0), .long (Int32.toInt64 x)]) (congrArg (fun z64 => Value.long z64 :: [.long (Int32.toInt64 x)]) (show (0 : Int64) = Int32.toInt64 0 by decide)) ?_
  refine V.ldc2 dX11_write_3 w_788 ?_
  refine V.stack (st2 := [.long (Int32.toInt64 255), .long (Int32.toInt64 0), .long (Int32.toInt64 x)]) (congrArg (fun z64 => Value.long z64 :: [.long (Int32.toInt64 0), .long (Int32.toInt64 x)]) (show (255 : Int64) = Int32.toInt64 255 by decide)) ?_
  refine V.callSp (As := [.long (Int32.toInt64 x), .long (Int32.toInt64 0), .long (Int32.toInt64 255)]) (rest := []) [] (c_M_in E l L _ x 0 255) rfl (by decide) mi_X11_in w_789 w_790 rfl rfl (Nat.le_of_ble_eq_true rfl) ⟨by decide, by decide⟩ ⟨by decide, by decide⟩ dX11_write_6 (vw2 := fun _ => [(o, ob 10 [.ref mw, .ref mk, .ref mt, .ref mr, .ref mki, .ref mso, .ref mst, .ref mpr, .ref msh, .ref mwa, .ref mpu, .ref mtx, .int (nI n), .int ma, .int bg, .int wr, .int cl, .int um, .ref mor, .ref mbo, .int mn, .ref tO, .ref tVi, .ref tSm, .int tm]), (mtx, aI E 160 MT)]) (st2 := fun _ => [.int (withinI x 0 255)]) (fun _ => rfl) (fun _ => rfl) (fun _ => rfl) (fun _ _ => ?_)
  refine V.topc (v := 1) (hx) ?_
  refine V.if_ne (tgt := 15) dX11_write_9 (by decide) (fun _ => ?_) (fun hc => absurd hc (by decide))
  refine V.aload_n dX11_write_15 0 rfl ?_
  refine V.getf 0 12 rfl fa_X11_72_10 rfl dX11_write_16 ?_
  refine V.sipush (v := 160) dX11_write_19 (by decide) ?_
  refine V.icmp_ne (tgt := 28) dX11_write_22 (by decide) (fun _ => ?_) (fun hc => absurd hc (fun hh => absurd ((nI_eq (b := 160) (by omega) (by omega)).mp hh) (by omega)))
  refine V.aload_n dX11_write_28 0 rfl ?_
  refine V.getf 0 11 rfl fa_X11_44_10 rfl dX11_write_29 ?_
  refine V.aload_n dX11_write_32 0 rfl ?_
  refine V.getf 0 12 rfl fa_X11_72_10 rfl dX11_write_33 ?_
  refine V.iload_n dX11_write_36 1 rfl ?_
  refine V.iast (vw2 := [(o, ob 10 [.ref mw, .ref mk, .ref mt, .ref mr, .ref mki, .ref mso, .ref mst, .ref mpr, .ref msh, .ref mwa, .ref mpu, .ref mtx, .int (nI n), .int ma, .int bg, .int wr, .int cl, .int um, .ref mor, .ref mbo, .int mn, .ref tO, .ref tVi, .ref tSm, .int tm]), (mtx, aI E 160 (upd MT n x))]) 1 rfl (vinI (by omega)) (by rw [nI_clamp (by omega)] <;> rfl) dX11_write_37 ?_
  refine V.aload_n dX11_write_38 0 rfl ?_
  refine V.dup dX11_write_39 rfl ?_
  refine V.getf 0 12 rfl fa_X11_72_10 rfl dX11_write_40 ?_
  refine V.iconst (v := 1) dX11_write_43 (by decide) ?_
  refine V.iadd dX11_write_44 ?_
  refine V.topc (v := (nI (n + 1))) (nI_1 n) ?_
  refine V.putf 0 12 (vw2 := [(o, ob 10 [.ref mw, .ref mk, .ref mt, .ref mr, .ref mki, .ref mso, .ref mst, .ref mpr, .ref msh, .ref mwa, .ref mpu, .ref mtx, .int (nI (n + 1)), .int ma, .int bg, .int wr, .int cl, .int um, .ref mor, .ref mbo, .int mn, .ref tO, .ref tVi, .ref tSm, .int tm]), (mtx, aI E 160 (upd MT n x))]) rfl fp_X11_72_10 rfl rfl (Nat.le_of_ble_eq_true rfl) rfl dX11_write_45 ?_
  refine V.aload_n dX11_write_48 0 rfl ?_
  refine V.getf 0 12 rfl fa_X11_72_10 rfl dX11_write_49 ?_
  exact V.iret rfl dX11_write_52 (⟨(), rfl, rfl, rfl, trivial⟩)

set_option maxHeartbeats 4000000 in
set_option maxRecDepth 100000 in
theorem c_M_erase (E : vEnv) (l : Launch) (L : List Nat) (h : Nat → va_E) (o : Nat) (mw : Nat) (mk : Nat) (mt : Nat) (mr : Nat) (mki : Nat) (mso : Nat) (mst : Nat) (mpr : Nat) (msh : Nat) (mwa : Nat) (mpu : Nat) (mtx : Nat) (mor : Nat) (mbo : Nat) (tO : Nat) (tVi : Nat) (tSm : Nat) (ts : Int32) (ma : Int32) (bg : Int32) (wr : Int32) (cl : Int32) (um : Int32) (mn : Int32) (tm : Int32) : CT E l yX11_erase cX11_erase 2 (some (.int)) 0 0 0 L h [(o, ob 10 [.ref mw, .ref mk, .ref mt, .ref mr, .ref mki, .ref mso, .ref mst, .ref mpr, .ref msh, .ref mwa, .ref mpu, .ref mtx, .int ts, .int ma, .int bg, .int wr, .int cl, .int um, .ref mor, .ref mbo, .int mn, .ref tO, .ref tVi, .ref tSm, .int tm])] [.ref o] (qP L h (fun (_ : Unit) => [(o, ob 10 [.ref mw, .ref mk, .ref mt, .ref mr, .ref mki, .ref mso, .ref mst, .ref mpr, .ref msh, .ref mwa, .ref mpu, .ref mtx, .int 0, .int ma, .int bg, .int wr, .int cl, .int um, .ref mor, .ref mbo, .int mn, .ref tO, .ref tVi, .ref tSm, .int tm])]) (fun _ => some (.int ts)) (fun _ => True)) := by
  refine CT.ofV (by decide +kernel) (Nat.le_of_ble_eq_true rfl) ?_
  refine V.locals2 (lv2 := [(0, .ref o)]) rfl ?_
  refine V.aload_n dX11_erase_0 0 rfl ?_
  refine V.getf 0 12 rfl fa_X11_72_10 rfl dX11_erase_1 ?_
  refine V.istore_n (lv2 := [(1, .int ts), (0, .ref o)]) dX11_erase_4 rfl (by decide) rfl ?_
  refine V.aload_n dX11_erase_5 1 rfl ?_
  refine V.iconst (v := 0) dX11_erase_6 (by decide) ?_
  refine V.putf 0 12 (vw2 := [(o, ob 10 [.ref mw, .ref mk, .ref mt, .ref mr, .ref mki, .ref mso, .ref mst, .ref mpr, .ref msh, .ref mwa, .ref mpu, .ref mtx, .int 0, .int ma, .int bg, .int wr, .int cl, .int um, .ref mor, .ref mbo, .int mn, .ref tO, .ref tVi, .ref tSm, .int tm])]) rfl fp_X11_72_10 rfl rfl (Nat.le_of_ble_eq_true rfl) rfl dX11_erase_7 ?_
  refine V.iload_n dX11_erase_10 0 rfl ?_
  exact V.iret rfl dX11_erase_11 (⟨(), rfl, rfl, rfl, trivial⟩)

set_option maxHeartbeats 4000000 in
set_option maxRecDepth 100000 in
theorem c_M_here (E : vEnv) (l : Launch) (L : List Nat) (h : Nat → va_E) (o : Nat) (mw : Nat) (mk : Nat) (mt : Nat) (mr : Nat) (mki : Nat) (mso : Nat) (mst : Nat) (mpr : Nat) (msh : Nat) (mwa : Nat) (mpu : Nat) (mtx : Nat) (mor : Nat) (mbo : Nat) (tO : Nat) (tVi : Nat) (tSm : Nat) (bg : Int32) (wr : Int32) (cl : Int32) (um : Int32) (mn : Int32) (tm : Int32) (n : Nat) (MT : Nat → Int32) (F : Nat → Int32) (t : Nat) (ht : t ≤ n) (hn : n ≤ 160) (hT : ∀ j, j < n → MT j = F j) : CT E l yX11_here cX11_here 1 (some (.int)) 0 0 0 L h [(o, ob 10 [.ref mw, .ref mk, .ref mt, .ref mr, .ref mki, .ref mso, .ref mst, .ref mpr, .ref msh, .ref mwa, .ref mpu, .ref mtx, .int (nI n), .int (nI t), .int bg, .int wr, .int cl, .int um, .ref mor, .ref mbo, .int mn, .ref tO, .ref tVi, .ref tSm, .int tm]), (mtx, aI E 160 MT)] [.ref o] (qP L h (fun (_ : Unit) => [(o, ob 10 [.ref mw, .ref mk, .ref mt, .ref mr, .ref mki, .ref mso, .ref mst, .ref mpr, .ref msh, .ref mwa, .ref mpu, .ref mtx, .int (nI n), .int (nI (frT F n t)), .int (nI (frT F n t)), .int wr, .int cl, .int um, .ref mor, .ref mbo, .int mn, .ref tO, .ref tVi, .ref tSm, .int tm]), (mtx, aI E 160 MT)]) (fun _ => some (.int (hereW F n t))) (fun _ => True)) := by
  refine CT.ofV (by decide +kernel) (Nat.le_of_ble_eq_true rfl) ?_
  obtain ⟨Z, hZ⟩ : ∃ Z, Z = mZ E (qP L h (fun (_ : Unit) => [(o, ob 10 [.ref mw, .ref mk, .ref mt, .ref mr, .ref mki, .ref mso, .ref mst, .ref mpr, .ref msh, .ref mwa, .ref mpu, .ref mtx, .int (nI n), .int (nI (frT F n t)), .int (nI (frT F n t)), .int wr, .int cl, .int um, .ref mor, .ref mbo, .int mn, .ref tO, .ref tVi, .ref tSm, .int tm]), (mtx, aI E 160 MT)]) (fun _ => some (.int (hereW F n t))) (fun _ => True)) 0 0 := ⟨_, rfl⟩
  rw [← hZ]
  refine V.locals2 (lv2 := [(0, .ref o)]) rfl ?_
  have lp_0 : ∀ (fuel : Nat) (i : Nat) (hi : i ≤ n) (hsk : skipB F n (n - i) i = skipB F n (n - t) t) (hf : n < i + fuel), V E l yX11_here cX11_here 1 (some (.int)) (rmk 0 0 0) Z L h 0 0 [(o, ob 10 [.ref mw, .ref mk, .ref mt, .ref mr, .ref mki, .ref mso, .ref mst, .ref mpr, .ref msh, .ref mwa, .ref mpu, .ref mtx, .int (nI n), .int (nI i), .int bg, .int wr, .int cl, .int um, .ref mor, .ref mbo, .int mn, .ref tO, .ref tVi, .ref tSm, .int tm]), (mtx, aI E 160 MT)] 0 [(0, .ref o)] [] := by
    intro fuel
    induction fuel with
    | zero =>
      intro i hi hsk hf
      exfalso; omega
    | succ fuel ih_0 =>
      intro i hi hsk hf
      refine V.aload_n dX11_here_0 0 rfl ?_
      refine V.getf 0 13 rfl fa_X11_76_10 rfl dX11_here_1 ?_
      refine V.aload_n dX11_here_4 0 rfl ?_
      refine V.getf 0 12 rfl fa_X11_72_10 rfl dX11_here_5 ?_
      refine V.icmp_ge (tgt := 38) dX11_here_8 (by decide) (fun c1_8 => ?_) (fun c1_8 => ?_)
      · skip
        have hge : n ≤ i := (nI_leI (by omega) (by omega)).mp c1_8
        have hfr : frT F n t = i := by rw [frT, ← hsk, show n - i = 0 by omega]; rfl
        refine V.aload_n dX11_here_38 0 rfl ?_
        refine V.aload_n dX11_here_39 0 rfl ?_
        refine V.getf 0 13 rfl fa_X11_76_10 rfl dX11_here_40 ?_
        refine V.putf 0 14 (vw2 := [(o, ob 10 [.ref mw, .ref mk, .ref mt, .ref mr, .ref mki, .ref mso, .ref mst, .ref mpr, .ref msh, .ref mwa, .ref mpu, .ref mtx, .int (nI n), .int (nI i), .int (nI i), .int wr, .int cl, .int um, .ref mor, .ref mbo, .int mn, .ref tO, .ref tVi, .ref tSm, .int tm]), (mtx, aI E 160 MT)]) rfl fp_X11_79_10 rfl rfl (Nat.le_of_ble_eq_true rfl) rfl dX11_here_43 ?_
        refine V.aload_n dX11_here_46 0 rfl ?_
        refine V.getf 0 13 rfl fa_X11_76_10 rfl dX11_here_47 ?_
        refine V.aload_n dX11_here_50 0 rfl ?_
        refine V.getf 0 12 rfl fa_X11_72_10 rfl dX11_here_51 ?_
        refine V.icmp_ge (tgt := 69) dX11_here_54 (by decide) (fun _ => ?_) (fun hc => absurd (nI_le hge (by omega)) hc)
        refine V.iconst (v := (-1)) dX11_here_69 (by decide) ?_
        subst hZ
        exact V.iret rfl dX11_here_70 (⟨(), by unfold hereW; rw [hfr, if_neg (by omega)], rfl, by rw [hfr], trivial⟩)
      · skip
        have hlt : i < n := Nat.lt_of_not_le (fun hh => c1_8 (nI_le hh (by omega)))
        refine V.aload_n dX11_here_11 0 rfl ?_
        refine V.getf 0 11 rfl fa_X11_44_10 rfl dX11_here_12 ?_
        refine V.aload_n dX11_here_15 0 rfl ?_
        refine V.getf 0 13 rfl fa_X11_76_10 rfl dX11_here_16 ?_
        refine V.iald 1 rfl (vinI (by omega)) dX11_here_19 ?_
        refine V.topc (v := (F i)) (by rw [nI_clamp (by omega)]; exact hT _ (by omega)) ?_
        refine V.bipush (v := 32) dX11_here_20 (by decide) ?_
        refine V.icmp_ne (tgt := 38) dX11_here_22 (by decide) (fun c2_22 => ?_) (fun c2_22 => ?_)
        · skip
          have hfr : frT F n t = i := by rw [frT, ← hsk, show n - i = (n - (i + 1)) + 1 by omega, skipB, if_neg (fun h9 => c2_22 h9.2)]
          refine V.aload_n dX11_here_38 0 rfl ?_
          refine V.aload_n dX11_here_39 0 rfl ?_
          refine V.getf 0 13 rfl fa_X11_76_10 rfl dX11_here_40 ?_
          refine V.putf 0 14 (vw2 := [(o, ob 10 [.ref mw, .ref mk, .ref mt, .ref mr, .ref mki, .ref mso, .ref mst, .ref mpr, .ref msh, .ref mwa, .ref mpu, .ref mtx, .int (nI n), .int (nI i), .int (nI i), .int wr, .int cl, .int um, .ref mor, .ref mbo, .int mn, .ref tO, .ref tVi, .ref tSm, .int tm]), (mtx, aI E 160 MT)]) rfl fp_X11_79_10 rfl rfl (Nat.le_of_ble_eq_true rfl) rfl dX11_here_43 ?_
          refine V.aload_n dX11_here_46 0 rfl ?_
          refine V.getf 0 13 rfl fa_X11_76_10 rfl dX11_here_47 ?_
          refine V.aload_n dX11_here_50 0 rfl ?_
          refine V.getf 0 12 rfl fa_X11_72_10 rfl dX11_here_51 ?_
          refine V.icmp_ge (tgt := 69) dX11_here_54 (by decide) (fun hc => absurd hc (nI_ge hlt (by omega))) (fun _ => ?_)
          refine V.aload_n dX11_here_57 0 rfl ?_
          refine V.getf 0 11 rfl fa_X11_44_10 rfl dX11_here_58 ?_
          refine V.aload_n dX11_here_61 0 rfl ?_
          refine V.getf 0 13 rfl fa_X11_76_10 rfl dX11_here_62 ?_
          refine V.iald 1 rfl (vinI (by omega)) dX11_here_65 ?_
          refine V.topc (v := (F i)) (by rw [nI_clamp (by omega)]; exact hT _ (by omega)) ?_
          refine V.goto (tgt := 70) dX11_here_66 (by decide) ?_
          subst hZ
          exact V.iret rfl dX11_here_70 (⟨(), by unfold hereW; rw [hfr, if_pos hlt], rfl, by rw [hfr], trivial⟩)
        · skip
          refine V.aload_n dX11_here_25 0 rfl ?_
          refine V.dup dX11_here_26 rfl ?_
          refine V.getf 0 13 rfl fa_X11_76_10 rfl dX11_here_27 ?_
          refine V.iconst (v := 1) dX11_here_30 (by decide) ?_
          refine V.iadd dX11_here_31 ?_
          refine V.topc (v := (nI (i + 1))) (nI_1 i) ?_
          refine V.putf 0 13 (vw2 := [(o, ob 10 [.ref mw, .ref mk, .ref mt, .ref mr, .ref mki, .ref mso, .ref mst, .ref mpr, .ref msh, .ref mwa, .ref mpu, .ref mtx, .int (nI n), .int (nI (i + 1)), .int bg, .int wr, .int cl, .int um, .ref mor, .ref mbo, .int mn, .ref tO, .ref tVi, .ref tSm, .int tm]), (mtx, aI E 160 MT)]) rfl fp_X11_76_10 rfl rfl (Nat.le_of_ble_eq_true rfl) rfl dX11_here_32 ?_
          refine V.goto (tgt := 0) dX11_here_35 (by decide) ?_
          exact ih_0 (i + 1) (by omega) (by rw [← hsk, show n - i = (n - (i + 1)) + 1 by omega, skipB, if_pos ⟨hlt, c2_22⟩]) (by omega)
  exact lp_0 (n + 1) t ht rfl (by omega)
