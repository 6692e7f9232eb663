set_option maxHeartbeats 4000000 in
set_option maxRecDepth 100000 in
theorem c_M_shopAt (E : vEnv) (l : Launch) (L : List Nat) (h : Nat → va_E) (o : Nat) (mw : Nat) (mk : Nat) (mt : Nat) (mr : Nat) (mki : Nat) (mso : Nat) (mst : Nat) (mpr : Nat) (msh : Nat) (mwa : Nat) (mpu : Nat) (mtx : Nat) (mor : Nat) (mbo : Nat) (tO : Nat) (tVi : Nat) (tSm : Nat) (ts : Int32) (ma : Int32) (bg : Int32) (wr : Int32) (cl : Int32) (um : Int32) (mn : Int32) (tm : Int32) (Sh : Nat → Int32) (m : Nat) (ρ : Nat → MR) (pw : Nat → Int32) (s : NS) (p : Nat) (k0 : Nat) (hR1 : ρ 1 = (pw, s)) (eM : Sh 0 = nI m) (hm : m ≤ 6) (hk0 : k0 < m) (huq : ∀ j, j < m → (pw j = nI p ↔ j = k0)) : CT E l yX11_shopAt cX11_shopAt 4 (some (.int)) 0 0 0 L h [(o, ob 10 [.ref mw, .ref mk, .ref mt, .ref mr, .ref mki, .ref mso, .ref mst, .ref mpr, .ref msh, .ref mwa, .ref mpu, .ref mtx, .int ts, .int ma, .int bg, .int wr, .int cl, .int um, .ref mor, .ref mbo, .int mn, .ref tO, .ref tVi, .ref tSm, .int tm]), (msh, aI E 2 Sh), (mw, aI E 192 (mW ρ))] [.ref o, .int (nI p)] (qP L h (fun (_ : Unit) => [(o, ob 10 [.ref mw, .ref mk, .ref mt, .ref mr, .ref mki, .ref mso, .ref mst, .ref mpr, .ref msh, .ref mwa, .ref mpu, .ref mtx, .int ts, .int ma, .int bg, .int wr, .int cl, .int um, .ref mor, .ref mbo, .int mn, .ref tO, .ref tVi, .ref tSm, .int tm]), (msh, aI E 2 Sh), (mw, aI E 192 (mW ρ))]) (fun _ => some (.int (nI k0))) (fun _ => True)) := by
  refine CT.ofV (by decide +kernel) (Nat.le_of_ble_eq_true rfl) ?_
  obtain ⟨Z, hZ⟩ : ∃ Z, Z = mZ E (qP L h (fun (_ : Unit) => [(o, ob 10 [.ref mw, .ref mk, .ref mt, .ref mr, .ref mki, .ref mso, .ref mst, .ref mpr, .ref msh, .ref mwa, .ref mpu, .ref mtx, .int ts, .int ma, .int bg, .int wr, .int cl, .int um, .ref mor, .ref mbo, .int mn, .ref tO, .ref tVi, .ref tSm, .int tm]), (msh, aI E 2 Sh), (mw, aI E 192 (mW ρ))]) (fun _ => some (.int (nI k0))) (fun _ => True)) 0 0 := ⟨_, rfl⟩
  rw [← hZ]
  refine V.locals2 (lv2 := [(0, .ref o), (1, .int (nI p))]) rfl ?_
  refine V.iconst (v := 0) dX11_shopAt_0 (by decide) ?_
  refine V.istore_n (lv2 := [(2, .int 0), (0, .ref o), (1, .int (nI p))]) dX11_shopAt_1 rfl (by decide) rfl ?_
  refine V.iconst (v := 0) dX11_shopAt_2 (by decide) ?_
  refine V.istore_n (lv2 := [(3, .int 0), (2, .int 0), (0, .ref o), (1, .int (nI p))]) dX11_shopAt_3 rfl (by decide) rfl ?_
  refine V.locals [2, 3, 1, 0] (by rfl) ?_
  have lp_4 : ∀ (fuel : Nat) (k : Nat) (fd : Int32) (hkm : k ≤ m) (hfd : (k ≤ k0 ∧ fd = 0) ∨ (k0 < k ∧ fd = nI k0)) (hf : m < k + fuel), V E l yX11_shopAt cX11_shopAt 4 (some (.int)) (rmk 0 0 0) Z L h 0 0 [(o, ob 10 [.ref mw, .ref mk, .ref mt, .ref mr, .ref mki, .ref mso, .ref mst, .ref mpr, .ref msh, .ref mwa, .ref mpu, .ref mtx, .int ts, .int ma, .int bg, .int wr, .int cl, .int um, .ref mor, .ref mbo, .int mn, .ref tO, .ref tVi, .ref tSm, .int tm]), (msh, aI E 2 Sh), (mw, aI E 192 (mW ρ))] 4 [(0, .ref o), (1, .int (nI p)), (2, .int fd), (3, .int (nI k))] [] := by
    intro fuel
    induction fuel with
    | zero =>
      intro k fd hkm hfd hf
      exfalso; omega
    | succ fuel ih_4 =>
      intro k fd hkm hfd hf
      refine V.iload_n dX11_shopAt_4 3 rfl ?_
      refine V.aload_n dX11_shopAt_5 0 rfl ?_
      refine V.getf 0 8 rfl fa_X11_35_10 rfl dX11_shopAt_6 ?_
      refine V.iconst (v := 0) dX11_shopAt_9 (by decide) ?_
      refine V.iald 1 rfl (vin rfl) dX11_shopAt_10 ?_
      refine V.topc (v := (Sh 0)) (rfl) ?_
      refine V.topc (v := (nI m)) (eM) ?_
      refine V.icmp_ge (tgt := 39) dX11_shopAt_11 (by decide) (fun c1_11 => ?_) (fun c1_11 => ?_)
      · skip
        have hxc1_11 : m ≤ k := (nI_leI (a := m) (by omega) (by omega)).mp c1_11
        have hqc1_11 : k = m := by omega
        refine V.iload_n dX11_shopAt_39 2 rfl ?_
        subst hZ
        exact V.iret rfl dX11_shopAt_40 (⟨(), by rw [(hfd.resolve_left (fun h9 => absurd h9.1 (by omega))).2], rfl, rfl, trivial⟩)
      · skip
        have hxc1_11 : k < m := Nat.lt_of_not_le (fun hh => c1_11 (nI_le (a := m) hh (by omega)))
        refine V.aload_n dX11_shopAt_14 0 rfl ?_
        refine V.getf 0 0 rfl fa_X11_7_10 rfl dX11_shopAt_15 ?_
        refine V.bipush (v := 16) dX11_shopAt_18 (by decide) ?_
        refine V.iload_n dX11_shopAt_20 3 rfl ?_
        refine V.iadd dX11_shopAt_21 ?_
        refine V.topc (v := (nI (16 + k))) (nI_add 16 k) ?_
        refine V.iald 2 rfl (vinI (by omega)) dX11_shopAt_22 ?_
        refine V.topc (v := ((mW ρ) ((16 + k)))) (by rw [nI_clamp (by omega)] <;> rfl) ?_
        refine V.topc (v := (pw k)) (mW_pl (i := 1) hR1 (by omega)) ?_
        refine V.iload_n dX11_shopAt_23 1 rfl ?_
        refine V.icmp_ne (tgt := 31) dX11_shopAt_24 (by decide) (fun c2_24 => ?_) (fun c2_24 => ?_)
        · skip
          refine V.iload_n dX11_shopAt_31 2 rfl ?_
          refine V.istore_n (lv2 := [(2, .int fd), (0, .ref o), (1, .int (nI p)), (3, .int (nI k))]) dX11_shopAt_32 rfl (by decide) rfl ?_
          refine V.iinc (v := (nI (k + 1))) (lv2 := [(3, .int (nI (k + 1))), (2, .int fd), (0, .ref o), (1, .int (nI p))]) dX11_shopAt_33 3 rfl (nI_1 _) (by decide) rfl ?_
          refine V.goto (tgt := 4) dX11_shopAt_36 (by decide) ?_
          refine V.locals [2, 3, 1, 0] (by rfl) ?_
          exact ih_4 (k + 1) fd (by omega) (hfd.elim (fun h9 => Or.inl ⟨Nat.lt_of_le_of_ne h9.1 (fun e9 => c2_24 ((huq k hxc1_11).mpr e9)), h9.2⟩) (fun h9 => Or.inr ⟨by omega, h9.2⟩)) (by omega)
        · skip
          refine V.iload_n dX11_shopAt_27 3 rfl ?_
          refine V.goto (tgt := 32) dX11_shopAt_28 (by decide) ?_
          refine V.istore_n (lv2 := [(2, .int (nI k)), (0, .ref o), (1, .int (nI p)), (3, .int (nI k))]) dX11_shopAt_32 rfl (by decide) rfl ?_
          refine V.iinc (v := (nI (k + 1))) (lv2 := [(3, .int (nI (k + 1))), (2, .int (nI k)), (0, .ref o), (1, .int (nI p))]) dX11_shopAt_33 3 rfl (nI_1 _) (by decide) rfl ?_
          refine V.goto (tgt := 4) dX11_shopAt_36 (by decide) ?_
          refine V.locals [2, 3, 1, 0] (by rfl) ?_
          exact ih_4 (k + 1) (nI k) (by omega) (Or.inr ⟨by rw [(huq k hxc1_11).mp c2_24]; exact Nat.lt_succ_self _, by rw [(huq k hxc1_11).mp c2_24]⟩) (by omega)
  exact lp_4 (m + 1) 0 0 (Nat.zero_le _) (Or.inl ⟨Nat.zero_le _, rfl⟩) (by omega)

set_option maxHeartbeats 4000000 in
set_option maxRecDepth 100000 in
theorem c_M_throughBy (E : vEnv) (l : Launch) (L : List Nat) (h : Nat → va_E) (o : Nat) (mw : Nat) (mk : Nat) (mt : Nat) (mr : Nat) (mki : Nat) (mso : Nat) (mst : Nat) (mpr : Nat) (msh : Nat) (mwa : Nat) (mpu : Nat) (mtx : Nat) (mor : Nat) (mbo : Nat) (tO : Nat) (tVi : Nat) (tSm : Nat) (ts : Int32) (ma : Int32) (bg : Int32) (wr : Int32) (cl : Int32) (um : Int32) (mn : Int32) (tm : Int32) (ρ : Nat → MR) (pw : Nat → Int32) (s : NS) (Re : Nat → Int32) (r : Nat → Int32) (Ti : Nat → Int32) (ti : Nat → Int32) (Ki : Nat → Int32) (So : Nat → Int32) (St : Nat → Int32) (Pr : Nat → Int32) (Wa : Nat → Int32) (m : Nat) (sf : Nat → SHP) (wa : Int32) (Sh : Nat → Int32) (Pu : Nat → Int32) (lp : Int32) (tu : Int32) (c : Int32) (β : Nat → Nat) (hR1 : ρ 1 = (pw, s)) (hTab : TabS m sf Ki So St Pr) (hm : m ≤ 6) (eW : Wa 0 = wa) (hgR : gR r) (eR : ∀ j, j < 4 → Re j = r j) (hgI : gI ti) (eI : ∀ j, j < 4 → Ti j = ti j) (eM : Sh 0 = nI m) (ePu : Pu 0 = lp) (hβ : ∀ p_, p_ < m → β p_ < m ∧ ∀ j, j < m → (pw j = nI p_ ↔ j = β p_)) : CT E l yX11_throughBy cX11_throughBy 6 (some (.int)) 3 0 0 L h [(o, ob 10 [.ref mw, .ref mk, .ref mt, .ref mr, .ref mki, .ref mso, .ref mst, .ref mpr, .ref msh, .ref mwa, .ref mpu, .ref mtx, .int ts, .int ma, .int bg, .int wr, .int cl, .int um, .ref mor, .ref mbo, .int mn, .ref tO, .ref tVi, .ref tSm, .int tm]), (msh, aI E 2 Sh), (mpu, aI E 2 Pu), (mw, aI E 192 (mW ρ)), (mr, aI E 8 Re), (mt, aI E 8 Ti), (mki, aI E 12 Ki), (mso, aI E 12 So), (mst, aI E 12 St), (mpr, aI E 12 Pr), (mwa, aI E 2 Wa)] [.ref o, .int c] (qP L h (fun (u : NS) => [(o, ob 10 [.ref mw, .ref mk, .ref mt, .ref mr, .ref mki, .ref mso, .ref mst, .ref mpr, .ref msh, .ref mwa, .ref mpu, .ref mtx, .int ts, .int ma, .int bg, .int wr, .int cl, .int um, .ref mor, .ref mbo, .int mn, .ref tO, .ref tVi, .ref tSm, .int tm]), (msh, aI E 2 Sh), (mpu, aI E 2 Pu), (mw, aI E 192 (mW (va_up ρ 1 (pw, u)))), (mr, aI E 8 Re), (mt, aI E 8 Ti), (mki, aI E 12 Ki), (mso, aI E 12 So), (mst, aI E 12 St), (mpr, aI E 12 Pr), (mwa, aI E 2 Wa)]) (fun u => some (.int (thrN (lp, ti, r, sf) c β tu m).2)) (fun u => True)) := by
  refine CT.ofV (by decide +kernel) (Nat.le_of_ble_eq_true rfl) ?_
  obtain ⟨Z, hZ⟩ : ∃ Z, Z = mZ E (qP L h (fun (u : NS) => [(o, ob 10 [.ref mw, .ref mk, .ref mt, .ref mr, .ref mki, .ref mso, .ref mst, .ref mpr, .ref msh, .ref mwa, .ref mpu, .ref mtx, .int ts, .int ma, .int bg, .int wr, .int cl, .int um, .ref mor, .ref mbo, .int mn, .ref tO, .ref tVi, .ref tSm, .int tm]), (msh, aI E 2 Sh), (mpu, aI E 2 Pu), (mw, aI E 192 (mW (va_up ρ 1 (pw, u)))), (mr, aI E 8 Re), (mt, aI E 8 Ti), (mki, aI E 12 Ki), (mso, aI E 12 So), (mst, aI E 12 St), (mpr, aI E 12 Pr), (mwa, aI E 2 Wa)]) (fun u => some (.int (thrN (lp, ti, r, sf) c β tu m).2)) (fun u => True)) 0 0 := ⟨_, rfl⟩
  rw [← hZ]
  refine V.locals2 (lv2 := [(0, .ref o), (1, .int c)]) rfl ?_
  refine V.aload_n dX11_throughBy_0 0 rfl ?_
  refine V.bipush (v := 16) dX11_throughBy_1 (by decide) ?_
  refine V.callVp (As := [.int 16]) (rest := []) [0, 3, 2] (c_M_fresh E l L _ o mw mk mt mr mki mso mst mpr msh mwa mpu mtx mor mbo tO tVi tSm ts ma bg wr cl um mn tm ρ 1 pw s Pu lp (by decide) (hR1) (ePu)) rfl (by decide) mi_X11_fresh 0 rfl rfl w_847 w_849 wp_16 rfl rfl (Nat.le_of_ble_eq_true rfl) ⟨by decide, by decide⟩ ⟨by decide, by decide⟩ dX11_throughBy_3 (vw2 := fun _ => [(o, ob 10 [.ref mw, .ref mk, .ref mt, .ref mr, .ref mki, .ref mso, .ref mst, .ref mpr, .ref msh, .ref mwa, .ref mpu, .ref mtx, .int ts, .int ma, .int bg, .int wr, .int cl, .int um, .ref mor, .ref mbo, .int mn, .ref tO, .ref tVi, .ref tSm, .int tm]), (msh, aI E 2 Sh), (mpu, aI E 2 Pu), (mw, aI E 192 (mW (va_up ρ 1 (pw, (freshN lp s))))), (mr, aI E 8 Re), (mt, aI E 8 Ti), (mki, aI E 12 Ki), (mso, aI E 12 So), (mst, aI E 12 St), (mpr, aI E 12 Pr), (mwa, aI E 2 Wa)]) (st2 := fun _ => []) (fun _ => rfl) (fun _ => rfl) (fun _ => rfl) (fun _ _ => ?_)
  refine V.iconst (v := 0) dX11_throughBy_6 (by decide) ?_
  refine V.istore_n (lv2 := [(2, .int 0), (0, .ref o), (1, .int c)]) dX11_throughBy_7 rfl (by decide) rfl ?_
  refine V.iconst (v := 0) dX11_throughBy_8 (by decide) ?_
  refine V.istore_n (lv2 := [(3, .int 0), (2, .int 0), (0, .ref o), (1, .int c)]) dX11_throughBy_9 rfl (by decide) rfl ?_
  refine V.locals [2, 3, 1, 0] (by rfl) ?_
  have lp_10 : ∀ (fuel : Nat) (i : Nat) (T : NS) (v : Int32) (hi9 : i ≤ m) (hrel : relT T (thrN (lp, ti, r, sf) c β tu i).1) (hv : v = (thrN (lp, ti, r, sf) c β tu i).2) (hno : T.2.1 = nI (i - 1)) (hf : m < i + fuel), V E l yX11_throughBy cX11_throughBy 6 (some (.int)) (rmk 3 0 0) Z L h 0 0 [(o, ob 10 [.ref mw, .ref mk, .ref mt, .ref mr, .ref mki, .ref mso, .ref mst, .ref mpr, .ref msh, .ref mwa, .ref mpu, .ref mtx, .int ts, .int ma, .int bg, .int wr, .int cl, .int um, .ref mor, .ref mbo, .int mn, .ref tO, .ref tVi, .ref tSm, .int tm]), (msh, aI E 2 Sh), (mpu, aI E 2 Pu), (mw, aI E 192 (mW (va_up ρ 1 (pw, T)))), (mr, aI E 8 Re), (mt, aI E 8 Ti), (mki, aI E 12 Ki), (mso, aI E 12 So), (mst, aI E 12 St), (mpr, aI E 12 Pr), (mwa, aI E 2 Wa)] 10 [(0, .ref o), (1, .int c), (2, .int v), (3, .int (nI i))] [] := by
    intro fuel
    induction fuel with
    | zero =>
      intro i T v hi9 hrel hv hno hf
      exfalso; omega
    | succ fuel ih_10 =>
      intro i T v hi9 hrel hv hno hf
      refine V.iload_n dX11_throughBy_10 3 rfl ?_
      refine V.aload_n dX11_throughBy_11 0 rfl ?_
      refine V.getf 0 8 rfl fa_X11_35_10 rfl dX11_throughBy_12 ?_
      refine V.iconst (v := 0) dX11_throughBy_15 (by decide) ?_
      refine V.iald 1 rfl (vin rfl) dX11_throughBy_16 ?_
      refine V.topc (v := (Sh 0)) (rfl) ?_
      refine V.topc (v := (nI m)) (eM) ?_
      refine V.icmp_ge (tgt := 75) dX11_throughBy_17 (by decide) (fun c1_17 => ?_) (fun c1_17 => ?_)
      · skip
        have hxc1_17 : m ≤ i := (nI_leI (a := m) (by omega) (by omega)).mp c1_17
        have hqc1_17 : i = m := by omega
        refine V.iload_n dX11_throughBy_75 2 rfl ?_
        subst hZ
        exact V.iret rfl dX11_throughBy_76 (⟨T, by rw [hv, hqc1_17], rfl, rfl, trivial⟩)
      · skip
        have hxc1_17 : i < m := Nat.lt_of_not_le (fun hh => c1_17 (nI_le (a := m) hh (by omega)))
        refine V.aload_n dX11_throughBy_20 0 rfl ?_
        refine V.iload_n dX11_throughBy_21 3 rfl ?_
        refine V.callVp (As := [.int (nI i)]) (rest := []) [0, 1, 3] (c_M_shopAt E l L _ o mw mk mt mr mki mso mst mpr msh mwa mpu mtx mor mbo tO tVi tSm ts ma bg wr cl um mn tm Sh m ((va_up ρ 1 (pw, T))) pw T i ((β i)) (va_up_self _ _ _) (eM) (hm) ((hβ i hxc1_17).1) ((hβ i hxc1_17).2)) rfl (by decide) mi_X11_shopAt 0 rfl rfl w_976 w_978 wp_33 rfl rfl (Nat.le_of_ble_eq_true rfl) ⟨by decide, by decide⟩ ⟨by decide, by decide⟩ dX11_throughBy_22 (vw2 := fun _ => [(o, ob 10 [.ref mw, .ref mk, .ref mt, .ref mr, .ref mki, .ref mso, .ref mst, .ref mpr, .ref msh, .ref mwa, .ref mpu, .ref mtx, .int ts, .int ma, .int bg, .int wr, .int cl, .int um, .ref mor, .ref mbo, .int mn, .ref tO, .ref tVi, .ref tSm, .int tm]), (msh, aI E 2 Sh), (mpu, aI E 2 Pu), (mw, aI E 192 (mW (va_up ρ 1 (pw, T)))), (mr, aI E 8 Re), (mt, aI E 8 Ti), (mki, aI E 12 Ki), (mso, aI E 12 So), (mst, aI E 12 St), (mpr, aI E 12 Pr), (mwa, aI E 2 Wa)]) (st2 := fun _ => [.int (nI (β i))]) (fun _ => rfl) (fun _ => rfl) (fun _ => rfl) (fun _ _ => ?_)
        refine V.istore (lv2 := [(4, .int (nI (β i))), (0, .ref o), (1, .int c), (2, .int v), (3, .int (nI i))]) dX11_throughBy_25 (by decide) rfl ?_
        have hβi := (hβ i hxc1_17).1
        have hpl : pw (β i) = nI i := ((hβ i hxc1_17).2 (β i) hβi).mpr rfl
        obtain ⟨t1, t2, t3, t4, t5, t6⟩ := hTab (β i) hβi
        refine V.aload_n dX11_throughBy_27 1 rfl ?_
        refine V.bipush (v := 16) dX11_throughBy_28 (by decide) ?_
        refine V.iload dX11_throughBy_30 0 rfl ?_
        refine V.iload dX11_throughBy_32 0 rfl ?_
        refine V.iload_n dX11_throughBy_34 2 rfl ?_
        refine V.icmp_ne (tgt := 42) dX11_throughBy_35 (by decide) (fun c2_35 => ?_) (fun c2_35 => ?_)
        · skip
          refine V.aload_n dX11_throughBy_42 1 rfl ?_
          refine V.getf 0 4 rfl fa_X11_23_10 rfl dX11_throughBy_43 ?_
          refine V.iload dX11_throughBy_46 0 rfl ?_
          refine V.iald 6 rfl (vinI (by omega)) dX11_throughBy_48 ?_
          refine V.topc (v := (Ki ((β i)))) (by rw [nI_clamp (by omega)] <;> rfl) ?_
          refine V.topc (v := (kindI (sf (β i)).1)) (t1) ?_
          refine V.callVp (As := [.int 16, .int (nI (β i)), .int (kindI (sf (β i)).1)]) (rest := []) [0, 3, 4, 5, 6, 7, 8, 9, 10] (c_M_visitAs E l L _ o mw mk mt mr mki mso mst mpr msh mwa mpu mtx mor mbo tO tVi tSm ts ma bg wr cl um mn tm ((va_up ρ 1 (pw, T))) 1 pw T Re r Ti ti Ki So St Pr Wa ((β i)) ((sf (β i)).1) ((sf (β i)).2.1) ((sf (β i)).2.2.1) (((sf (β i)).1)) ((sf (β i)).2.2.2) wa i ((i - 1)) (by decide) (va_up_self _ _ _) (by omega) (t5) (t6) (t1) (t2) (t3) (t4) (eW) (by omega) (by omega) (hpl) (hno) (hrel.2.2.2) (gC_relT hrel) (hgR) (eR) (hgI) (eI) (t5)) rfl (by decide) mi_X11_visitAs 0 rfl rfl w_899 w_901 wp_23 rfl rfl (Nat.le_of_ble_eq_true rfl) ⟨by decide, by decide⟩ ⟨by decide, by decide⟩ dX11_throughBy_49 (vw2 := fun _ => [(o, ob 10 [.ref mw, .ref mk, .ref mt, .ref mr, .ref mki, .ref mso, .ref mst, .ref mpr, .ref msh, .ref mwa, .ref mpu, .ref mtx, .int ts, .int ma, .int bg, .int wr, .int cl, .int um, .ref mor, .ref mbo, .int mn, .ref tO, .ref tVi, .ref tSm, .int tm]), (msh, aI E 2 Sh), (mpu, aI E 2 Pu), (mw, aI E 192 (mW (va_up (va_up ρ 1 (pw, T)) 1 (pw, (visP (nI i) (β i) (sf (β i)).1 ((sf (β i)).1) (sf (β i)).2.1 (sf (β i)).2.2.1 (sf (β i)).2.2.2 wa ti r T))))), (mr, aI E 8 Re), (mt, aI E 8 Ti), (mki, aI E 12 Ki), (mso, aI E 12 So), (mst, aI E 12 St), (mpr, aI E 12 Pr), (mwa, aI E 2 Wa)]) (st2 := fun _ => [.int (muchN (sf (β i)).1 (sf (β i)).2.1 (sf (β i)).2.2.1 (wentP (nI i) r T))]) (fun _ => rfl) (fun _ => rfl) (fun _ => rfl) (fun _ _ => ?_)
          refine V.arrEq (vw2 := [(o, ob 10 [.ref mw, .ref mk, .ref mt, .ref mr, .ref mki, .ref mso, .ref mst, .ref mpr, .ref msh, .ref mwa, .ref mpu, .ref mtx, .int ts, .int ma, .int bg, .int wr, .int cl, .int um, .ref mor, .ref mbo, .int mn, .ref tO, .ref tVi, .ref tSm, .int tm]), (msh, aI E 2 Sh), (mpu, aI E 2 Pu), (mw, aI E 192 (mW (va_up ρ 1 (pw, visP (nI i) (β i) (sf (β i)).1 (sf (β i)).1 (sf (β i)).2.1 (sf (β i)).2.2.1 (sf (β i)).2.2.2 wa ti r T)))), (mr, aI E 8 Re), (mt, aI E 8 Ti), (mki, aI E 12 Ki), (mso, aI E 12 So), (mst, aI E 12 St), (mpr, aI E 12 Pr), (mwa, aI E 2 Wa)]) 3 0 rfl (fun j _ => mW_ups j) rfl ?_
          refine V.istore (lv2 := [(5, .int (muchN (sf (β i)).1 (sf (β i)).2.1 (sf (β i)).2.2.1 (wentP (nI i) r T))), (4, .int (nI (β i))), (0, .ref o), (1, .int c), (2, .int v), (3, .int (nI i))]) dX11_throughBy_52 (by decide) rfl ?_
          refine V.iload_n dX11_throughBy_54 4 rfl ?_
          refine V.iload dX11_throughBy_55 1 rfl ?_
          refine V.iload_n dX11_throughBy_57 3 rfl ?_
          refine V.icmp_ne (tgt := 65) dX11_throughBy_58 (by decide) (fun _ => ?_) (fun hc => absurd hc (c2_35))
          refine V.iload dX11_throughBy_65 0 rfl ?_
          refine V.iadd dX11_throughBy_67 ?_
          refine V.istore_n (lv2 := [(2, .int (v + (muchN (sf (β i)).1 (sf (β i)).2.1 (sf (β i)).2.2.1 (wentP (nI i) r T)))), (5, .int (muchN (sf (β i)).1 (sf (β i)).2.1 (sf (β i)).2.2.1 (wentP (nI i) r T))), (4, .int (nI (β i))), (0, .ref o), (1, .int c), (3, .int (nI i))]) dX11_throughBy_68 rfl (by decide) rfl ?_
          refine V.iinc (v := (nI (i + 1))) (lv2 := [(3, .int (nI (i + 1))), (2, .int (v + (muchN (sf (β i)).1 (sf (β i)).2.1 (sf (β i)).2.2.1 (wentP (nI i) r T)))), (5, .int (muchN (sf (β i)).1 (sf (β i)).2.1 (sf (β i)).2.2.1 (wentP (nI i) r T))), (4, .int (nI (β i))), (0, .ref o), (1, .int c)]) dX11_throughBy_69 5 rfl (nI_1 _) (by decide) rfl ?_
          refine V.goto (tgt := 10) dX11_throughBy_72 (by decide) ?_
          refine V.locals [4, 5, 1, 0] (by rfl) ?_
          exact ih_10 (i + 1) _ _ (by omega) (by rw [thrN, thrStep, if_neg c2_35]; exact relT_smell (r2 := T) (relT_went hrel (by omega) hno)) (by rw [thrN, thrStep, if_neg c2_35, hv, relT_much (relT_went hrel (by omega) hno) t6] <;> rfl) rfl (by omega)
        · skip
          refine V.iconst (v := 2) dX11_throughBy_38 (by decide) ?_
          refine V.goto (tgt := 49) dX11_throughBy_39 (by decide) ?_
          refine V.callVp (As := [.int 16, .int (nI (β i)), .int 2]) (rest := []) [0, 3, 4, 5, 6, 7, 8, 9, 10] (c_M_visitAs E l L _ o mw mk mt mr mki mso mst mpr msh mwa mpu mtx mor mbo tO tVi tSm ts ma bg wr cl um mn tm ((va_up ρ 1 (pw, T))) 1 pw T Re r Ti ti Ki So St Pr Wa ((β i)) ((sf (β i)).1) ((sf (β i)).2.1) ((sf (β i)).2.2.1) 2 ((sf (β i)).2.2.2) wa i ((i - 1)) (by decide) (va_up_self _ _ _) (by omega) (t5) (t6) (t1) (t2) (t3) (t4) (eW) (by omega) (by omega) (hpl) (hno) (hrel.2.2.2) (gC_relT hrel) (hgR) (eR) (hgI) (eI) (by decide)) rfl (by decide) mi_X11_visitAs 0 rfl rfl w_899 w_901 wp_23 rfl rfl (Nat.le_of_ble_eq_true rfl) ⟨by decide, by decide⟩ ⟨by decide, by decide⟩ dX11_throughBy_49 (vw2 := fun _ => [(o, ob 10 [.ref mw, .ref mk, .ref mt, .ref mr, .ref mki, .ref mso, .ref mst, .ref mpr, .ref msh, .ref mwa, .ref mpu, .ref mtx, .int ts, .int ma, .int bg, .int wr, .int cl, .int um, .ref mor, .ref mbo, .int mn, .ref tO, .ref tVi, .ref tSm, .int tm]), (msh, aI E 2 Sh), (mpu, aI E 2 Pu), (mw, aI E 192 (mW (va_up (va_up ρ 1 (pw, T)) 1 (pw, (visP (nI i) (β i) (sf (β i)).1 2 (sf (β i)).2.1 (sf (β i)).2.2.1 (sf (β i)).2.2.2 wa ti r T))))), (mr, aI E 8 Re), (mt, aI E 8 Ti), (mki, aI E 12 Ki), (mso, aI E 12 So), (mst, aI E 12 St), (mpr, aI E 12 Pr), (mwa, aI E 2 Wa)]) (st2 := fun _ => [.int (muchN (sf (β i)).1 (sf (β i)).2.1 (sf (β i)).2.2.1 (wentP (nI i) r T))]) (fun _ => rfl) (fun _ => rfl) (fun _ => rfl) (fun _ _ => ?_)
          refine V.arrEq (vw2 := [(o, ob 10 [.ref mw, .ref mk, .ref mt, .ref mr, .ref mki, .ref mso, .ref mst, .ref mpr, .ref msh, .ref mwa, .ref mpu, .ref mtx, .int ts, .int ma, .int bg, .int wr, .int cl, .int um, .ref mor, .ref mbo, .int mn, .ref tO, .ref tVi, .ref tSm, .int tm]), (msh, aI E 2 Sh), (mpu, aI E 2 Pu), (mw, aI E 192 (mW (va_up ρ 1 (pw, visP (nI i) (β i) (sf (β i)).1 2 (sf (β i)).2.1 (sf (β i)).2.2.1 (sf (β i)).2.2.2 wa ti r T)))), (mr, aI E 8 Re), (mt, aI E 8 Ti), (mki, aI E 12 Ki), (mso, aI E 12 So), (mst, aI E 12 St), (mpr, aI E 12 Pr), (mwa, aI E 2 Wa)]) 3 0 rfl (fun j _ => mW_ups j) rfl ?_
          refine V.istore (lv2 := [(5, .int (muchN (sf (β i)).1 (sf (β i)).2.1 (sf (β i)).2.2.1 (wentP (nI i) r T))), (4, .int (nI (β i))), (0, .ref o), (1, .int c), (2, .int v), (3, .int (nI i))]) dX11_throughBy_52 (by decide) rfl ?_
          refine V.iload_n dX11_throughBy_54 4 rfl ?_
          refine V.iload dX11_throughBy_55 1 rfl ?_
          refine V.iload_n dX11_throughBy_57 3 rfl ?_
          refine V.icmp_ne (tgt := 65) dX11_throughBy_58 (by decide) (fun hc => absurd (c2_35) hc) (fun _ => ?_)
          refine V.iconst (v := 0) dX11_throughBy_61 (by decide) ?_
          refine V.goto (tgt := 67) dX11_throughBy_62 (by decide) ?_
          refine V.iadd dX11_throughBy_67 ?_
          refine V.istore_n (lv2 := [(2, .int (v + 0)), (5, .int (muchN (sf (β i)).1 (sf (β i)).2.1 (sf (β i)).2.2.1 (wentP (nI i) r T))), (4, .int (nI (β i))), (0, .ref o), (1, .int c), (3, .int (nI i))]) dX11_throughBy_68 rfl (by decide) rfl ?_
          refine V.iinc (v := (nI (i + 1))) (lv2 := [(3, .int (nI (i + 1))), (2, .int (v + 0)), (5, .int (muchN (sf (β i)).1 (sf (β i)).2.1 (sf (β i)).2.2.1 (wentP (nI i) r T))), (4, .int (nI (β i))), (0, .ref o), (1, .int c)]) dX11_throughBy_69 5 rfl (nI_1 _) (by decide) rfl ?_
          refine V.goto (tgt := 10) dX11_throughBy_72 (by decide) ?_
          refine V.locals [4, 5, 1, 0] (by rfl) ?_
          exact ih_10 (i + 1) _ _ (by omega) (by rw [thrN, thrStep, if_pos c2_35]; exact relT_coffee (relT_went hrel (by omega) hno)) (by rw [thrN, thrStep, if_pos c2_35, hv]; exact Int32.add_zero _) rfl (by omega)
  exact lp_10 (m + 1) 0 (freshN lp s) 0 (Nat.zero_le _) (relT_0 lp tu s) rfl rfl (by omega)

set_option maxHeartbeats 4000000 in
set_option maxRecDepth 100000 in
theorem c_M_through (E : vEnv) (l : Launch) (L : List Nat) (h : Nat → va_E) (o : Nat) (mw : Nat) (mk : Nat) (mt : Nat) (mr : Nat) (mki : Nat) (mso : Nat) (mst : Nat) (mpr : Nat) (msh : Nat) (mwa : Nat) (mpu : Nat) (mtx : Nat) (mor : Nat) (mbo : Nat) (tO : Nat) (tVi : Nat) (tSm : Nat) (ts : Int32) (ma : Int32) (bg : Int32) (wr : Int32) (cl : Int32) (um : Int32) (mn : Int32) (tm : Int32) (ρ : Nat → MR) (pw : Nat → Int32) (s : NS) (Re : Nat → Int32) (r : Nat → Int32) (Ti : Nat → Int32) (ti : Nat → Int32) (Ki : Nat → Int32) (So : Nat → Int32) (St : Nat → Int32) (Pr : Nat → Int32) (Wa : Nat → Int32) (m : Nat) (sf : Nat → SHP) (wa : Int32) (Sh : Nat → Int32) (Pu : Nat → Int32) (lp : Int32) (tu : Int32) (hR : ρ 0 = (pw, s)) (hTab : TabS m sf Ki So St Pr) (hm : m ≤ 6) (eW : Wa 0 = wa) (hgR : gR r) (eR : ∀ j, j < 4 → Re j = r j) (hgI : gI ti) (eI : ∀ j, j < 4 → Ti j = ti j) (eM : Sh 0 = nI m) (ePu : Pu 0 = lp) (ePl : ∀ k_, k_ < m → pw k_ = placeI m k_ s.2.2.2.2.2.2.2) : CT E l yX11_through cX11_through 1 (some (.int)) 4 0 0 L h [(o, ob 10 [.ref mw, .ref mk, .ref mt, .ref mr, .ref mki, .ref mso, .ref mst, .ref mpr, .ref msh, .ref mwa, .ref mpu, .ref mtx, .int ts, .int ma, .int bg, .int wr, .int cl, .int um, .ref mor, .ref mbo, .int mn, .ref tO, .ref tVi, .ref tSm, .int tm]), (msh, aI E 2 Sh), (mpu, aI E 2 Pu), (mw, aI E 192 (mW ρ)), (mr, aI E 8 Re), (mt, aI E 8 Ti), (mki, aI E 12 Ki), (mso, aI E 12 So), (mst, aI E 12 St), (mpr, aI E 12 Pr), (mwa, aI E 2 Wa)] [.ref o] (qP L h (fun (u : MR) => [(o, ob 10 [.ref mw, .ref mk, .ref mt, .ref mr, .ref mki, .ref mso, .ref mst, .ref mpr, .ref msh, .ref mwa, .ref mpu, .ref mtx, .int ts, .int ma, .int bg, .int wr, .int cl, .int um, .ref mor, .ref mbo, .int mn, .ref tO, .ref tVi, .ref tSm, .int tm]), (msh, aI E 2 Sh), (mpu, aI E 2 Pu), (mw, aI E 192 (mW (va_up ρ 1 u))), (mr, aI E 8 Re), (mt, aI E 8 Ti), (mki, aI E 12 Ki), (mso, aI E 12 So), (mst, aI E 12 St), (mpr, aI E 12 Pr), (mwa, aI E 2 Wa)]) (fun u => some (.int (thrN (lp, ti, r, sf) (-1) (fun j => placeN m j s.2.2.2.2.2.2.2) tu m).2)) (fun u => True)) := by
  refine CT.ofV (by decide +kernel) (Nat.le_of_ble_eq_true rfl) ?_
  refine V.locals2 (lv2 := [(0, .ref o)]) rfl ?_
  refine V.aload_n dX11_through_0 0 rfl ?_
  refine V.iconst (v := 0) dX11_through_1 (by decide) ?_
  refine V.bipush (v := 16) dX11_through_2 (by decide) ?_
  refine V.callVp (As := [.int 0, .int 16]) (rest := []) [0, 3] (c_M_copy E l L _ o mw mk mt mr mki mso mst mpr msh mwa mpu mtx mor mbo tO tVi tSm ts ma bg wr cl um mn tm ρ 0 1 (by decide) (by decide) (by decide)) rfl (by decide) mi_X11_copy 0 rfl rfl w_879 w_881 wp_19 rfl rfl (Nat.le_of_ble_eq_true rfl) ⟨by decide, by decide⟩ ⟨by decide, by decide⟩ dX11_through_4 (vw2 := fun _ => [(o, ob 10 [.ref mw, .ref mk, .ref mt, .ref mr, .ref mki, .ref mso, .ref mst, .ref mpr, .ref msh, .ref mwa, .ref mpu, .ref mtx, .int ts, .int ma, .int bg, .int wr, .int cl, .int um, .ref mor, .ref mbo, .int mn, .ref tO, .ref tVi, .ref tSm, .int tm]), (msh, aI E 2 Sh), (mpu, aI E 2 Pu), (mw, aI E 192 (mW (va_up ρ 1 (ρ 0)))), (mr, aI E 8 Re), (mt, aI E 8 Ti), (mki, aI E 12 Ki), (mso, aI E 12 So), (mst, aI E 12 St), (mpr, aI E 12 Pr), (mwa, aI E 2 Wa)]) (st2 := fun _ => []) (fun _ => rfl) (fun _ => rfl) (fun _ => rfl) (fun _ _ => ?_)
  refine V.arrEq (vw2 := [(o, ob 10 [.ref mw, .ref mk, .ref mt, .ref mr, .ref mki, .ref mso, .ref mst, .ref mpr, .ref msh, .ref mwa, .ref mpu, .ref mtx, .int ts, .int ma, .int bg, .int wr, .int cl, .int um, .ref mor, .ref mbo, .int mn, .ref tO, .ref tVi, .ref tSm, .int tm]), (msh, aI E 2 Sh), (mpu, aI E 2 Pu), (mw, aI E 192 (mW (va_up ρ 1 (pw, s)))), (mr, aI E 8 Re), (mt, aI E 8 Ti), (mki, aI E 12 Ki), (mso, aI E 12 So), (mst, aI E 12 St), (mpr, aI E 12 Pr), (mwa, aI E 2 Wa)]) 3 0 rfl (fun j _ => by rw [hR]) rfl ?_
  refine V.aload_n dX11_through_7 0 rfl ?_
  refine V.iconst (v := (-1)) dX11_through_8 (by decide) ?_
  refine V.callVp (As := [.int (-1)]) (rest := []) [0, 1, 2, 3, 4, 5, 6, 7, 8, 9, 10] (c_M_throughBy E l L _ o mw mk mt mr mki mso mst mpr msh mwa mpu mtx mor mbo tO tVi tSm ts ma bg wr cl um mn tm ((va_up ρ 1 (pw, s))) pw s Re r Ti ti Ki So St Pr Wa m sf wa Sh Pu lp tu ((-1)) ((fun j => placeN m j s.2.2.2.2.2.2.2)) ((va_up_self _ _ _)) (hTab) (hm) (eW) (hgR) (eR) (hgI) (eI) (eM) (ePu) (pl_beta hm ePl)) rfl (by decide) mi_X11_throughBy 0 rfl rfl w_972 w_974 wp_32 rfl rfl (Nat.le_of_ble_eq_true rfl) ⟨by decide, by decide⟩ ⟨by decide, by decide⟩ dX11_through_9 (vw2 := fun u9 => [(o, ob 10 [.ref mw, .ref mk, .ref mt, .ref mr, .ref mki, .ref mso, .ref mst, .ref mpr, .ref msh, .ref mwa, .ref mpu, .ref mtx, .int ts, .int ma, .int bg, .int wr, .int cl, .int um, .ref mor, .ref mbo, .int mn, .ref tO, .ref tVi, .ref tSm, .int tm]), (msh, aI E 2 Sh), (mpu, aI E 2 Pu), (mw, aI E 192 (mW (va_up (va_up ρ 1 (pw, s)) 1 (pw, u9)))), (mr, aI E 8 Re), (mt, aI E 8 Ti), (mki, aI E 12 Ki), (mso, aI E 12 So), (mst, aI E 12 St), (mpr, aI E 12 Pr), (mwa, aI E 2 Wa)]) (st2 := fun u9 => [.int (thrN (lp, ti, r, sf) (-1) (fun j => placeN m j s.2.2.2.2.2.2.2) tu m).2]) (fun _ => rfl) (fun _ => rfl) (fun _ => rfl) (fun u9 hq_9 => ?_)
  refine V.arrEq (vw2 := [(o, ob 10 [.ref mw, .ref mk, .ref mt, .ref mr, .ref mki, .ref mso, .ref mst, .ref mpr, .ref msh, .ref mwa, .ref mpu, .ref mtx, .int ts, .int ma, .int bg, .int wr, .int cl, .int um, .ref mor, .ref mbo, .int mn, .ref tO, .ref tVi, .ref tSm, .int tm]), (msh, aI E 2 Sh), (mpu, aI E 2 Pu), (mw, aI E 192 (mW (va_up ρ 1 (pw, u9)))), (mr, aI E 8 Re), (mt, aI E 8 Ti), (mki, aI E 12 Ki), (mso, aI E 12 So), (mst, aI E 12 St), (mpr, aI E 12 Pr), (mwa, aI E 2 Wa)]) 3 0 rfl (fun j _ => mW_ups j) rfl ?_
  exact V.iret rfl dX11_through_12 (⟨(pw, u9), rfl, rfl, rfl, trivial⟩)

set_option maxHeartbeats 4000000 in
set_option maxRecDepth 100000 in
theorem c_M_change (E : vEnv) (l : Launch) (L : List Nat) (h : Nat → va_E) (o : Nat) (mw : Nat) (mk : Nat) (mt : Nat) (mr : Nat) (mki : Nat) (mso : Nat) (mst : Nat) (mpr : Nat) (msh : Nat) (mwa : Nat) (mpu : Nat) (mtx : Nat) (mor : Nat) (mbo : Nat) (tO : Nat) (tVi : Nat) (tSm : Nat) (ts : Int32) (ma : Int32) (bg : Int32) (wr : Int32) (cl : Int32) (um : Int32) (mn : Int32) (tm : Int32) (ρ : Nat → MR) (pw : Nat → Int32) (s : NS) (Re : Nat → Int32) (r : Nat → Int32) (Ti : Nat → Int32) (ti : Nat → Int32) (Ki : Nat → Int32) (So : Nat → Int32) (St : Nat → Int32) (Pr : Nat → Int32) (Wa : Nat → Int32) (m : Nat) (sf : Nat → SHP) (wa : Int32) (Sh : Nat → Int32) (Pu : Nat → Int32) (lp : Int32) (tu : Int32) (hR : ρ 0 = (pw, s)) (hTab : TabS m sf Ki So St Pr) (hm : m ≤ 6) (eW : Wa 0 = wa) (hgR : gR r) (eR : ∀ j, j < 4 → Re j = r j) (hgI : gI ti) (eI : ∀ j, j < 4 → Ti j = ti j) (eM : Sh 0 = nI m) (ePu : Pu 0 = lp) (ePl : ∀ k_, k_ < m → pw k_ = placeI m k_ s.2.2.2.2.2.2.2) : CT E l yX11_change cX11_change 6 (some (.int)) 4 0 0 L h [(o, ob 10 [.ref mw, .ref mk, .ref mt, .ref mr, .ref mki, .ref mso, .ref mst, .ref mpr, .ref msh, .ref mwa, .ref mpu, .ref mtx, .int ts, .int ma, .int bg, .int wr, .int cl, .int um, .ref mor, .ref mbo, .int mn, .ref tO, .ref tVi, .ref tSm, .int tm]), (msh, aI E 2 Sh), (mpu, aI E 2 Pu), (mw, aI E 192 (mW ρ)), (mr, aI E 8 Re), (mt, aI E 8 Ti), (mki, aI E 12 Ki), (mso, aI E 12 So), (mst, aI E 12 St), (mpr, aI E 12 Pr), (mwa, aI E 2 Wa)] [.ref o] (qP L h (fun (u : MR) => [(o, ob 10 [.ref mw, .ref mk, .ref mt, .ref mr, .ref mki, .ref mso, .ref mst, .ref mpr, .ref msh, .ref mwa, .ref mpu, .ref mtx, .int ts, .int ma, .int bg, .int wr, .int cl, .int um, .ref mor, .ref mbo, .int mn, .ref tO, .ref tVi, .ref tSm, .int tm]), (msh, aI E 2 Sh), (mpu, aI E 2 Pu), (mw, aI E 192 (mW (va_up ρ 1 u))), (mr, aI E 8 Re), (mt, aI E 8 Ti), (mki, aI E 12 Ki), (mso, aI E 12 So), (mst, aI E 12 St), (mpr, aI E 12 Pr), (mwa, aI E 2 Wa)]) (fun u => some (.int (chgOut (fun x y => (thrN (lp, ti, r, sf) (-1) (exN m s.2.2.2.2.2.2.2 x y) tu m).2) m m 0 ((thrN (lp, ti, r, sf) (-1) (fun j => placeN m j s.2.2.2.2.2.2.2) tu m).2, -1)).2)) (fun u => True)) := by
  refine CT.ofV (by decide +kernel) (Nat.le_of_ble_eq_true rfl) ?_
  obtain ⟨Z, hZ⟩ : ∃ Z, Z = mZ E (qP L h (fun (u : MR) => [(o, ob 10 [.ref mw, .ref mk, .ref mt, .ref mr, .ref mki, .ref mso, .ref mst, .ref mpr, .ref msh, .ref mwa, .ref mpu, .ref mtx, .int ts, .int ma, .int bg, .int wr, .int cl, .int um, .ref mor, .ref mbo, .int mn, .ref tO, .ref tVi, .ref tSm, .int tm]), (msh, aI E 2 Sh), (mpu, aI E 2 Pu), (mw, aI E 192 (mW (va_up ρ 1 u))), (mr, aI E 8 Re), (mt, aI E 8 Ti), (mki, aI E 12 Ki), (mso, aI E 12 So), (mst, aI E 12 St), (mpr, aI E 12 Pr), (mwa, aI E 2 Wa)]) (fun u => some (.int (chgOut (fun x y => (thrN (lp, ti, r, sf) (-1) (exN m s.2.2.2.2.2.2.2 x y) tu m).2) m m 0 ((thrN (lp, ti, r, sf) (-1) (fun j => placeN m j s.2.2.2.2.2.2.2) tu m).2, -1)).2)) (fun u => True)) 0 0 := ⟨_, rfl⟩
  rw [← hZ]
  refine V.locals2 (lv2 := [(0, .ref o)]) rfl ?_
  refine V.aload_n dX11_change_0 0 rfl ?_
  refine V.iconst (v := 0) dX11_change_1 (by decide) ?_
  refine V.bipush (v := 16) dX11_change_2 (by decide) ?_
  refine V.callVp (As := [.int 0, .int 16]) (rest := []) [0, 3] (c_M_copy E l L _ o mw mk mt mr mki mso mst mpr msh mwa mpu mtx mor mbo tO tVi tSm ts ma bg wr cl um mn tm ρ 0 1 (by decide) (by decide) (by decide)) rfl (by decide) mi_X11_copy 0 rfl rfl w_879 w_881 wp_19 rfl rfl (Nat.le_of_ble_eq_true rfl) ⟨by decide, by decide⟩ ⟨by decide, by decide⟩ dX11_change_4 (vw2 := fun _ => [(o, ob 10 [.ref mw, .ref mk, .ref mt, .ref mr, .ref mki, .ref mso, .ref mst, .ref mpr, .ref msh, .ref mwa, .ref mpu, .ref mtx, .int ts, .int ma, .int bg, .int wr, .int cl, .int um, .ref mor, .ref mbo, .int mn, .ref tO, .ref tVi, .ref tSm, .int tm]), (msh, aI E 2 Sh), (mpu, aI E 2 Pu), (mw, aI E 192 (mW (va_up ρ 1 (ρ 0)))), (mr, aI E 8 Re), (mt, aI E 8 Ti), (mki, aI E 12 Ki), (mso, aI E 12 So), (mst, aI E 12 St), (mpr, aI E 12 Pr), (mwa, aI E 2 Wa)]) (st2 := fun _ => []) (fun _ => rfl) (fun _ => rfl) (fun _ => rfl) (fun _ _ => ?_)
  refine V.arrEq (vw2 := [(o, ob 10 [.ref mw, .ref mk, .ref mt, .ref mr, .ref mki, .ref mso, .ref mst, .ref mpr, .ref msh, .ref mwa, .ref mpu, .ref mtx, .int ts, .int ma, .int bg, .int wr, .int cl, .int um, .ref mor, .ref mbo, .int mn, .ref tO, .ref tVi, .ref tSm, .int tm]), (msh, aI E 2 Sh), (mpu, aI E 2 Pu), (mw, aI E 192 (mW (va_up ρ 1 (pw, s)))), (mr, aI E 8 Re), (mt, aI E 8 Ti), (mki, aI E 12 Ki), (mso, aI E 12 So), (mst, aI E 12 St), (mpr, aI E 12 Pr), (mwa, aI E 2 Wa)]) 3 0 rfl (fun j _ => by rw [hR]) rfl ?_
  refine V.aload_n dX11_change_7 0 rfl ?_
  refine V.iconst (v := (-1)) dX11_change_8 (by decide) ?_
  refine V.callVp (As := [.int (-1)]) (rest := []) [0, 1, 2, 3, 4, 5, 6, 7, 8, 9, 10] (c_M_throughBy E l L _ o mw mk mt mr mki mso mst mpr msh mwa mpu mtx mor mbo tO tVi tSm ts ma bg wr cl um mn tm ((va_up ρ 1 (pw, s))) pw s Re r Ti ti Ki So St Pr Wa m sf wa Sh Pu lp tu ((-1)) ((fun j => placeN m j s.2.2.2.2.2.2.2)) ((va_up_self _ _ _)) (hTab) (hm) (eW) (hgR) (eR) (hgI) (eI) (eM) (ePu) (pl_beta hm ePl)) rfl (by decide) mi_X11_throughBy 0 rfl rfl w_972 w_974 wp_32 rfl rfl (Nat.le_of_ble_eq_true rfl) ⟨by decide, by decide⟩ ⟨by decide, by decide⟩ dX11_change_9 (vw2 := fun u9 => [(o, ob 10 [.ref mw, .ref mk, .ref mt, .ref mr, .ref mki, .ref mso, .ref mst, .ref mpr, .ref msh, .ref mwa, .ref mpu, .ref mtx, .int ts, .int ma, .int bg, .int wr, .int cl, .int um, .ref mor, .ref mbo, .int mn, .ref tO, .ref tVi, .ref tSm, .int tm]), (msh, aI E 2 Sh), (mpu, aI E 2 Pu), (mw, aI E 192 (mW (va_up (va_up ρ 1 (pw, s)) 1 (pw, u9)))), (mr, aI E 8 Re), (mt, aI E 8 Ti), (mki, aI E 12 Ki), (mso, aI E 12 So), (mst, aI E 12 St), (mpr, aI E 12 Pr), (mwa, aI E 2 Wa)]) (st2 := fun u9 => [.int (thrN (lp, ti, r, sf) (-1) (fun j => placeN m j s.2.2.2.2.2.2.2) tu m).2]) (fun _ => rfl) (fun _ => rfl) (fun _ => rfl) (fun u9 hq_9 => ?_)
  refine V.arrEq (vw2 := [(o, ob 10 [.ref mw, .ref mk, .ref mt, .ref mr, .ref mki, .ref mso, .ref mst, .ref mpr, .ref msh, .ref mwa, .ref mpu, .ref mtx, .int ts, .int ma, .int bg, .int wr, .int cl, .int um, .ref mor, .ref mbo, .int mn, .ref tO, .ref tVi, .ref tSm, .int tm]), (msh, aI E 2 Sh), (mpu, aI E 2 Pu), (mw, aI E 192 (mW (va_up ρ 1 (pw, u9)))), (mr, aI E 8 Re), (mt, aI E 8 Ti), (mki, aI E 12 Ki), (mso, aI E 12 So), (mst, aI E 12 St), (mpr, aI E 12 Pr), (mwa, aI E 2 Wa)]) 3 0 rfl (fun j _ => mW_ups j) rfl ?_
  refine V.istore_n (lv2 := [(1, .int (thrN (lp, ti, r, sf) (-1) (fun j => placeN m j s.2.2.2.2.2.2.2) tu m).2), (0, .ref o)]) dX11_change_12 rfl (by decide) rfl ?_
  refine V.iconst (v := (-1)) dX11_change_13 (by decide) ?_
  refine V.istore_n (lv2 := [(2, .int (-1)), (1, .int (thrN (lp, ti, r, sf) (-1) (fun j => placeN m j s.2.2.2.2.2.2.2) tu m).2), (0, .ref o)]) dX11_change_14 rfl (by decide) rfl ?_
  refine V.iconst (v := 0) dX11_change_15 (by decide) ?_
  refine V.istore_n (lv2 := [(3, .int 0), (2, .int (-1)), (1, .int (thrN (lp, ti, r, sf) (-1) (fun j => placeN m j s.2.2.2.2.2.2.2) tu m).2), (0, .ref o)]) dX11_change_16 rfl (by decide) rfl ?_
  refine V.locals [3, 2, 1, 0] (by rfl) ?_
  have lp_17 : ∀ (fuel : Nat) (i : Nat) (X : MR) (p : Int32 × Int32) (hi9 : i ≤ m) (hinv : chgOut (fun x y => (thrN (lp, ti, r, sf) (-1) (exN m s.2.2.2.2.2.2.2 x y) tu m).2) m (m - i) i p = (chgOut (fun x y => (thrN (lp, ti, r, sf) (-1) (exN m s.2.2.2.2.2.2.2 x y) tu m).2) m m 0 ((thrN (lp, ti, r, sf) (-1) (fun j => placeN m j s.2.2.2.2.2.2.2) tu m).2, -1))) (hf : m < i + fuel), V E l yX11_change cX11_change 6 (some (.int)) (rmk 4 0 0) Z L h 0 0 [(o, ob 10 [.ref mw, .ref mk, .ref mt, .ref mr, .ref mki, .ref mso, .ref mst, .ref mpr, .ref msh, .ref mwa, .ref mpu, .ref mtx, .int ts, .int ma, .int bg, .int wr, .int cl, .int um, .ref mor, .ref mbo, .int mn, .ref tO, .ref tVi, .ref tSm, .int tm]), (msh, aI E 2 Sh), (mpu, aI E 2 Pu), (mw, aI E 192 (mW (va_up ρ 1 X))), (mr, aI E 8 Re), (mt, aI E 8 Ti), (mki, aI E 12 Ki), (mso, aI E 12 So), (mst, aI E 12 St), (mpr, aI E 12 Pr), (mwa, aI E 2 Wa)] 17 [(0, .ref o), (1, .int p.1), (2, .int p.2), (3, .int (nI i))] [] := by
    intro fuel
    induction fuel with
    | zero =>
      intro i X p hi9 hinv hf
      exfalso; omega
    | succ fuel ih_17 =>
      intro i X p hi9 hinv hf
      refine V.iload_n dX11_change_17 3 rfl ?_
      refine V.aload_n dX11_change_18 0 rfl ?_
      refine V.getf 0 8 rfl fa_X11_35_10 rfl dX11_change_19 ?_
      refine V.iconst (v := 0) dX11_change_22 (by decide) ?_
      refine V.iald 1 rfl (vin rfl) dX11_change_23 ?_
      refine V.topc (v := (Sh 0)) (rfl) ?_
      refine V.topc (v := (nI m)) (eM) ?_
      refine V.icmp_ge (tgt := 118) dX11_change_24 (by decide) (fun c1_24 => ?_) (fun c1_24 => ?_)
      · skip
        have hxc1_24 : m ≤ i := (nI_leI (a := m) (by omega) (by omega)).mp c1_24
        have hqc1_24 : i = m := by omega
        refine V.iload_n dX11_change_118 2 rfl ?_
        subst hZ
        exact V.iret rfl dX11_change_119 (⟨X, by rw [← hinv, show m - i = 0 by omega]; rfl, rfl, rfl, trivial⟩)
      · skip
        have hxc1_24 : i < m := Nat.lt_of_not_le (fun hh => c1_24 (nI_le (a := m) hh (by omega)))
        refine V.iload_n dX11_change_27 3 rfl ?_
        refine V.iconst (v := 1) dX11_change_28 (by decide) ?_
        refine V.iadd dX11_change_29 ?_
        refine V.topc (v := (nI (i + 1))) (nI_add i 1) ?_
        refine V.istore (lv2 := [(4, .int (nI (i + 1))), (0, .ref o), (1, .int p.1), (2, .int p.2), (3, .int (nI i))]) dX11_change_30 (by decide) rfl ?_
        refine V.locals [1, 2, 3, 4, 0] (by rfl) ?_
        have lp_32 : ∀ (fuel : Nat) (j : Nat) (X2 : MR) (q : Int32 × Int32) (hj : j ≤ m) (hj2 : i < j) (hinv2 : chgIn (fun x y => (thrN (lp, ti, r, sf) (-1) (exN m s.2.2.2.2.2.2.2 x y) tu m).2) i (m - j) j q = chgIn (fun x y => (thrN (lp, ti, r, sf) (-1) (exN m s.2.2.2.2.2.2.2 x y) tu m).2) i (m - (i + 1)) (i + 1) p) (hf2 : m < j + fuel), V E l yX11_change cX11_change 6 (some (.int)) (rmk 4 0 0) Z L h 0 0 [(o, ob 10 [.ref mw, .ref mk, .ref mt, .ref mr, .ref mki, .ref mso, .ref mst, .ref mpr, .ref msh, .ref mwa, .ref mpu, .ref mtx, .int ts, .int ma, .int bg, .int wr, .int cl, .int um, .ref mor, .ref mbo, .int mn, .ref tO, .ref tVi, .ref tSm, .int tm]), (msh, aI E 2 Sh), (mpu, aI E 2 Pu), (mw, aI E 192 (mW (va_up ρ 1 X2))), (mr, aI E 8 Re), (mt, aI E 8 Ti), (mki, aI E 12 Ki), (mso, aI E 12 So), (mst, aI E 12 St), (mpr, aI E 12 Pr), (mwa, aI E 2 Wa)] 32 [(0, .ref o), (1, .int q.1), (2, .int q.2), (3, .int (nI i)), (4, .int (nI j))] [] := by
          intro fuel
          induction fuel with
          | zero =>
            intro j X2 q hj hj2 hinv2 hf2
            exfalso; omega
          | succ fuel ih_32 =>
            intro j X2 q hj hj2 hinv2 hf2
            refine V.iload dX11_change_32 4 rfl ?_
            refine V.aload_n dX11_change_34 0 rfl ?_
            refine V.getf 0 8 rfl fa_X11_35_10 rfl dX11_change_35 ?_
            refine V.iconst (v := 0) dX11_change_38 (by decide) ?_
            refine V.iald 1 rfl (vin rfl) dX11_change_39 ?_
            refine V.topc (v := (Sh 0)) (rfl) ?_
            refine V.topc (v := (nI m)) (eM) ?_
            refine V.icmp_ge (tgt := 112) dX11_change_40 (by decide) (fun c2_40 => ?_) (fun c2_40 => ?_)
            · skip
              have hxc2_40 : m ≤ j := (nI_leI (a := m) (by omega) (by omega)).mp c2_40
              have hqc2_40 : j = m := by omega
              refine V.iinc (v := (nI (i + 1))) (lv2 := [(3, .int (nI (i + 1))), (0, .ref o), (1, .int q.1), (2, .int q.2), (4, .int (nI j))]) dX11_change_112 3 rfl (nI_1 _) (by decide) rfl ?_
              refine V.goto (tgt := 17) dX11_change_115 (by decide) ?_
              refine V.locals [1, 2, 3, 0] (by rfl) ?_
              exact ih_17 (i + 1) _ q (by omega) (by rw [← hinv, show m - i = (m - (i + 1)) + 1 by omega, chgOut, ← hinv2, show m - j = 0 by omega]; rfl) (by omega)
            · skip
              have hxc2_40 : j < m := Nat.lt_of_not_le (fun hh => c2_40 (nI_le (a := m) hh (by omega)))
              refine V.aload_n dX11_change_43 0 rfl ?_
              refine V.iconst (v := 0) dX11_change_44 (by decide) ?_
              refine V.bipush (v := 16) dX11_change_45 (by decide) ?_
              refine V.callVp (As := [.int 0, .int 16]) (rest := []) [0, 3] (c_M_copy E l L _ o mw mk mt mr mki mso mst mpr msh mwa mpu mtx mor mbo tO tVi tSm ts ma bg wr cl um mn tm ((va_up ρ 1 X2)) 0 1 (by decide) (by decide) (by decide)) rfl (by decide) mi_X11_copy 0 rfl rfl w_879 w_881 wp_19 rfl rfl (Nat.le_of_ble_eq_true rfl) ⟨by decide, by decide⟩ ⟨by decide, by decide⟩ dX11_change_47 (vw2 := fun _ => [(o, ob 10 [.ref mw, .ref mk, .ref mt, .ref mr, .ref mki, .ref mso, .ref mst, .ref mpr, .ref msh, .ref mwa, .ref mpu, .ref mtx, .int ts, .int ma, .int bg, .int wr, .int cl, .int um, .ref mor, .ref mbo, .int mn, .ref tO, .ref tVi, .ref tSm, .int tm]), (msh, aI E 2 Sh), (mpu, aI E 2 Pu), (mw, aI E 192 (mW (va_up (va_up ρ 1 X2) 1 ((va_up ρ 1 X2) 0)))), (mr, aI E 8 Re), (mt, aI E 8 Ti), (mki, aI E 12 Ki), (mso, aI E 12 So), (mst, aI E 12 St), (mpr, aI E 12 Pr), (mwa, aI E 2 Wa)]) (st2 := fun _ => []) (fun _ => rfl) (fun _ => rfl) (fun _ => rfl) (fun _ _ => ?_)
              refine V.arrEq (vw2 := [(o, ob 10 [.ref mw, .ref mk, .ref mt, .ref mr, .ref mki, .ref mso, .ref mst, .ref mpr, .ref msh, .ref mwa, .ref mpu, .ref mtx, .int ts, .int ma, .int bg, .int wr, .int cl, .int um, .ref mor, .ref mbo, .int mn, .ref tO, .ref tVi, .ref tSm, .int tm]), (msh, aI E 2 Sh), (mpu, aI E 2 Pu), (mw, aI E 192 (mW (va_up ρ 1 (pw, s)))), (mr, aI E 8 Re), (mt, aI E 8 Ti), (mki, aI E 12 Ki), (mso, aI E 12 So), (mst, aI E 12 St), (mpr, aI E 12 Pr), (mwa, aI E 2 Wa)]) 3 0 rfl (fun j9 _ => by rw [va_up_up, va_up_ne _ _ (by decide), hR]) rfl ?_
              refine V.aload_n dX11_change_50 0 rfl ?_
              refine V.getf 0 0 rfl fa_X11_7_10 rfl dX11_change_51 ?_
              refine V.bipush (v := 16) dX11_change_54 (by decide) ?_
              refine V.iload_n dX11_change_56 3 rfl ?_
              refine V.iadd dX11_change_57 ?_
              refine V.topc (v := (nI (16 + i))) (nI_add 16 i) ?_
              refine V.aload_n dX11_change_58 0 rfl ?_
              refine V.getf 0 0 rfl fa_X11_7_10 rfl dX11_change_59 ?_
              refine V.iload dX11_change_62 4 rfl ?_
              refine V.iald 3 rfl (vinI (by omega)) dX11_change_64 ?_
              refine V.topc (v := ((mW (va_up ρ 1 (pw, s))) j)) (by rw [nI_clamp (by omega)] <;> rfl) ?_
              refine V.topc (v := (pw j)) (mW_pl0 ((va_up_ne _ _ (by decide)).trans hR) (by omega)) ?_
              refine V.iast (vw2 := [(o, ob 10 [.ref mw, .ref mk, .ref mt, .ref mr, .ref mki, .ref mso, .ref mst, .ref mpr, .ref msh, .ref mwa, .ref mpu, .ref mtx, .int ts, .int ma, .int bg, .int wr, .int cl, .int um, .ref mor, .ref mbo, .int mn, .ref tO, .ref tVi, .ref tSm, .int tm]), (msh, aI E 2 Sh), (mpu, aI E 2 Pu), (mw, aI E 192 (upd (mW (va_up ρ 1 (pw, s))) (16 + i) (pw j))), (mr, aI E 8 Re), (mt, aI E 8 Ti), (mki, aI E 12 Ki), (mso, aI E 12 So), (mst, aI E 12 St), (mpr, aI E 12 Pr), (mwa, aI E 2 Wa)]) 3 rfl (vinI (by omega)) (by rw [nI_clamp (by omega)] <;> rfl) dX11_change_65 ?_
              refine V.arrEq (vw2 := [(o, ob 10 [.ref mw, .ref mk, .ref mt, .ref mr, .ref mki, .ref mso, .ref mst, .ref mpr, .ref msh, .ref mwa, .ref mpu, .ref mtx, .int ts, .int ma, .int bg, .int wr, .int cl, .int um, .ref mor, .ref mbo, .int mn, .ref tO, .ref tVi, .ref tSm, .int tm]), (msh, aI E 2 Sh), (mpu, aI E 2 Pu), (mw, aI E 192 (mW (va_up ρ 1 (upd pw i (pw j), s)))), (mr, aI E 8 Re), (mt, aI E 8 Ti), (mki, aI E 12 Ki), (mso, aI E 12 So), (mst, aI E 12 St), (mpr, aI E 12 Pr), (mwa, aI E 2 Wa)]) 3 0 rfl (fun j9 _ => (mW_plu (i := 1) (k := i) (va_up_self _ _ _) (by omega) j9).trans (by rw [va_up_up])) rfl ?_
              refine V.aload_n dX11_change_66 0 rfl ?_
              refine V.getf 0 0 rfl fa_X11_7_10 rfl dX11_change_67 ?_
              refine V.bipush (v := 16) dX11_change_70 (by decide) ?_
              refine V.iload dX11_change_72 4 rfl ?_
              refine V.iadd dX11_change_74 ?_
              refine V.topc (v := (nI (16 + j))) (nI_add 16 j) ?_
              refine V.aload_n dX11_change_75 0 rfl ?_
              refine V.getf 0 0 rfl fa_X11_7_10 rfl dX11_change_76 ?_
              refine V.iload_n dX11_change_79 3 rfl ?_
              refine V.iald 3 rfl (vinI (by omega)) dX11_change_80 ?_
              refine V.topc (v := ((mW (va_up ρ 1 (upd pw i (pw j), s))) i)) (by rw [nI_clamp (by omega)] <;> rfl) ?_
              refine V.topc (v := (pw i)) (mW_pl0 ((va_up_ne _ _ (by decide)).trans hR) (by omega)) ?_
              refine V.iast (vw2 := [(o, ob 10 [.ref mw, .ref mk, .ref mt, .ref mr, .ref mki, .ref mso, .ref mst, .ref mpr, .ref msh, .ref mwa, .ref mpu, .ref mtx, .int ts, .int ma, .int bg, .int wr, .int cl, .int um, .ref mor, .ref mbo, .int mn, .ref tO, .ref tVi, .ref tSm, .int tm]), (msh, aI E 2 Sh), (mpu, aI E 2 Pu), (mw, aI E 192 (upd (mW (va_up ρ 1 (upd pw i (pw j), s))) (16 + j) (pw i))), (mr, aI E 8 Re), (mt, aI E 8 Ti), (mki, aI E 12 Ki), (mso, aI E 12 So), (mst, aI E 12 St), (mpr, aI E 12 Pr), (mwa, aI E 2 Wa)]) 3 rfl (vinI (by omega)) (by rw [nI_clamp (by omega)] <;> rfl) dX11_change_81 ?_
              refine V.arrEq (vw2 := [(o, ob 10 [.ref mw, .ref mk, .ref mt, .ref mr, .ref mki, .ref mso, .ref mst, .ref mpr, .ref msh, .ref mwa, .ref mpu, .ref mtx, .int ts, .int ma, .int bg, .int wr, .int cl, .int um, .ref mor, .ref mbo, .int mn, .ref tO, .ref tVi, .ref tSm, .int tm]), (msh, aI E 2 Sh), (mpu, aI E 2 Pu), (mw, aI E 192 (mW (va_up ρ 1 (upd (upd pw i (pw j)) j (pw i), s)))), (mr, aI E 8 Re), (mt, aI E 8 Ti), (mki, aI E 12 Ki), (mso, aI E 12 So), (mst, aI E 12 St), (mpr, aI E 12 Pr), (mwa, aI E 2 Wa)]) 3 0 rfl (fun j9 _ => (mW_plu (i := 1) (k := j) (va_up_self _ _ _) (by omega) j9).trans (by rw [va_up_up])) rfl ?_
              refine V.aload_n dX11_change_82 0 rfl ?_
              refine V.iconst (v := (-1)) dX11_change_83 (by decide) ?_
              refine V.callVp (As := [.int (-1)]) (rest := []) [0, 1, 2, 3, 4, 5, 6, 7, 8, 9, 10] (c_M_throughBy E l L _ o mw mk mt mr mki mso mst mpr msh mwa mpu mtx mor mbo tO tVi tSm ts ma bg wr cl um mn tm ((va_up ρ 1 (upd (upd pw i (pw j)) j (pw i), s))) ((upd (upd pw i (pw j)) j (pw i))) s Re r Ti ti Ki So St Pr Wa m sf wa Sh Pu lp tu ((-1)) ((exN m s.2.2.2.2.2.2.2 i j)) ((va_up_self _ _ _)) (hTab) (hm) (eW) (hgR) (eR) (hgI) (eI) (eM) (ePu) (ex_beta hm (by omega) (by omega) (by omega) ePl)) rfl (by decide) mi_X11_throughBy 0 rfl rfl w_972 w_974 wp_32 rfl rfl (Nat.le_of_ble_eq_true rfl) ⟨by decide, by decide⟩ ⟨by decide, by decide⟩ dX11_change_84 (vw2 := fun u84 => [(o, ob 10 [.ref mw, .ref mk, .ref mt, .ref mr, .ref mki, .ref mso, .ref mst, .ref mpr, .ref msh, .ref mwa, .ref mpu, .ref mtx, .int ts, .int ma, .int bg, .int wr, .int cl, .int um, .ref mor, .ref mbo, .int mn, .ref tO, .ref tVi, .ref tSm, .int tm]), (msh, aI E 2 Sh), (mpu, aI E 2 Pu), (mw, aI E 192 (mW (va_up (va_up ρ 1 (upd (upd pw i (pw j)) j (pw i), s)) 1 ((upd (upd pw i (pw j)) j (pw i)), u84)))), (mr, aI E 8 Re), (mt, aI E 8 Ti), (mki, aI E 12 Ki), (mso, aI E 12 So), (mst, aI E 12 St), (mpr, aI E 12 Pr), (mwa, aI E 2 Wa)]) (st2 := fun u84 => [.int (thrN (lp, ti, r, sf) (-1) (exN m s.2.2.2.2.2.2.2 i j) tu m).2]) (fun _ => rfl) (fun _ => rfl) (fun _ => rfl) (fun u84 hq_84 => ?_)
              refine V.arrEq (vw2 := [(o, ob 10 [.ref mw, .ref mk, .ref mt, .ref mr, .ref mki, .ref mso, .ref mst, .ref mpr, .ref msh, .ref mwa, .ref mpu, .ref mtx, .int ts, .int ma, .int bg, .int wr, .int cl, .int um, .ref mor, .ref mbo, .int mn, .ref tO, .ref tVi, .ref tSm, .int tm]), (msh, aI E 2 Sh), (mpu, aI E 2 Pu), (mw, aI E 192 (mW (va_up ρ 1 ((upd (upd pw i (pw j)) j (pw i)), u84)))), (mr, aI E 8 Re), (mt, aI E 8 Ti), (mki, aI E 12 Ki), (mso, aI E 12 So), (mst, aI E 12 St), (mpr, aI E 12 Pr), (mwa, aI E 2 Wa)]) 3 0 rfl (fun j9 _ => mW_ups j9) rfl ?_
              refine V.istore (lv2 := [(5, .int (thrN (lp, ti, r, sf) (-1) (exN m s.2.2.2.2.2.2.2 i j) tu m).2), (0, .ref o), (1, .int q.1), (2, .int q.2), (3, .int (nI i)), (4, .int (nI j))]) dX11_change_87 (by decide) rfl ?_
              refine V.iload dX11_change_89 0 rfl ?_
              refine V.iload_n dX11_change_91 2 rfl ?_
              refine V.icmp_le (tgt := 106) dX11_change_92 (by decide) (fun c3_92 => ?_) (fun c3_92 => ?_)
              · skip
                refine V.iinc (v := (nI (j + 1))) (lv2 := [(4, .int (nI (j + 1))), (5, .int (thrN (lp, ti, r, sf) (-1) (exN m s.2.2.2.2.2.2.2 i j) tu m).2), (0, .ref o), (1, .int q.1), (2, .int q.2), (3, .int (nI i))]) dX11_change_106 5 rfl (nI_1 _) (by decide) rfl ?_
                refine V.goto (tgt := 32) dX11_change_109 (by decide) ?_
                refine V.locals [2, 3, 4, 5, 0] (by rfl) ?_
                exact ih_32 (j + 1) _ q (by omega) (by omega) (by rw [← hinv2, show m - j = (m - (j + 1)) + 1 by omega, chgIn, if_neg (Int32.not_lt.mpr c3_92)]) (by omega)
              · skip
                refine V.bipush (v := 10) dX11_change_95 (by decide) ?_
                refine V.iload_n dX11_change_97 4 rfl ?_
                refine V.imul dX11_change_98 ?_
                refine V.topc (v := (nI (10 * i))) (pk_mul 10 i) ?_
                refine V.iload dX11_change_99 5 rfl ?_
                refine V.iadd dX11_change_101 ?_
                refine V.topc (v := (nI ((10 * i) + j))) (nI_add ((10 * i)) j) ?_
                refine V.istore_n (lv2 := [(2, .int (nI ((10 * i) + j))), (5, .int (thrN (lp, ti, r, sf) (-1) (exN m s.2.2.2.2.2.2.2 i j) tu m).2), (0, .ref o), (1, .int q.1), (3, .int (nI i)), (4, .int (nI j))]) dX11_change_102 rfl (by decide) rfl ?_
                refine V.iload dX11_change_103 1 rfl ?_
                refine V.istore_n (lv2 := [(1, .int (thrN (lp, ti, r, sf) (-1) (exN m s.2.2.2.2.2.2.2 i j) tu m).2), (2, .int (nI ((10 * i) + j))), (5, .int (thrN (lp, ti, r, sf) (-1) (exN m s.2.2.2.2.2.2.2 i j) tu m).2), (0, .ref o), (3, .int (nI i)), (4, .int (nI j))]) dX11_change_105 rfl (by decide) rfl ?_
                refine V.iinc (v := (nI (j + 1))) (lv2 := [(4, .int (nI (j + 1))), (1, .int (thrN (lp, ti, r, sf) (-1) (exN m s.2.2.2.2.2.2.2 i j) tu m).2), (2, .int (nI ((10 * i) + j))), (5, .int (thrN (lp, ti, r, sf) (-1) (exN m s.2.2.2.2.2.2.2 i j) tu m).2), (0, .ref o), (3, .int (nI i))]) dX11_change_106 5 rfl (nI_1 _) (by decide) rfl ?_
                refine V.goto (tgt := 32) dX11_change_109 (by decide) ?_
                refine V.locals [4, 1, 2, 5, 0] (by rfl) ?_
                exact ih_32 (j + 1) _ ((thrN (lp, ti, r, sf) (-1) (exN m s.2.2.2.2.2.2.2 i j) tu m).2, nI (10 * i + j)) (by omega) (by omega) (by rw [← hinv2, show m - j = (m - (j + 1)) + 1 by omega, chgIn, if_pos (Int32.not_le.mp c3_92)]) (by omega)
        exact lp_32 (m + 1) (i + 1) X p (by omega) (by omega) rfl (by omega)
  exact lp_17 (m + 1) 0 (pw, u9) ((thrN (lp, ti, r, sf) (-1) (fun j => placeN m j s.2.2.2.2.2.2.2) tu m).2, -1) (Nat.zero_le _) rfl (by omega)

set_option maxHeartbeats 4000000 in
set_option maxRecDepth 100000 in
theorem c_M_coffeeAtO (E : vEnv) (l : Launch) (L : List Nat) (h : Nat → va_E) (o : Nat) (mw : Nat) (mk : Nat) (mt : Nat) (mr : Nat) (mki : Nat) (mso : Nat) (mst : Nat) (mpr : Nat) (msh : Nat) (mwa : Nat) (mpu : Nat) (mtx : Nat) (mor : Nat) (mbo : Nat) (tO : Nat) (tVi : Nat) (tSm : Nat) (ts : Int32) (ma : Int32) (bg : Int32) (wr : Int32) (cl : Int32) (um : Int32) (mn : Int32) (tm : Int32) (x : Int32) (hx : withinI x 0 1 = 0) : CT E l yX11_coffeeAt cX11_coffeeAt 6 (some (.int)) 1 0 0 L h [(o, ob 10 [.ref mw, .ref mk, .ref mt, .ref mr, .ref mki, .ref mso, .ref mst, .ref mpr, .ref msh, .ref mwa, .ref mpu, .ref mtx, .int ts, .int ma, .int bg, .int wr, .int cl, .int um, .ref mor, .ref mbo, .int mn, .ref tO, .ref tVi, .ref tSm, .int tm])] [.ref o, .int x] (qP L h (fun (_ : Unit) => [(o, ob 10 [.ref mw, .ref mk, .ref mt, .ref mr, .ref mki, .ref mso, .ref mst, .ref mpr, .ref msh, .ref mwa, .ref mpu, .ref mtx, .int ts, .int ma, .int bg, .int wr, .int cl, .int um, .ref mor, .ref mbo, .int mn, .ref tO, .ref tVi, .ref tSm, .int tm])]) (fun _ => some (.int (-3))) (fun _ => True)) := by
  refine CT.ofV (by decide +kernel) (Nat.le_of_ble_eq_true rfl) ?_
  refine V.locals2 (lv2 := [(0, .ref o), (1, .int x)]) rfl ?_
  refine V.iload_n dX11_coffeeAt_0 1 rfl ?_
  refine V.i2l dX11_coffeeAt_1 ?_
  refine V.lconst (v := 0) dX11_coffeeAt_2 (by decide) ?_
  refine V.stack (st2 := [.long (Int32.toInt64 0), .long (Int32.toInt64 x)]) (congrArg (fun z64 => Value.long z64 :: [.long (Int32.toInt64 x)]) (show (0 : Int64) = Int32.toInt64 0 by decide)) ?_
  refine V.lconst (v := 1) dX11_coffeeAt_3 (by decide) ?_
  refine V.stack (st2 := [.long (Int32.toInt64 1), .long (Int32.toInt64 0), .long (Int32.toInt64 x)]) (congrArg (fun z64 => Value.long z64 :: [.long (Int32.toInt64 0), .long (Int32.toInt64 x)]) (show (1 : Int64) = Int32.toInt64 1 by decide)) ?_
  refine V.callSp (As := [.long (Int32.toInt64 x), .long (Int32.toInt64 0), .long (Int32.toInt64 1)]) (rest := []) [] (c_M_in E l L _ x 0 1) rfl (by decide) mi_X11_in w_789 w_790 rfl rfl (Nat.le_of_ble_eq_true rfl) ⟨by decide, by decide⟩ ⟨by decide, by decide⟩ dX11_coffeeAt_4 (vw2 := fun _ => [(o, ob 10 [.ref mw, .ref mk, .ref mt, .ref mr, .ref mki, .ref mso, .ref mst, .ref mpr, .ref msh, .ref mwa, .ref mpu, .ref mtx, .int ts, .int ma, .int bg, .int wr, .int cl, .int um, .ref mor, .ref mbo, .int mn, .ref tO, .ref tVi, .ref tSm, .int tm])]) (st2 := fun _ => [.int (withinI x 0 1)]) (fun _ => rfl) (fun _ => rfl) (fun _ => rfl) (fun _ _ => ?_)
  refine V.topc (v := 0) (hx) ?_
  refine V.if_ne (tgt := 13) dX11_coffeeAt_7 (by decide) (fun hc => absurd (by decide) hc) (fun _ => ?_)
  refine V.bipush (v := (-3)) dX11_coffeeAt_10 (by decide) ?_
  exact V.iret rfl dX11_coffeeAt_12 (⟨(), rfl, rfl, rfl, trivial⟩)

set_option maxHeartbeats 4000000 in
set_option maxRecDepth 100000 in
theorem c_M_coffeeAt (E : vEnv) (l : Launch) (L : List Nat) (h : Nat → va_E) (o : Nat) (mw : Nat) (mk : Nat) (mt : Nat) (mr : Nat) (mki : Nat) (mso : Nat) (mst : Nat) (mpr : Nat) (msh : Nat) (mwa : Nat) (mpu : Nat) (mtx : Nat) (mor : Nat) (mbo : Nat) (tO : Nat) (tVi : Nat) (tSm : Nat) (ts : Int32) (ma : Int32) (bg : Int32) (wr : Int32) (cl : Int32) (um : Int32) (mn : Int32) (tm : Int32) (ρ : Nat → MR) (pw : Nat → Int32) (s : NS) (Re : Nat → Int32) (r : Nat → Int32) (Ti : Nat → Int32) (ti : Nat → Int32) (Ki : Nat → Int32) (So : Nat → Int32) (St : Nat → Int32) (Pr : Nat → Int32) (Wa : Nat → Int32) (m : Nat) (sf : Nat → SHP) (wa : Int32) (Sh : Nat → Int32) (Pu : Nat → Int32) (lp : Int32) (tu : Int32) (x : Int32) (hR : ρ 0 = (pw, s)) (hTab : TabS m sf Ki So St Pr) (hm : m ≤ 6) (eW : Wa 0 = wa) (hgR : gR r) (eR : ∀ j, j < 4 → Re j = r j) (hgI : gI ti) (eI : ∀ j, j < 4 → Ti j = ti j) (eM : Sh 0 = nI m) (ePu : Pu 0 = lp) (ePl : ∀ k_, k_ < m → pw k_ = placeI m k_ s.2.2.2.2.2.2.2) (hx : withinI x 0 1 = 1) : CT E l yX11_coffeeAt cX11_coffeeAt 6 (some (.int)) 4 0 0 L h [(o, ob 10 [.ref mw, .ref mk, .ref mt, .ref mr, .ref mki, .ref mso, .ref mst, .ref mpr, .ref msh, .ref mwa, .ref mpu, .ref mtx, .int ts, .int ma, .int bg, .int wr, .int cl, .int um, .ref mor, .ref mbo, .int mn, .ref tO, .ref tVi, .ref tSm, .int tm]), (msh, aI E 2 Sh), (mpu, aI E 2 Pu), (mw, aI E 192 (mW ρ)), (mr, aI E 8 Re), (mt, aI E 8 Ti), (mki, aI E 12 Ki), (mso, aI E 12 So), (mst, aI E 12 St), (mpr, aI E 12 Pr), (mwa, aI E 2 Wa)] [.ref o, .int x] (qP L h (fun (u : MR) => [(o, ob 10 [.ref mw, .ref mk, .ref mt, .ref mr, .ref mki, .ref mso, .ref mst, .ref mpr, .ref msh, .ref mwa, .ref mpu, .ref mtx, .int ts, .int ma, .int bg, .int wr, .int cl, .int um, .ref mor, .ref mbo, .int mn, .ref tO, .ref tVi, .ref tSm, .int tm]), (msh, aI E 2 Sh), (mpu, aI E 2 Pu), (mw, aI E 192 (mW (va_up ρ 1 u))), (mr, aI E 8 Re), (mt, aI E 8 Ti), (mki, aI E 12 Ki), (mso, aI E 12 So), (mst, aI E 12 St), (mpr, aI E 12 Pr), (mwa, aI E 2 Wa)]) (fun u => some (.int (if x = 0 then (cofG (fun k => (thrN (lp, ti, r, sf) (nI k) (fun j => placeN m j s.2.2.2.2.2.2.2) tu m).2) m 0 (-1, -1)).2 else (cofG (fun k => (thrN (lp, ti, r, sf) (nI k) (fun j => placeN m j s.2.2.2.2.2.2.2) tu m).2) m 0 (-1, -1)).1))) (fun u => True)) := by
  refine CT.ofV (by decide +kernel) (Nat.le_of_ble_eq_true rfl) ?_
  obtain ⟨Z, hZ⟩ : ∃ Z, Z = mZ E (qP L h (fun (u : MR) => [(o, ob 10 [.ref mw, .ref mk, .ref mt, .ref mr, .ref mki, .ref mso, .ref mst, .ref mpr, .ref msh, .ref mwa, .ref mpu, .ref mtx, .int ts, .int ma, .int bg, .int wr, .int cl, .int um, .ref mor, .ref mbo, .int mn, .ref tO, .ref tVi, .ref tSm, .int tm]), (msh, aI E 2 Sh), (mpu, aI E 2 Pu), (mw, aI E 192 (mW (va_up ρ 1 u))), (mr, aI E 8 Re), (mt, aI E 8 Ti), (mki, aI E 12 Ki), (mso, aI E 12 So), (mst, aI E 12 St), (mpr, aI E 12 Pr), (mwa, aI E 2 Wa)]) (fun u => some (.int (if x = 0 then (cofG (fun k => (thrN (lp, ti, r, sf) (nI k) (fun j => placeN m j s.2.2.2.2.2.2.2) tu m).2) m 0 (-1, -1)).2 else (cofG (fun k => (thrN (lp, ti, r, sf) (nI k) (fun j => placeN m j s.2.2.2.2.2.2.2) tu m).2) m 0 (-1, -1)).1))) (fun u => True)) 0 0 := ⟨_, rfl⟩
  rw [← hZ]
  refine V.locals2 (lv2 := [(0, .ref o), (1, .int x)]) rfl ?_
  refine V.iload_n dX11_coffeeAt_0 1 rfl ?_
  refine V.i2l dX11_coffeeAt_1 ?_
  refine V.lconst (v := 0) dX11_coffeeAt_2 (by decide) ?_
  refine V.stack (st2 := [.long (Int32.toInt64 0), .long (Int32.toInt64 x)]) (congrArg (fun z64 => Value.long z64 :: [.long (Int32.toInt64 x)]) (show (0 : Int64) = Int32.toInt64 0 by decide)) ?_
  refine V.lconst (v := 1) dX11_coffeeAt_3 (by decide) ?_
  refine V.stack (st2 := [.long (Int32.toInt64 1), .long (Int32.toInt64 0), .long (Int32.toInt64 x)]) (congrArg (fun z64 => Value.long z64 :: [.long (Int32.toInt64 0), .long (Int32.toInt64 x)]) (show (1 : Int64) = Int32.toInt64 1 by decide)) ?_
  refine V.callSp (As := [.long (Int32.toInt64 x), .long (Int32.toInt64 0), .long (Int32.toInt64 1)]) (rest := []) [] (c_M_in E l L _ x 0 1) rfl (by decide) mi_X11_in w_789 w_790 rfl rfl (Nat.le_of_ble_eq_true rfl) ⟨by decide, by decide⟩ ⟨by decide, by decide⟩ dX11_coffeeAt_4 (vw2 := fun _ => [(o, ob 10 [.ref mw, .ref mk, .ref mt, .ref mr, .ref mki, .ref mso, .ref mst, .ref mpr, .ref msh, .ref mwa, .ref mpu, .ref mtx, .int ts, .int ma, .int bg, .int wr, .int cl, .int um, .ref mor, .ref mbo, .int mn, .ref tO, .ref tVi, .ref tSm, .int tm]), (msh, aI E 2 Sh), (mpu, aI E 2 Pu), (mw, aI E 192 (mW ρ)), (mr, aI E 8 Re), (mt, aI E 8 Ti), (mki, aI E 12 Ki), (mso, aI E 12 So), (mst, aI E 12 St), (mpr, aI E 12 Pr), (mwa, aI E 2 Wa)]) (st2 := fun _ => [.int (withinI x 0 1)]) (fun _ => rfl) (fun _ => rfl) (fun _ => rfl) (fun _ _ => ?_)
  refine V.topc (v := 1) (hx) ?_
  refine V.if_ne (tgt := 13) dX11_coffeeAt_7 (by decide) (fun _ => ?_) (fun hc => absurd hc (by decide))
  refine V.iconst (v := (-1)) dX11_coffeeAt_13 (by decide) ?_
  refine V.istore_n (lv2 := [(2, .int (-1)), (0, .ref o), (1, .int x)]) dX11_coffeeAt_14 rfl (by decide) rfl ?_
  refine V.iconst (v := (-1)) dX11_coffeeAt_15 (by decide) ?_
  refine V.istore_n (lv2 := [(3, .int (-1)), (2, .int (-1)), (0, .ref o), (1, .int x)]) dX11_coffeeAt_16 rfl (by decide) rfl ?_
  refine V.iconst (v := 0) dX11_coffeeAt_17 (by decide) ?_
  refine V.istore (lv2 := [(4, .int 0), (3, .int (-1)), (2, .int (-1)), (0, .ref o), (1, .int x)]) dX11_coffeeAt_18 (by decide) rfl ?_
  refine V.arrEq (vw2 := [(o, ob 10 [.ref mw, .ref mk, .ref mt, .ref mr, .ref mki, .ref mso, .ref mst, .ref mpr, .ref msh, .ref mwa, .ref mpu, .ref mtx, .int ts, .int ma, .int bg, .int wr, .int cl, .int um, .ref mor, .ref mbo, .int mn, .ref tO, .ref tVi, .ref tSm, .int tm]), (msh, aI E 2 Sh), (mpu, aI E 2 Pu), (mw, aI E 192 (mW (va_up ρ 1 (ρ 1)))), (mr, aI E 8 Re), (mt, aI E 8 Ti), (mki, aI E 12 Ki), (mso, aI E 12 So), (mst, aI E 12 St), (mpr, aI E 12 Pr), (mwa, aI E 2 Wa)]) 3 0 rfl (fun j _ => by rw [va_up_id rfl]) rfl ?_
  refine V.locals [3, 4, 2, 1, 0] (by rfl) ?_
  have lp_20 : ∀ (fuel : Nat) (k : Nat) (X : MR) (p : Int32 × Int32) (hk9 : k ≤ m) (hinv : cofG (fun k => (thrN (lp, ti, r, sf) (nI k) (fun j => placeN m j s.2.2.2.2.2.2.2) tu m).2) (m - k) k p = (cofG (fun k => (thrN (lp, ti, r, sf) (nI k) (fun j => placeN m j s.2.2.2.2.2.2.2) tu m).2) m 0 (-1, -1))) (hf : m < k + fuel), V E l yX11_coffeeAt cX11_coffeeAt 6 (some (.int)) (rmk 4 0 0) Z L h 0 0 [(o, ob 10 [.ref mw, .ref mk, .ref mt, .ref mr, .ref mki, .ref mso, .ref mst, .ref mpr, .ref msh, .ref mwa, .ref mpu, .ref mtx, .int ts, .int ma, .int bg, .int wr, .int cl, .int um, .ref mor, .ref mbo, .int mn, .ref tO, .ref tVi, .ref tSm, .int tm]), (msh, aI E 2 Sh), (mpu, aI E 2 Pu), (mw, aI E 192 (mW (va_up ρ 1 X))), (mr, aI E 8 Re), (mt, aI E 8 Ti), (mki, aI E 12 Ki), (mso, aI E 12 So), (mst, aI E 12 St), (mpr, aI E 12 Pr), (mwa, aI E 2 Wa)] 20 [(0, .ref o), (1, .int x), (2, .int p.2), (3, .int p.1), (4, .int (nI k))] [] := by
    intro fuel
    induction fuel with
    | zero =>
      intro k X p hk9 hinv hf
      exfalso; omega
    | succ fuel ih_20 =>
      intro k X p hk9 hinv hf
      refine V.iload dX11_coffeeAt_20 4 rfl ?_
      refine V.aload_n dX11_coffeeAt_22 0 rfl ?_
      refine V.getf 0 8 rfl fa_X11_35_10 rfl dX11_coffeeAt_23 ?_
      refine V.iconst (v := 0) dX11_coffeeAt_26 (by decide) ?_
      refine V.iald 1 rfl (vin rfl) dX11_coffeeAt_27 ?_
      refine V.topc (v := (Sh 0)) (rfl) ?_
      refine V.topc (v := (nI m)) (eM) ?_
      refine V.icmp_ge (tgt := 64) dX11_coffeeAt_28 (by decide) (fun c1_28 => ?_) (fun c1_28 => ?_)
      · skip
        have hxc1_28 : m ≤ k := (nI_leI (a := m) (by omega) (by omega)).mp c1_28
        have hqc1_28 : k = m := by omega
        refine V.iload_n dX11_coffeeAt_64 1 rfl ?_
        refine V.if_ne (tgt := 72) dX11_coffeeAt_65 (by decide) (fun c2_65 => ?_) (fun c2_65 => ?_)
        · skip
          refine V.iload_n dX11_coffeeAt_72 3 rfl ?_
          subst hZ
          exact V.iret rfl dX11_coffeeAt_73 (⟨X, by rw [if_neg c2_65, ← hinv, show m - k = 0 by omega]; rfl, rfl, rfl, trivial⟩)
        · skip
          refine V.iload_n dX11_coffeeAt_68 2 rfl ?_
          refine V.goto (tgt := 73) dX11_coffeeAt_69 (by decide) ?_
          subst hZ
          exact V.iret rfl dX11_coffeeAt_73 (⟨X, by rw [if_pos c2_65, ← hinv, show m - k = 0 by omega]; rfl, rfl, rfl, trivial⟩)
      · skip
        have hxc1_28 : k < m := Nat.lt_of_not_le (fun hh => c1_28 (nI_le (a := m) hh (by omega)))
        refine V.aload_n dX11_coffeeAt_31 0 rfl ?_
        refine V.iconst (v := 0) dX11_coffeeAt_32 (by decide) ?_
        refine V.bipush (v := 16) dX11_coffeeAt_33 (by decide) ?_
        refine V.callVp (As := [.int 0, .int 16]) (rest := []) [0, 3] (c_M_copy E l L _ o mw mk mt mr mki mso mst mpr msh mwa mpu mtx mor mbo tO tVi tSm ts ma bg wr cl um mn tm ((va_up ρ 1 X)) 0 1 (by decide) (by decide) (by decide)) rfl (by decide) mi_X11_copy 0 rfl rfl w_879 w_881 wp_19 rfl rfl (Nat.le_of_ble_eq_true rfl) ⟨by decide, by decide⟩ ⟨by decide, by decide⟩ dX11_coffeeAt_35 (vw2 := fun _ => [(o, ob 10 [.ref mw, .ref mk, .ref mt, .ref mr, .ref mki, .ref mso, .ref mst, .ref mpr, .ref msh, .ref mwa, .ref mpu, .ref mtx, .int ts, .int ma, .int bg, .int wr, .int cl, .int um, .ref mor, .ref mbo, .int mn, .ref tO, .ref tVi, .ref tSm, .int tm]), (msh, aI E 2 Sh), (mpu, aI E 2 Pu), (mw, aI E 192 (mW (va_up (va_up ρ 1 X) 1 ((va_up ρ 1 X) 0)))), (mr, aI E 8 Re), (mt, aI E 8 Ti), (mki, aI E 12 Ki), (mso, aI E 12 So), (mst, aI E 12 St), (mpr, aI E 12 Pr), (mwa, aI E 2 Wa)]) (st2 := fun _ => []) (fun _ => rfl) (fun _ => rfl) (fun _ => rfl) (fun _ _ => ?_)
        refine V.arrEq (vw2 := [(o, ob 10 [.ref mw, .ref mk, .ref mt, .ref mr, .ref mki, .ref mso, .ref mst, .ref mpr, .ref msh, .ref mwa, .ref mpu, .ref mtx, .int ts, .int ma, .int bg, .int wr, .int cl, .int um, .ref mor, .ref mbo, .int mn, .ref tO, .ref tVi, .ref tSm, .int tm]), (msh, aI E 2 Sh), (mpu, aI E 2 Pu), (mw, aI E 192 (mW (va_up ρ 1 (pw, s)))), (mr, aI E 8 Re), (mt, aI E 8 Ti), (mki, aI E 12 Ki), (mso, aI E 12 So), (mst, aI E 12 St), (mpr, aI E 12 Pr), (mwa, aI E 2 Wa)]) 3 0 rfl (fun j _ => by rw [va_up_up, va_up_ne _ _ (by decide), hR]) rfl ?_
        refine V.aload_n dX11_coffeeAt_38 0 rfl ?_
        refine V.iload dX11_coffeeAt_39 4 rfl ?_
        refine V.callVp (As := [.int (nI k)]) (rest := []) [0, 1, 2, 3, 4, 5, 6, 7, 8, 9, 10] (c_M_throughBy E l L _ o mw mk mt mr mki mso mst mpr msh mwa mpu mtx mor mbo tO tVi tSm ts ma bg wr cl um mn tm ((va_up ρ 1 (pw, s))) pw s Re r Ti ti Ki So St Pr Wa m sf wa Sh Pu lp tu ((nI k)) ((fun j => placeN m j s.2.2.2.2.2.2.2)) ((va_up_self _ _ _)) (hTab) (hm) (eW) (hgR) (eR) (hgI) (eI) (eM) (ePu) (pl_beta hm ePl)) rfl (by decide) mi_X11_throughBy 0 rfl rfl w_972 w_974 wp_32 rfl rfl (Nat.le_of_ble_eq_true rfl) ⟨by decide, by decide⟩ ⟨by decide, by decide⟩ dX11_coffeeAt_41 (vw2 := fun u41 => [(o, ob 10 [.ref mw, .ref mk, .ref mt, .ref mr, .ref mki, .ref mso, .ref mst, .ref mpr, .ref msh, .ref mwa, .ref mpu, .ref mtx, .int ts, .int ma, .int bg, .int wr, .int cl, .int um, .ref mor, .ref mbo, .int mn, .ref tO, .ref tVi, .ref tSm, .int tm]), (msh, aI E 2 Sh), (mpu, aI E 2 Pu), (mw, aI E 192 (mW (va_up (va_up ρ 1 (pw, s)) 1 (pw, u41)))), (mr, aI E 8 Re), (mt, aI E 8 Ti), (mki, aI E 12 Ki), (mso, aI E 12 So), (mst, aI E 12 St), (mpr, aI E 12 Pr), (mwa, aI E 2 Wa)]) (st2 := fun u41 => [.int (thrN (lp, ti, r, sf) (nI k) (fun j => placeN m j s.2.2.2.2.2.2.2) tu m).2]) (fun _ => rfl) (fun _ => rfl) (fun _ => rfl) (fun u41 hq_41 => ?_)
        refine V.arrEq (vw2 := [(o, ob 10 [.ref mw, .ref mk, .ref mt, .ref mr, .ref mki, .ref mso, .ref mst, .ref mpr, .ref msh, .ref mwa, .ref mpu, .ref mtx, .int ts, .int ma, .int bg, .int wr, .int cl, .int um, .ref mor, .ref mbo, .int mn, .ref tO, .ref tVi, .ref tSm, .int tm]), (msh, aI E 2 Sh), (mpu, aI E 2 Pu), (mw, aI E 192 (mW (va_up ρ 1 (pw, u41)))), (mr, aI E 8 Re), (mt, aI E 8 Ti), (mki, aI E 12 Ki), (mso, aI E 12 So), (mst, aI E 12 St), (mpr, aI E 12 Pr), (mwa, aI E 2 Wa)]) 3 0 rfl (fun j _ => mW_ups j) rfl ?_
        refine V.istore (lv2 := [(5, .int (thrN (lp, ti, r, sf) (nI k) (fun j => placeN m j s.2.2.2.2.2.2.2) tu m).2), (0, .ref o), (1, .int x), (2, .int p.2), (3, .int p.1), (4, .int (nI k))]) dX11_coffeeAt_44 (by decide) rfl ?_
        refine V.iload dX11_coffeeAt_46 0 rfl ?_
        refine V.iload_n dX11_coffeeAt_48 4 rfl ?_
        refine V.icmp_le (tgt := 58) dX11_coffeeAt_49 (by decide) (fun c3_49 => ?_) (fun c3_49 => ?_)
        · skip
          refine V.iinc (v := (nI (k + 1))) (lv2 := [(4, .int (nI (k + 1))), (5, .int (thrN (lp, ti, r, sf) (nI k) (fun j => placeN m j s.2.2.2.2.2.2.2) tu m).2), (0, .ref o), (1, .int x), (2, .int p.2), (3, .int p.1)]) dX11_coffeeAt_58 5 rfl (nI_1 _) (by decide) rfl ?_
          refine V.goto (tgt := 20) dX11_coffeeAt_61 (by decide) ?_
          refine V.locals [2, 3, 4, 5, 0] (by rfl) ?_
          exact ih_20 (k + 1) _ p (by omega) (by rw [← hinv, show m - k = (m - (k + 1)) + 1 by omega, cofG, if_neg (Int32.not_lt.mpr c3_49)]) (by omega)
        · skip
          refine V.iload dX11_coffeeAt_52 5 rfl ?_
          refine V.istore_n (lv2 := [(2, .int (nI k)), (5, .int (thrN (lp, ti, r, sf) (nI k) (fun j => placeN m j s.2.2.2.2.2.2.2) tu m).2), (0, .ref o), (1, .int x), (3, .int p.1), (4, .int (nI k))]) dX11_coffeeAt_54 rfl (by decide) rfl ?_
          refine V.iload dX11_coffeeAt_55 1 rfl ?_
          refine V.istore_n (lv2 := [(3, .int (thrN (lp, ti, r, sf) (nI k) (fun j => placeN m j s.2.2.2.2.2.2.2) tu m).2), (2, .int (nI k)), (5, .int (thrN (lp, ti, r, sf) (nI k) (fun j => placeN m j s.2.2.2.2.2.2.2) tu m).2), (0, .ref o), (1, .int x), (4, .int (nI k))]) dX11_coffeeAt_57 rfl (by decide) rfl ?_
          refine V.iinc (v := (nI (k + 1))) (lv2 := [(4, .int (nI (k + 1))), (3, .int (thrN (lp, ti, r, sf) (nI k) (fun j => placeN m j s.2.2.2.2.2.2.2) tu m).2), (2, .int (nI k)), (5, .int (thrN (lp, ti, r, sf) (nI k) (fun j => placeN m j s.2.2.2.2.2.2.2) tu m).2), (0, .ref o), (1, .int x)]) dX11_coffeeAt_58 5 rfl (nI_1 _) (by decide) rfl ?_
          refine V.goto (tgt := 20) dX11_coffeeAt_61 (by decide) ?_
          refine V.locals [4, 5, 2, 1, 0] (by rfl) ?_
          exact ih_20 (k + 1) _ ((thrN (lp, ti, r, sf) (nI k) (fun j => placeN m j s.2.2.2.2.2.2.2) tu m).2, nI k) (by omega) (by rw [← hinv, show m - k = (m - (k + 1)) + 1 by omega, cofG, if_pos (Int32.not_le.mp c3_49)]) (by omega)
  exact lp_20 (m + 1) 0 (ρ 1) (-1, -1) (Nat.zero_le _) rfl (by omega)

set_option maxHeartbeats 4000000 in
set_option maxRecDepth 100000 in
theorem c_M_smeltBehind (E : vEnv) (l : Launch) (L : List Nat) (h : Nat → va_E) (o : Nat) (mw : Nat) (mk : Nat) (mt : Nat) (mr : Nat) (mki : Nat) (mso : Nat) (mst : Nat) (mpr : Nat) (msh : Nat) (mwa : Nat) (mpu : Nat) (mtx : Nat) (mor : Nat) (mbo : Nat) (tO : Nat) (tVi : Nat) (tSm : Nat) (ts : Int32) (ma : Int32) (bg : Int32) (wr : Int32) (cl : Int32) (um : Int32) (mn : Int32) (tm : Int32) (ρ : Nat → MR) (pw : Nat → Int32) (s : NS) (Ti : Nat → Int32) (ti : Nat → Int32) (Ki : Nat → Int32) (So : Nat → Int32) (St : Nat → Int32) (Pr : Nat → Int32) (Pu : Nat → Int32) (lp : Int32) (m : Nat) (sf : Nat → SHP) (k : Nat) (v : Nat) (hR1 : ρ 1 = (pw, s)) (hTab : TabS m sf Ki So St Pr) (hm : m ≤ 6) (ePu : Pu 0 = lp) (hgI : gI ti) (eI : ∀ j, j < 4 → Ti j = ti j) (hkm : k < m) (hv9 : v ≤ 9) : CT E l yX11_smeltBehind cX11_smeltBehind 4 (some (.int)) 2 0 0 L h [(o, ob 10 [.ref mw, .ref mk, .ref mt, .ref mr, .ref mki, .ref mso, .ref mst, .ref mpr, .ref msh, .ref mwa, .ref mpu, .ref mtx, .int ts, .int ma, .int bg, .int wr, .int cl, .int um, .ref mor, .ref mbo, .int mn, .ref tO, .ref tVi, .ref tSm, .int tm]), (mw, aI E 192 (mW ρ)), (mt, aI E 8 Ti), (mki, aI E 12 Ki), (mso, aI E 12 So), (mst, aI E 12 St), (mpu, aI E 2 Pu)] [.ref o, .int (nI k), .int (nI v)] (qP L h (fun (u : NS) => [(o, ob 10 [.ref mw, .ref mk, .ref mt, .ref mr, .ref mki, .ref mso, .ref mst, .ref mpr, .ref msh, .ref mwa, .ref mpu, .ref mtx, .int ts, .int ma, .int bg, .int wr, .int cl, .int um, .ref mor, .ref mbo, .int mn, .ref tO, .ref tVi, .ref tSm, .int tm]), (mw, aI E 192 (mW (va_up ρ 1 (pw, u)))), (mt, aI E 8 Ti), (mki, aI E 12 Ki), (mso, aI E 12 So), (mst, aI E 12 St), (mpu, aI E 2 Pu)]) (fun u => some (.int (behindI (sf k) (ti (sf k).2.1) v))) (fun u => True)) := by
  refine CT.ofV (by decide +kernel) (Nat.le_of_ble_eq_true rfl) ?_
  obtain ⟨Z, hZ⟩ : ∃ Z, Z = mZ E (qP L h (fun (u : NS) => [(o, ob 10 [.ref mw, .ref mk, .ref mt, .ref mr, .ref mki, .ref mso, .ref mst, .ref mpr, .ref msh, .ref mwa, .ref mpu, .ref mtx, .int ts, .int ma, .int bg, .int wr, .int cl, .int um, .ref mor, .ref mbo, .int mn, .ref tO, .ref tVi, .ref tSm, .int tm]), (mw, aI E 192 (mW (va_up ρ 1 (pw, u)))), (mt, aI E 8 Ti), (mki, aI E 12 Ki), (mso, aI E 12 So), (mst, aI E 12 St), (mpu, aI E 2 Pu)]) (fun u => some (.int (behindI (sf k) (ti (sf k).2.1) v))) (fun u => True)) 0 0 := ⟨_, rfl⟩
  rw [← hZ]
  refine V.locals2 (lv2 := [(0, .ref o), (1, .int (nI k)), (2, .int (nI v))]) rfl ?_
  refine V.aload_n dX11_smeltBehind_0 0 rfl ?_
  refine V.bipush (v := 16) dX11_smeltBehind_1 (by decide) ?_
  refine V.callVp (As := [.int 16]) (rest := []) [0, 1, 6] (c_M_fresh E l L _ o mw mk mt mr mki mso mst mpr msh mwa mpu mtx mor mbo tO tVi tSm ts ma bg wr cl um mn tm ρ 1 pw s Pu lp (by decide) (hR1) (ePu)) rfl (by decide) mi_X11_fresh 0 rfl rfl w_847 w_849 wp_16 rfl rfl (Nat.le_of_ble_eq_true rfl) ⟨by decide, by decide⟩ ⟨by decide, by decide⟩ dX11_smeltBehind_3 (vw2 := fun _ => [(o, ob 10 [.ref mw, .ref mk, .ref mt, .ref mr, .ref mki, .ref mso, .ref mst, .ref mpr, .ref msh, .ref mwa, .ref mpu, .ref mtx, .int ts, .int ma, .int bg, .int wr, .int cl, .int um, .ref mor, .ref mbo, .int mn, .ref tO, .ref tVi, .ref tSm, .int tm]), (mw, aI E 192 (mW (va_up ρ 1 (pw, (freshN lp s))))), (mt, aI E 8 Ti), (mki, aI E 12 Ki), (mso, aI E 12 So), (mst, aI E 12 St), (mpu, aI E 2 Pu)]) (st2 := fun _ => []) (fun _ => rfl) (fun _ => rfl) (fun _ => rfl) (fun _ _ => ?_)
  obtain ⟨t1, t2, t3, t4, t5, t6⟩ := hTab k hkm
  refine V.iconst (v := 0) dX11_smeltBehind_6 (by decide) ?_
  refine V.istore_n (lv2 := [(3, .int 0), (0, .ref o), (1, .int (nI k)), (2, .int (nI v))]) dX11_smeltBehind_7 rfl (by decide) rfl ?_
  refine V.locals [1, 2, 3, 0] (by rfl) ?_
  have lp_8 : ∀ (fuel : Nat) (i : Nat) (T : NS) (hi9 : i ≤ v) (hT : T.1 (sf k).2.1 = tiredBy (sf k).1 (sf k).2.1 (ti (sf k).2.1) i) (hg : gT T) (hc : T.2.2.2.1 = 0) (hf : v < i + fuel), V E l yX11_smeltBehind cX11_smeltBehind 4 (some (.int)) (rmk 2 0 0) Z L h 0 0 [(o, ob 10 [.ref mw, .ref mk, .ref mt, .ref mr, .ref mki, .ref mso, .ref mst, .ref mpr, .ref msh, .ref mwa, .ref mpu, .ref mtx, .int ts, .int ma, .int bg, .int wr, .int cl, .int um, .ref mor, .ref mbo, .int mn, .ref tO, .ref tVi, .ref tSm, .int tm]), (mw, aI E 192 (mW (va_up ρ 1 (pw, T)))), (mt, aI E 8 Ti), (mki, aI E 12 Ki), (mso, aI E 12 So), (mst, aI E 12 St), (mpu, aI E 2 Pu)] 8 [(0, .ref o), (1, .int (nI k)), (2, .int (nI v)), (3, .int (nI i))] [] := by
    intro fuel
    induction fuel with
    | zero =>
      intro i T hi9 hT hg hc hf
      exfalso; omega
    | succ fuel ih_8 =>
      intro i T hi9 hT hg hc hf
      refine V.iload_n dX11_smeltBehind_8 3 rfl ?_
      refine V.iload_n dX11_smeltBehind_9 2 rfl ?_
      refine V.icmp_ge (tgt := 37) dX11_smeltBehind_10 (by decide) (fun c1_10 => ?_) (fun c1_10 => ?_)
      · skip
        have hxc1_10 : v ≤ i := (nI_leI (a := v) (by omega) (by omega)).mp c1_10
        have hqc1_10 : i = v := by omega
        refine V.aload_n dX11_smeltBehind_37 0 rfl ?_
        refine V.bipush (v := 16) dX11_smeltBehind_38 (by decide) ?_
        refine V.iload_n dX11_smeltBehind_40 1 rfl ?_
        refine V.callVp (As := [.int 16, .int (nI k)]) (rest := []) [0, 1, 3, 4, 5] (c_M_smells E l L _ o mw mk mt mr mki mso mst mpr msh mwa mpu mtx mor mbo tO tVi tSm ts ma bg wr cl um mn tm ((va_up ρ 1 (pw, T))) 1 pw T Ki So St k ((sf k).1) ((sf k).2.1) ((sf k).2.2.1) (by decide) (va_up_self _ _ _) (by omega) (t5) (t6) (t1) (t2) (t3)) rfl (by decide) mi_X11_smells 0 rfl rfl w_870 w_872 wp_18 rfl rfl (Nat.le_of_ble_eq_true rfl) ⟨by decide, by decide⟩ ⟨by decide, by decide⟩ dX11_smeltBehind_41 (vw2 := fun _ => [(o, ob 10 [.ref mw, .ref mk, .ref mt, .ref mr, .ref mki, .ref mso, .ref mst, .ref mpr, .ref msh, .ref mwa, .ref mpu, .ref mtx, .int ts, .int ma, .int bg, .int wr, .int cl, .int um, .ref mor, .ref mbo, .int mn, .ref tO, .ref tVi, .ref tSm, .int tm]), (mw, aI E 192 (mW (va_up ρ 1 (pw, T)))), (mt, aI E 8 Ti), (mki, aI E 12 Ki), (mso, aI E 12 So), (mst, aI E 12 St), (mpu, aI E 2 Pu)]) (st2 := fun _ => [.int (muchN (sf k).1 (sf k).2.1 (sf k).2.2.1 T)]) (fun _ => rfl) (fun _ => rfl) (fun _ => rfl) (fun _ _ => ?_)
        subst hZ
        exact V.iret rfl dX11_smeltBehind_44 (⟨T, by rw [show muchN (sf k).1 (sf k).2.1 (sf k).2.2.1 T = behindI (sf k) (ti (sf k).2.1) v from by unfold muchN behindI; rw [hT, hc, hqc1_10]; rfl], rfl, rfl, trivial⟩)
      · skip
        have hxc1_10 : i < v := Nat.lt_of_not_le (fun hh => c1_10 (nI_le (a := v) hh (by omega)))
        refine V.aload_n dX11_smeltBehind_13 0 rfl ?_
        refine V.bipush (v := 16) dX11_smeltBehind_14 (by decide) ?_
        refine V.aload_n dX11_smeltBehind_16 0 rfl ?_
        refine V.getf 0 4 rfl fa_X11_23_10 rfl dX11_smeltBehind_17 ?_
        refine V.iload_n dX11_smeltBehind_20 1 rfl ?_
        refine V.iald 3 rfl (vinI (by omega)) dX11_smeltBehind_21 ?_
        refine V.topc (v := (Ki k)) (by rw [nI_clamp (by omega)] <;> rfl) ?_
        refine V.topc (v := (kindI (sf k).1)) (t1) ?_
        refine V.aload_n dX11_smeltBehind_22 0 rfl ?_
        refine V.getf 0 5 rfl fa_X11_26_10 rfl dX11_smeltBehind_23 ?_
        refine V.iload_n dX11_smeltBehind_26 1 rfl ?_
        refine V.iald 4 rfl (vinI (by omega)) dX11_smeltBehind_27 ?_
        refine V.topc (v := (So k)) (by rw [nI_clamp (by omega)] <;> rfl) ?_
        refine V.topc (v := (nI (sf k).2.1)) (t2) ?_
        refine V.callVp (As := [.int 16, .int (kindI (sf k).1), .int (nI (sf k).2.1)]) (rest := []) [0, 1, 2] (c_M_tireAs E l L _ o mw mk mt mr mki mso mst mpr msh mwa mpu mtx mor mbo tO tVi tSm ts ma bg wr cl um mn tm ((va_up ρ 1 (pw, T))) 1 pw T Ti ti ((sf k).2.1) ((sf k).1) (by decide) (va_up_self _ _ _) (t6) (hg) (hgI) (eI) (t5)) rfl (by decide) mi_X11_tireAs 0 rfl rfl w_883 w_885 wp_20 rfl rfl (Nat.le_of_ble_eq_true rfl) ⟨by decide, by decide⟩ ⟨by decide, by decide⟩ dX11_smeltBehind_28 (vw2 := fun _ => [(o, ob 10 [.ref mw, .ref mk, .ref mt, .ref mr, .ref mki, .ref mso, .ref mst, .ref mpr, .ref msh, .ref mwa, .ref mpu, .ref mtx, .int ts, .int ma, .int bg, .int wr, .int cl, .int um, .ref mor, .ref mbo, .int mn, .ref tO, .ref tVi, .ref tSm, .int tm]), (mw, aI E 192 (mW (va_up (va_up ρ 1 (pw, T)) 1 (pw, (tireN (sf k).1 (sf k).2.1 ti T))))), (mt, aI E 8 Ti), (mki, aI E 12 Ki), (mso, aI E 12 So), (mst, aI E 12 St), (mpu, aI E 2 Pu)]) (st2 := fun _ => []) (fun _ => rfl) (fun _ => rfl) (fun _ => rfl) (fun _ _ => ?_)
        refine V.arrEq (vw2 := [(o, ob 10 [.ref mw, .ref mk, .ref mt, .ref mr, .ref mki, .ref mso, .ref mst, .ref mpr, .ref msh, .ref mwa, .ref mpu, .ref mtx, .int ts, .int ma, .int bg, .int wr, .int cl, .int um, .ref mor, .ref mbo, .int mn, .ref tO, .ref tVi, .ref tSm, .int tm]), (mw, aI E 192 (mW (va_up ρ 1 (pw, tireN (sf k).1 (sf k).2.1 ti T)))), (mt, aI E 8 Ti), (mki, aI E 12 Ki), (mso, aI E 12 So), (mst, aI E 12 St), (mpu, aI E 2 Pu)]) 1 0 rfl (fun j _ => mW_ups j) rfl ?_
        refine V.iinc (v := (nI (i + 1))) (lv2 := [(3, .int (nI (i + 1))), (0, .ref o), (1, .int (nI k)), (2, .int (nI v))]) dX11_smeltBehind_31 3 rfl (nI_1 _) (by decide) rfl ?_
        refine V.goto (tgt := 8) dX11_smeltBehind_34 (by decide) ?_
        refine V.locals [1, 2, 3, 0] (by rfl) ?_
        exact ih_8 (i + 1) (tireN (sf k).1 (sf k).2.1 ti T) (by omega) (behind_s hT) (fun _ _ => held_in _) hc (by omega)
  exact lp_8 (v + 1) 0 (freshN lp s) (Nat.zero_le _) rfl (fun _ _ => ⟨0, by omega, rfl⟩) rfl (by omega)

set_option maxHeartbeats 4000000 in
set_option maxRecDepth 100000 in
theorem c_M_smallestU (E : vEnv) (l : Launch) (L : List Nat) (h : Nat → va_E) (o : Nat) (mw : Nat) (mk : Nat) (mt : Nat) (mr : Nat) (mki : Nat) (mso : Nat) (mst : Nat) (mpr : Nat) (msh : Nat) (mwa : Nat) (mpu : Nat) (mtx : Nat) (mor : Nat) (mbo : Nat) (tO : Nat) (tVi : Nat) (tSm : Nat) (ts : Int32) (ma : Int32) (bg : Int32) (wr : Int32) (cl : Int32) (um : Int32) (mn : Int32) (tm : Int32) (x : Int32) (hx : withinI x 0 3 = 0) : CT E l yX11_smallest cX11_smallest 7 (some (.int)) 1 0 0 L h [(o, ob 10 [.ref mw, .ref mk, .ref mt, .ref mr, .ref mki, .ref mso, .ref mst, .ref mpr, .ref msh, .ref mwa, .ref mpu, .ref mtx, .int ts, .int ma, .int bg, .int wr, .int cl, .int um, .ref mor, .ref mbo, .int mn, .ref tO, .ref tVi, .ref tSm, .int tm])] [.ref o, .int x] (qP L h (fun (_ : Unit) => [(o, ob 10 [.ref mw, .ref mk, .ref mt, .ref mr, .ref mki, .ref mso, .ref mst, .ref mpr, .ref msh, .ref mwa, .ref mpu, .ref mtx, .int ts, .int ma, .int bg, .int wr, .int cl, .int um, .ref mor, .ref mbo, .int mn, .ref tO, .ref tVi, .ref tSm, .int tm])]) (fun _ => some (.int (-2))) (fun _ => True)) := by
  refine CT.ofV (by decide +kernel) (Nat.le_of_ble_eq_true rfl) ?_
  refine V.locals2 (lv2 := [(0, .ref o), (1, .int x)]) rfl ?_
  refine V.iload_n dX11_smallest_0 1 rfl ?_
  refine V.i2l dX11_smallest_1 ?_
  refine V.lconst (v := 0) dX11_smallest_2 (by decide) ?_
  refine V.stack (st2 := [.long (Int32.toInt64 0), .long (Int32.toInt64 x)]) (congrArg (fun z64 => Value.long z64 :: [.long (Int32.toInt64 x)]) (show (0 : Int64) = Int32.toInt64 0 by decide)) ?_
  refine V.ldc2 dX11_smallest_3 w_855 ?_
  refine V.stack (st2 := [.long (Int32.toInt64 3), .long (Int32.toInt64 0), .long (Int32.toInt64 x)]) (congrArg (fun z64 => Value.long z64 :: [.long (Int32.toInt64 0), .long (Int32.toInt64 x)]) (show (3 : Int64) = Int32.toInt64 3 by decide)) ?_
  refine V.callSp (As := [.long (Int32.toInt64 x), .long (Int32.toInt64 0), .long (Int32.toInt64 3)]) (rest := []) [] (c_M_in E l L _ x 0 3) rfl (by decide) mi_X11_in w_789 w_790 rfl rfl (Nat.le_of_ble_eq_true rfl) ⟨by decide, by decide⟩ ⟨by decide, by decide⟩ dX11_smallest_6 (vw2 := fun _ => [(o, ob 10 [.ref mw, .ref mk, .ref mt, .ref mr, .ref mki, .ref mso, .ref mst, .ref mpr, .ref msh, .ref mwa, .ref mpu, .ref mtx, .int ts, .int ma, .int bg, .int wr, .int cl, .int um, .ref mor, .ref mbo, .int mn, .ref tO, .ref tVi, .ref tSm, .int tm])]) (st2 := fun _ => [.int (withinI x 0 3)]) (fun _ => rfl) (fun _ => rfl) (fun _ => rfl) (fun _ _ => ?_)
  refine V.topc (v := 0) (hx) ?_
  refine V.if_ne (tgt := 15) dX11_smallest_9 (by decide) (fun hc => absurd (by decide) hc) (fun _ => ?_)
  refine V.bipush (v := (-2)) dX11_smallest_12 (by decide) ?_
  exact V.iret rfl dX11_smallest_14 (⟨(), rfl, rfl, rfl, trivial⟩)

set_option maxHeartbeats 4000000 in
set_option maxRecDepth 100000 in
theorem c_M_smallest (E : vEnv) (l : Launch) (L : List Nat) (h : Nat → va_E) (o : Nat) (mw : Nat) (mk : Nat) (mt : Nat) (mr : Nat) (mki : Nat) (mso : Nat) (mst : Nat) (mpr : Nat) (msh : Nat) (mwa : Nat) (mpu : Nat) (mtx : Nat) (mor : Nat) (mbo : Nat) (tO : Nat) (tVi : Nat) (tSm : Nat) (ts : Int32) (ma : Int32) (bg : Int32) (wr : Int32) (cl : Int32) (um : Int32) (mn : Int32) (ρ : Nat → MR) (Ti : Nat → Int32) (ti : Nat → Int32) (Ki : Nat → Int32) (So : Nat → Int32) (St : Nat → Int32) (Pr : Nat → Int32) (Pu : Nat → Int32) (lp : Int32) (m : Nat) (sf : Nat → SHP) (n : Nat) (tk : Nat → Nat) (tv : Nat → Nat) (fM : Nat → Int32) (sx : Nat) (hTab : TabS m sf Ki So St Pr) (hm : m ≤ 6) (ePu : Pu 0 = lp) (hgI : gI ti) (eI : ∀ j, j < 4 → Ti j = ti j) (hn : n ≤ 6) (hsx : sx < 4) (htk : ∀ i, i < n → tk i < m ∧ tv i ≤ 9) : CT E l yX11_smallest cX11_smallest 7 (some (.int)) 3 0 0 L h [(o, ob 10 [.ref mw, .ref mk, .ref mt, .ref mr, .ref mki, .ref mso, .ref mst, .ref mpr, .ref msh, .ref mwa, .ref mpu, .ref mtx, .int ts, .int ma, .int bg, .int wr, .int cl, .int um, .ref mor, .ref mbo, .int mn, .ref tO, .ref tVi, .ref tSm, .int (nI n)]), (mw, aI E 192 (mW ρ)), (mt, aI E 8 Ti), (mki, aI E 12 Ki), (mso, aI E 12 So), (mst, aI E 12 St), (mpu, aI E 2 Pu), (tO, aI E 6 (fun j => nI (tk j))), (tVi, aI E 6 (fun j => nI (tv j))), (tSm, aI E 6 fM)] [.ref o, .int (nI sx)] (qP L h (fun (u : MR) => [(o, ob 10 [.ref mw, .ref mk, .ref mt, .ref mr, .ref mki, .ref mso, .ref mst, .ref mpr, .ref msh, .ref mwa, .ref mpu, .ref mtx, .int ts, .int ma, .int bg, .int wr, .int cl, .int um, .ref mor, .ref mbo, .int mn, .ref tO, .ref tVi, .ref tSm, .int (nI n)]), (mw, aI E 192 (mW (va_up ρ 1 u))), (mt, aI E 8 Ti), (mki, aI E 12 Ki), (mso, aI E 12 So), (mst, aI E 12 St), (mpu, aI E 2 Pu), (tO, aI E 6 (fun j => nI (tk j))), (tVi, aI E 6 (fun j => nI (tv j))), (tSm, aI E 6 fM)]) (fun u => some (.int (small9 (fun t => ∀ i, i < n → tellFits sf tk tv fM (nI sx) (nI t) i) 10 0))) (fun u => True)) := by
  refine CT.ofV (by decide +kernel) (Nat.le_of_ble_eq_true rfl) ?_
  obtain ⟨Z, hZ⟩ : ∃ Z, Z = mZ E (qP L h (fun (u : MR) => [(o, ob 10 [.ref mw, .ref mk, .ref mt, .ref mr, .ref mki, .ref mso, .ref mst, .ref mpr, .ref msh, .ref mwa, .ref mpu, .ref mtx, .int ts, .int ma, .int bg, .int wr, .int cl, .int um, .ref mor, .ref mbo, .int mn, .ref tO, .ref tVi, .ref tSm, .int (nI n)]), (mw, aI E 192 (mW (va_up ρ 1 u))), (mt, aI E 8 Ti), (mki, aI E 12 Ki), (mso, aI E 12 So), (mst, aI E 12 St), (mpu, aI E 2 Pu), (tO, aI E 6 (fun j => nI (tk j))), (tVi, aI E 6 (fun j => nI (tv j))), (tSm, aI E 6 fM)]) (fun u => some (.int (small9 (fun t => ∀ i, i < n → tellFits sf tk tv fM (nI sx) (nI t) i) 10 0))) (fun u => True)) 0 0 := ⟨_, rfl⟩
  rw [← hZ]
  refine V.locals2 (lv2 := [(0, .ref o), (1, .int (nI sx))]) rfl ?_
  refine V.iload_n dX11_smallest_0 1 rfl ?_
  refine V.i2l dX11_smallest_1 ?_
  refine V.lconst (v := 0) dX11_smallest_2 (by decide) ?_
  refine V.stack (st2 := [.long (Int32.toInt64 0), .long (Int32.toInt64 (nI sx))]) (congrArg (fun z64 => Value.long z64 :: [.long (Int32.toInt64 (nI sx))]) (show (0 : Int64) = Int32.toInt64 0 by decide)) ?_
  refine V.ldc2 dX11_smallest_3 w_855 ?_
  refine V.stack (st2 := [.long (Int32.toInt64 3), .long (Int32.toInt64 0), .long (Int32.toInt64 (nI sx))]) (congrArg (fun z64 => Value.long z64 :: [.long (Int32.toInt64 0), .long (Int32.toInt64 (nI sx))]) (show (3 : Int64) = Int32.toInt64 3 by decide)) ?_
  refine V.callSp (As := [.long (Int32.toInt64 (nI sx)), .long (Int32.toInt64 0), .long (Int32.toInt64 3)]) (rest := []) [] (c_M_in E l L _ ((nI sx)) 0 3) rfl (by decide) mi_X11_in w_789 w_790 rfl rfl (Nat.le_of_ble_eq_true rfl) ⟨by decide, by decide⟩ ⟨by decide, by decide⟩ dX11_smallest_6 (vw2 := fun _ => [(o, ob 10 [.ref mw, .ref mk, .ref mt, .ref mr, .ref mki, .ref mso, .ref mst, .ref mpr, .ref msh, .ref mwa, .ref mpu, .ref mtx, .int ts, .int ma, .int bg, .int wr, .int cl, .int um, .ref mor, .ref mbo, .int mn, .ref tO, .ref tVi, .ref tSm, .int (nI n)]), (mw, aI E 192 (mW ρ)), (mt, aI E 8 Ti), (mki, aI E 12 Ki), (mso, aI E 12 So), (mst, aI E 12 St), (mpu, aI E 2 Pu), (tO, aI E 6 (fun j => nI (tk j))), (tVi, aI E 6 (fun j => nI (tv j))), (tSm, aI E 6 fM)]) (st2 := fun _ => [.int (withinI (nI sx) 0 3)]) (fun _ => rfl) (fun _ => rfl) (fun _ => rfl) (fun _ _ => ?_)
  refine V.topc (v := 1) (within_nI (m := 4) hsx (by omega)) ?_
  refine V.if_ne (tgt := 15) dX11_smallest_9 (by decide) (fun _ => ?_) (fun hc => absurd hc (by decide))
  refine V.aload_n dX11_smallest_15 0 rfl ?_
  refine V.getf 0 2 rfl fa_X11_17_10 rfl dX11_smallest_16 ?_
  refine V.iload_n dX11_smallest_19 1 rfl ?_
  refine V.iald 2 rfl (vinI (by omega)) dX11_smallest_20 ?_
  refine V.topc (v := (Ti sx)) (by rw [nI_clamp (by omega)] <;> rfl) ?_
  refine V.istore_n (lv2 := [(2, .int (Ti sx)), (0, .ref o), (1, .int (nI sx))]) dX11_smallest_21 rfl (by decide) rfl ?_
  refine V.iconst (v := (-1)) dX11_smallest_22 (by decide) ?_
  refine V.istore_n (lv2 := [(3, .int (-1)), (2, .int (Ti sx)), (0, .ref o), (1, .int (nI sx))]) dX11_smallest_23 rfl (by decide) rfl ?_
  refine V.bipush (v := 9) dX11_smallest_24 (by decide) ?_
  refine V.topc (v := (pI 10)) (by decide) ?_
  refine V.istore (lv2 := [(4, .int (pI 10)), (3, .int (-1)), (2, .int (Ti sx)), (0, .ref o), (1, .int (nI sx))]) dX11_smallest_26 (by decide) rfl ?_
  refine V.arrEq (vw2 := [(o, ob 10 [.ref mw, .ref mk, .ref mt, .ref mr, .ref mki, .ref mso, .ref mst, .ref mpr, .ref msh, .ref mwa, .ref mpu, .ref mtx, .int ts, .int ma, .int bg, .int wr, .int cl, .int um, .ref mor, .ref mbo, .int mn, .ref tO, .ref tVi, .ref tSm, .int (nI n)]), (mw, aI E 192 (mW (va_up ρ 1 (ρ 1)))), (mt, aI E 8 Ti), (mki, aI E 12 Ki), (mso, aI E 12 So), (mst, aI E 12 St), (mpu, aI E 2 Pu), (tO, aI E 6 (fun j => nI (tk j))), (tVi, aI E 6 (fun j => nI (tv j))), (tSm, aI E 6 fM)]) 1 0 rfl (fun j _ => by rw [va_up_id rfl]) rfl ?_
  refine V.locals [3, 4, 2, 1, 0] (by rfl) ?_
  have lp_28 : ∀ (fuel : Nat) (tt : Nat) (fd : Int32) (X : MR) (Tt : Nat → Int32) (ht10 : tt ≤ 10) (hfd : fd = small9 (fun t => ∀ i, i < n → tellFits sf tk tv fM (nI sx) (nI t) i) (10 - tt) tt) (hTt : ∀ j, j ≠ sx → Tt j = Ti j) (hf : tt < fuel), V E l yX11_smallest cX11_smallest 7 (some (.int)) (rmk 3 0 0) Z L h 0 0 [(o, ob 10 [.ref mw, .ref mk, .ref mt, .ref mr, .ref mki, .ref mso, .ref mst, .ref mpr, .ref msh, .ref mwa, .ref mpu, .ref mtx, .int ts, .int ma, .int bg, .int wr, .int cl, .int um, .ref mor, .ref mbo, .int mn, .ref tO, .ref tVi, .ref tSm, .int (nI n)]), (mw, aI E 192 (mW (va_up ρ 1 X))), (mt, aI E 8 Tt), (mki, aI E 12 Ki), (mso, aI E 12 So), (mst, aI E 12 St), (mpu, aI E 2 Pu), (tO, aI E 6 (fun j => nI (tk j))), (tVi, aI E 6 (fun j => nI (tv j))), (tSm, aI E 6 fM)] 28 [(0, .ref o), (1, .int (nI sx)), (2, .int (Ti sx)), (3, .int fd), (4, .int (pI tt))] [] := by
    intro fuel
    induction fuel with
    | zero =>
      intro tt fd X Tt ht10 hfd hTt hf
      exfalso; omega
    | succ fuel ih_28 =>
      intro tt fd X Tt ht10 hfd hTt hf
      refine V.iload dX11_smallest_28 4 rfl ?_
      refine V.if_lt (tgt := 136) dX11_smallest_30 (by decide) (fun c1_30 => ?_) (fun c1_30 => ?_)
      · skip
        have hc0 : tt = 0 := (pI_neg (by omega)).mp c1_30
        refine V.aload_n dX11_smallest_136 0 rfl ?_
        refine V.getf 0 2 rfl fa_X11_17_10 rfl dX11_smallest_137 ?_
        refine V.iload_n dX11_smallest_140 1 rfl ?_
        refine V.iload_n dX11_smallest_141 2 rfl ?_
        refine V.iast (vw2 := [(o, ob 10 [.ref mw, .ref mk, .ref mt, .ref mr, .ref mki, .ref mso, .ref mst, .ref mpr, .ref msh, .ref mwa, .ref mpu, .ref mtx, .int ts, .int ma, .int bg, .int wr, .int cl, .int um, .ref mor, .ref mbo, .int mn, .ref tO, .ref tVi, .ref tSm, .int (nI n)]), (mw, aI E 192 (mW (va_up ρ 1 X))), (mt, aI E 8 (upd Tt sx (Ti sx))), (mki, aI E 12 Ki), (mso, aI E 12 So), (mst, aI E 12 St), (mpu, aI E 2 Pu), (tO, aI E 6 (fun j => nI (tk j))), (tVi, aI E 6 (fun j => nI (tv j))), (tSm, aI E 6 fM)]) 2 rfl (vinI (by omega)) (by rw [nI_clamp (by omega)] <;> rfl) dX11_smallest_142 ?_
        refine V.arrEq (vw2 := [(o, ob 10 [.ref mw, .ref mk, .ref mt, .ref mr, .ref mki, .ref mso, .ref mst, .ref mpr, .ref msh, .ref mwa, .ref mpu, .ref mtx, .int ts, .int ma, .int bg, .int wr, .int cl, .int um, .ref mor, .ref mbo, .int mn, .ref tO, .ref tVi, .ref tSm, .int (nI n)]), (mw, aI E 192 (mW (va_up ρ 1 X))), (mt, aI E 8 Ti), (mki, aI E 12 Ki), (mso, aI E 12 So), (mst, aI E 12 St), (mpu, aI E 2 Pu), (tO, aI E 6 (fun j => nI (tk j))), (tVi, aI E 6 (fun j => nI (tv j))), (tSm, aI E 6 fM)]) 2 0 rfl (fun j hj => by
          by_cases h9 : j = sx
          · rw [h9, pk_us]
          · rw [pk_un h9]; exact hTt j h9) rfl ?_
        refine V.iload_n dX11_smallest_143 3 rfl ?_
        subst hZ
        exact V.iret rfl dX11_smallest_144 (⟨X, by rw [hfd, hc0], rfl, rfl, trivial⟩)
      · skip
        obtain ⟨t, rfl⟩ : ∃ t, tt = t + 1 := ⟨tt - 1, by have h9 : tt ≠ 0 := fun h9 => c1_30 ((pI_neg (by omega)).mpr h9); omega⟩
        rw [pI_s]
        refine V.aload_n dX11_smallest_33 0 rfl ?_
        refine V.getf 0 2 rfl fa_X11_17_10 rfl dX11_smallest_34 ?_
        refine V.iload_n dX11_smallest_37 1 rfl ?_
        refine V.iload dX11_smallest_38 4 rfl ?_
        refine V.iast (vw2 := [(o, ob 10 [.ref mw, .ref mk, .ref mt, .ref mr, .ref mki, .ref mso, .ref mst, .ref mpr, .ref msh, .ref mwa, .ref mpu, .ref mtx, .int ts, .int ma, .int bg, .int wr, .int cl, .int um, .ref mor, .ref mbo, .int mn, .ref tO, .ref tVi, .ref tSm, .int (nI n)]), (mw, aI E 192 (mW (va_up ρ 1 X))), (mt, aI E 8 (upd Tt sx (nI t))), (mki, aI E 12 Ki), (mso, aI E 12 So), (mst, aI E 12 St), (mpu, aI E 2 Pu), (tO, aI E 6 (fun j => nI (tk j))), (tVi, aI E 6 (fun j => nI (tv j))), (tSm, aI E 6 fM)]) 2 rfl (vinI (by omega)) (by rw [nI_clamp (by omega)] <;> rfl) dX11_smallest_40 ?_
        refine V.iconst (v := 1) dX11_smallest_41 (by decide) ?_
        refine V.istore (lv2 := [(5, .int 1), (0, .ref o), (1, .int (nI sx)), (2, .int (Ti sx)), (3, .int fd), (4, .int (nI t))]) dX11_smallest_42 (by decide) rfl ?_
        refine V.iconst (v := 0) dX11_smallest_44 (by decide) ?_
        refine V.istore (lv2 := [(6, .int 0), (5, .int 1), (0, .ref o), (1, .int (nI sx)), (2, .int (Ti sx)), (3, .int fd), (4, .int (nI t))]) dX11_smallest_45 (by decide) rfl ?_
        refine V.locals [2, 3, 4, 5, 6, 1, 0] (by rfl) ?_
        have lp_47 : ∀ (fuel : Nat) (i : Nat) (X2 : MR) (b : Int32) (hi9 : i ≤ n) (hb : (b = 1 ∧ ∀ q, q < i → tellFits sf tk tv fM (nI sx) (nI t) q) ∨ (b = 0 ∧ ¬ (∀ i, i < n → tellFits sf tk tv fM (nI sx) (nI t) i))) (hf2 : n < i + fuel), V E l yX11_smallest cX11_smallest 7 (some (.int)) (rmk 3 0 0) Z L h 0 0 [(o, ob 10 [.ref mw, .ref mk, .ref mt, .ref mr, .ref mki, .ref mso, .ref mst, .ref mpr, .ref msh, .ref mwa, .ref mpu, .ref mtx, .int ts, .int ma, .int bg, .int wr, .int cl, .int um, .ref mor, .ref mbo, .int mn, .ref tO, .ref tVi, .ref tSm, .int (nI n)]), (mw, aI E 192 (mW (va_up ρ 1 X2))), (mt, aI E 8 (upd Tt sx (nI t))), (mki, aI E 12 Ki), (mso, aI E 12 So), (mst, aI E 12 St), (mpu, aI E 2 Pu), (tO, aI E 6 (fun j => nI (tk j))), (tVi, aI E 6 (fun j => nI (tv j))), (tSm, aI E 6 fM)] 47 [(0, .ref o), (1, .int (nI sx)), (2, .int (Ti sx)), (3, .int fd), (4, .int (nI t)), (5, .int b), (6, .int (nI i))] [] := by
          intro fuel
          induction fuel with
          | zero =>
            intro i X2 b hi9 hb hf2
            exfalso; omega
          | succ fuel ih_47 =>
            intro i X2 b hi9 hb hf2
            refine V.iload dX11_smallest_47 6 rfl ?_
            refine V.aload_n dX11_smallest_49 0 rfl ?_
            refine V.getf 0 24 rfl fa_X11_136_10 rfl dX11_smallest_50 ?_
            refine V.icmp_ge (tgt := 118) dX11_smallest_53 (by decide) (fun c2_53 => ?_) (fun c2_53 => ?_)
            · skip
              have hxc2_53 : n ≤ i := (nI_leI (a := n) (by omega) (by omega)).mp c2_53
              have hqc2_53 : i = n := by omega
              have hbe : (b = 1 ∧ (∀ i, i < n → tellFits sf tk tv fM (nI sx) (nI t) i)) ∨ (b = 0 ∧ ¬ (∀ i, i < n → tellFits sf tk tv fM (nI sx) (nI t) i)) := hb.elim (fun h9 => Or.inl ⟨h9.1, fun q hq => h9.2 q (by omega)⟩) Or.inr
              refine V.iload dX11_smallest_118 5 rfl ?_
              refine V.if_eq (tgt := 128) dX11_smallest_120 (by decide) (fun c3_120 => ?_) (fun c3_120 => ?_)
              · skip
                have hnf : ¬ (∀ i, i < n → tellFits sf tk tv fM (nI sx) (nI t) i) := (hbe.resolve_left (fun h9 => absurd (h9.1.symm.trans c3_120) (by decide))).2
                refine V.iload_n dX11_smallest_128 3 rfl ?_
                refine V.istore_n (lv2 := [(3, .int fd), (0, .ref o), (1, .int (nI sx)), (2, .int (Ti sx)), (4, .int (nI t)), (5, .int b), (6, .int (nI i))]) dX11_smallest_129 rfl (by decide) rfl ?_
                refine V.iinc (v := (pI t)) (lv2 := [(4, .int (pI t)), (3, .int fd), (0, .ref o), (1, .int (nI sx)), (2, .int (Ti sx)), (5, .int b), (6, .int (nI i))]) dX11_smallest_130 4 rfl (inc_m1 _) (by decide) rfl ?_
                refine V.goto (tgt := 28) dX11_smallest_133 (by decide) ?_
                refine V.locals [2, 3, 4, 1, 0] (by rfl) ?_
                exact ih_28 t _ _ _ (by omega) (by rw [show 10 - t = (10 - (t + 1)) + 1 by omega, small9_dn, cI_f hnf]; exact hfd) (fun j hj => by rw [pk_un hj]; exact hTt j hj) (by omega)
              · skip
                have hft : (∀ i, i < n → tellFits sf tk tv fM (nI sx) (nI t) i) := (hbe.resolve_right (fun h9 => c3_120 h9.1)).2
                refine V.iload dX11_smallest_123 4 rfl ?_
                refine V.goto (tgt := 129) dX11_smallest_125 (by decide) ?_
                refine V.istore_n (lv2 := [(3, .int (nI t)), (0, .ref o), (1, .int (nI sx)), (2, .int (Ti sx)), (4, .int (nI t)), (5, .int b), (6, .int (nI i))]) dX11_smallest_129 rfl (by decide) rfl ?_
                refine V.iinc (v := (pI t)) (lv2 := [(4, .int (pI t)), (3, .int (nI t)), (0, .ref o), (1, .int (nI sx)), (2, .int (Ti sx)), (5, .int b), (6, .int (nI i))]) dX11_smallest_130 4 rfl (inc_m1 _) (by decide) rfl ?_
                refine V.goto (tgt := 28) dX11_smallest_133 (by decide) ?_
                refine V.locals [2, 3, 4, 1, 0] (by rfl) ?_
                exact ih_28 t _ _ _ (by omega) (by rw [show 10 - t = (10 - (t + 1)) + 1 by omega, small9_dn, cI_t hft]) (fun j hj => by rw [pk_un hj]; exact hTt j hj) (by omega)
            · skip
              have hxc2_53 : i < n := Nat.lt_of_not_le (fun hh => c2_53 (nI_le (a := n) hh (by omega)))
              have htki := (htk i hxc2_53).1
              have htvi := (htk i hxc2_53).2
              refine V.iload dX11_smallest_56 5 rfl ?_
              refine V.if_eq (tgt := 109) dX11_smallest_58 (by decide) (fun c4_58 => ?_) (fun c4_58 => ?_)
              · skip
                refine V.iconst (v := 0) dX11_smallest_109 (by decide) ?_
                refine V.istore (lv2 := [(5, .int 0), (0, .ref o), (1, .int (nI sx)), (2, .int (Ti sx)), (3, .int fd), (4, .int (nI t)), (6, .int (nI i))]) dX11_smallest_110 (by decide) rfl ?_
                refine V.iinc (v := (nI (i + 1))) (lv2 := [(6, .int (nI (i + 1))), (5, .int 0), (0, .ref o), (1, .int (nI sx)), (2, .int (Ti sx)), (3, .int fd), (4, .int (nI t))]) dX11_smallest_112 6 rfl (nI_1 _) (by decide) rfl ?_
                refine V.goto (tgt := 47) dX11_smallest_115 (by decide) ?_
                refine V.locals [2, 3, 4, 5, 6, 1, 0] (by rfl) ?_
                exact ih_47 (i + 1) _ 0 (by omega) (Or.inr ⟨rfl, (hb.resolve_left (fun h9 => absurd (h9.1.symm.trans c4_58) (by decide))).2⟩) (by omega)
              · skip
                have hall := (hb.resolve_right (fun h9 => c4_58 h9.1)).2
                refine V.aload_n dX11_smallest_61 0 rfl ?_
                refine V.getf 0 5 rfl fa_X11_26_10 rfl dX11_smallest_62 ?_
                refine V.aload_n dX11_smallest_65 0 rfl ?_
                refine V.getf 0 21 rfl fa_X11_53_10 rfl dX11_smallest_66 ?_
                refine V.iload dX11_smallest_69 6 rfl ?_
                refine V.iald 7 rfl (vinI (by omega)) dX11_smallest_71 ?_
                refine V.topc (v := (nI (tk i))) (by rw [nI_clamp (by omega)]) ?_
                refine V.iald 4 rfl (vinI (by omega)) dX11_smallest_72 ?_
                refine V.topc (v := (So ((tk i)))) (by rw [nI_clamp (by omega)] <;> rfl) ?_
                refine V.topc (v := (nI (sf (tk i)).2.1)) ((hTab (tk i) htki).2.1) ?_
                refine V.iload_n dX11_smallest_73 1 rfl ?_
                refine V.icmp_ne (tgt := 105) dX11_smallest_74 (by decide) (fun c5_74 => ?_) (fun c5_74 => ?_)
                · skip
                  refine V.iconst (v := 1) dX11_smallest_105 (by decide) ?_
                  refine V.goto (tgt := 110) dX11_smallest_106 (by decide) ?_
                  refine V.istore (lv2 := [(5, .int 1), (0, .ref o), (1, .int (nI sx)), (2, .int (Ti sx)), (3, .int fd), (4, .int (nI t)), (6, .int (nI i))]) dX11_smallest_110 (by decide) rfl ?_
                  refine V.iinc (v := (nI (i + 1))) (lv2 := [(6, .int (nI (i + 1))), (5, .int 1), (0, .ref o), (1, .int (nI sx)), (2, .int (Ti sx)), (3, .int fd), (4, .int (nI t))]) dX11_smallest_112 6 rfl (nI_1 _) (by decide) rfl ?_
                  refine V.goto (tgt := 47) dX11_smallest_115 (by decide) ?_
                  refine V.locals [2, 3, 4, 5, 6, 1, 0] (by rfl) ?_
                  exact ih_47 (i + 1) _ 1 (by omega) (Or.inl ⟨rfl, fun q hq => (Nat.lt_succ_iff_lt_or_eq.mp hq).elim (hall q) (fun h9 => by rw [h9]; exact fun hh => absurd hh c5_74)⟩) (by omega)
                · skip
                  have hss : (sf (tk i)).2.1 = sx := (nI_eq (by have := (hTab (tk i) htki).2.2.2.2.2; omega) (by omega)).mp c5_74
                  refine V.aload_n dX11_smallest_77 0 rfl ?_
                  refine V.aload_n dX11_smallest_78 0 rfl ?_
                  refine V.getf 0 21 rfl fa_X11_53_10 rfl dX11_smallest_79 ?_
                  refine V.iload dX11_smallest_82 6 rfl ?_
                  refine V.iald 7 rfl (vinI (by omega)) dX11_smallest_84 ?_
                  refine V.topc (v := (nI (tk i))) (by rw [nI_clamp (by omega)]) ?_
                  refine V.aload_n dX11_smallest_85 0 rfl ?_
                  refine V.getf 0 22 rfl fa_X11_56_10 rfl dX11_smallest_86 ?_
                  refine V.iload dX11_smallest_89 6 rfl ?_
                  refine V.iald 8 rfl (vinI (by omega)) dX11_smallest_91 ?_
                  refine V.topc (v := (nI (tv i))) (by rw [nI_clamp (by omega)]) ?_
                  refine V.callVp (As := [.int (nI (tk i)), .int (nI (tv i))]) (rest := []) [0, 1, 2, 3, 4, 5, 6] (c_M_smeltBehind E l L _ o mw mk mt mr mki mso mst mpr msh mwa mpu mtx mor mbo tO tVi tSm ts ma bg wr cl um mn ((nI n)) ((va_up ρ 1 X2)) X2.1 X2.2 ((upd Tt sx (nI t))) ((upd ti sx (nI t))) Ki So St Pr Pu lp m sf ((tk i)) ((tv i)) (va_up_self _ _ _) (hTab) (hm) (ePu) (gI_upd hgI (show t ≤ 9 by omega)) (fun j hj => by
                          by_cases h9 : j = sx
                          · rw [h9, pk_us, pk_us]
                          · rw [pk_un h9, pk_un h9, hTt j h9]; exact eI j hj) (htki) (htvi)) rfl (by decide) mi_X11_smeltBehind 0 rfl rfl w_1014 w_1016 wp_34 rfl rfl (Nat.le_of_ble_eq_true rfl) ⟨by decide, by decide⟩ ⟨by decide, by decide⟩ dX11_smallest_92 (vw2 := fun u92 => [(o, ob 10 [.ref mw, .ref mk, .ref mt, .ref mr, .ref mki, .ref mso, .ref mst, .ref mpr, .ref msh, .ref mwa, .ref mpu, .ref mtx, .int ts, .int ma, .int bg, .int wr, .int cl, .int um, .ref mor, .ref mbo, .int mn, .ref tO, .ref tVi, .ref tSm, .int (nI n)]), (mw, aI E 192 (mW (va_up (va_up ρ 1 X2) 1 (X2.1, u92)))), (mt, aI E 8 (upd Tt sx (nI t))), (mki, aI E 12 Ki), (mso, aI E 12 So), (mst, aI E 12 St), (mpu, aI E 2 Pu), (tO, aI E 6 (fun j => nI (tk j))), (tVi, aI E 6 (fun j => nI (tv j))), (tSm, aI E 6 fM)]) (st2 := fun u92 => [.int (behindI (sf (tk i)) ((upd ti sx (nI t)) (sf (tk i)).2.1) (tv i))]) (fun _ => rfl) (fun _ => rfl) (fun _ => rfl) (fun u92 hq_92 => ?_)
                  refine V.topc (v := (behindI (sf (tk i)) (nI t) (tv i))) (by rw [hss, pk_us]) ?_
                  refine V.arrEq (vw2 := [(o, ob 10 [.ref mw, .ref mk, .ref mt, .ref mr, .ref mki, .ref mso, .ref mst, .ref mpr, .ref msh, .ref mwa, .ref mpu, .ref mtx, .int ts, .int ma, .int bg, .int wr, .int cl, .int um, .ref mor, .ref mbo, .int mn, .ref tO, .ref tVi, .ref tSm, .int (nI n)]), (mw, aI E 192 (mW (va_up ρ 1 (X2.1, u92)))), (mt, aI E 8 (upd Tt sx (nI t))), (mki, aI E 12 Ki), (mso, aI E 12 So), (mst, aI E 12 St), (mpu, aI E 2 Pu), (tO, aI E 6 (fun j => nI (tk j))), (tVi, aI E 6 (fun j => nI (tv j))), (tSm, aI E 6 fM)]) 1 0 rfl (fun j _ => mW_ups j) rfl ?_
                  refine V.aload_n dX11_smallest_95 0 rfl ?_
                  refine V.getf 0 23 rfl fa_X11_59_10 rfl dX11_smallest_96 ?_
                  refine V.iload dX11_smallest_99 6 rfl ?_
                  refine V.iald 9 rfl (vinI (by omega)) dX11_smallest_101 ?_
                  refine V.topc (v := (fM i)) (by rw [nI_clamp (by omega)]) ?_
                  refine V.icmp_ne (tgt := 109) dX11_smallest_102 (by decide) (fun c6_102 => ?_) (fun c6_102 => ?_)
                  · skip
                    refine V.iconst (v := 0) dX11_smallest_109 (by decide) ?_
                    refine V.istore (lv2 := [(5, .int 0), (0, .ref o), (1, .int (nI sx)), (2, .int (Ti sx)), (3, .int fd), (4, .int (nI t)), (6, .int (nI i))]) dX11_smallest_110 (by decide) rfl ?_
                    refine V.iinc (v := (nI (i + 1))) (lv2 := [(6, .int (nI (i + 1))), (5, .int 0), (0, .ref o), (1, .int (nI sx)), (2, .int (Ti sx)), (3, .int fd), (4, .int (nI t))]) dX11_smallest_112 6 rfl (nI_1 _) (by decide) rfl ?_
                    refine V.goto (tgt := 47) dX11_smallest_115 (by decide) ?_
                    refine V.locals [2, 3, 4, 5, 6, 1, 0] (by rfl) ?_
                    exact ih_47 (i + 1) _ 0 (by omega) (Or.inr ⟨rfl, fun h9 => c6_102 (h9 i hxc2_53 (congrArg nI hss))⟩) (by omega)
                  · skip
                    refine V.iconst (v := 1) dX11_smallest_105 (by decide) ?_
                    refine V.goto (tgt := 110) dX11_smallest_106 (by decide) ?_
                    refine V.istore (lv2 := [(5, .int 1), (0, .ref o), (1, .int (nI sx)), (2, .int (Ti sx)), (3, .int fd), (4, .int (nI t)), (6, .int (nI i))]) dX11_smallest_110 (by decide) rfl ?_
                    refine V.iinc (v := (nI (i + 1))) (lv2 := [(6, .int (nI (i + 1))), (5, .int 1), (0, .ref o), (1, .int (nI sx)), (2, .int (Ti sx)), (3, .int fd), (4, .int (nI t))]) dX11_smallest_112 6 rfl (nI_1 _) (by decide) rfl ?_
                    refine V.goto (tgt := 47) dX11_smallest_115 (by decide) ?_
                    refine V.locals [2, 3, 4, 5, 6, 1, 0] (by rfl) ?_
                    exact ih_47 (i + 1) _ 1 (by omega) (Or.inl ⟨rfl, fun q hq => (Nat.lt_succ_iff_lt_or_eq.mp hq).elim (hall q) (fun h9 => by rw [h9]; exact fun _ => c6_102)⟩) (by omega)
        exact lp_47 (n + 1) 0 X 1 (Nat.zero_le _) (Or.inl ⟨rfl, fun q hq => absurd hq (Nat.not_lt_zero _)⟩) (by omega)
  exact lp_28 (11) 10 (-1) (ρ 1) Ti (Nat.le_refl _) rfl (fun _ _ => rfl) (by omega)
