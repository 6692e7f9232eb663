set_option maxHeartbeats 4000000 in
set_option maxRecDepth 100000 in
theorem c_M_walks (E : vEnv) (l : Launch) (L : List Nat) (h : Nat → va_E) (o : Nat) (mw : Nat) (mk : Nat) (mt : Nat) (mr : Nat) (mki : Nat) (mso : Nat) (mst : Nat) (mpr : Nat) (msh : Nat) (mwa : Nat) (mpu : Nat) (mtx : Nat) (mor : Nat) (mbo : Nat) (tO : Nat) (tVi : Nat) (tSm : Nat) (ts : Int32) (ma : Int32) (bg : Int32) (wr : Int32) (cl : Int32) (um : Int32) (tm : Int32) (ρ : Nat → MR) (pw : Nat → Int32) (s : NS) (Re : Nat → Int32) (r : Nat → Int32) (Ti : Nat → Int32) (ti : Nat → Int32) (Ki : Nat → Int32) (So : Nat → Int32) (St : Nat → Int32) (Pr : Nat → Int32) (Wa : Nat → Int32) (m : Nat) (sf : Nat → SHP) (wa : Int32) (ω : Nat → Nat) (N : Nat) (mm : Int32) (hR : ρ 0 = (pw, s)) (hTab : TabS m sf Ki So St Pr) (hm : m ≤ 6) (eW : Wa 0 = wa) (hgR : gR r) (eR : ∀ j, j < 4 → Re j = r j) (hgI : gI ti) (eI : ∀ j, j < 4 → Ti j = ti j) (hN : N ≤ 6) (hωm : ∀ j, j < N → ω j < m) (ePl : ∀ k_, k_ < m → pw k_ = placeI m k_ s.2.2.2.2.2.2.2) (hgS : gS s) : CT E l yX11_walks cX11_walks 4 (some (.boolean)) 3 0 0 L h [(o, ob 10 [.ref mw, .ref mk, .ref mt, .ref mr, .ref mki, .ref mso, .ref mst, .ref mpr, .ref msh, .ref mwa, .ref mpu, .ref mtx, .int ts, .int ma, .int bg, .int wr, .int cl, .int um, .ref mor, .ref mbo, .int (nI N), .ref tO, .ref tVi, .ref tSm, .int tm]), (mw, aI E 192 (mW ρ)), (mr, aI E 8 Re), (mt, aI E 8 Ti), (mki, aI E 12 Ki), (mso, aI E 12 So), (mst, aI E 12 St), (mpr, aI E 12 Pr), (mwa, aI E 2 Wa), (mor, aI E 6 (fun j => nI (ω j)))] [.ref o, .int mm] (qP L h (fun (u : NS) => [(o, ob 10 [.ref mw, .ref mk, .ref mt, .ref mr, .ref mki, .ref mso, .ref mst, .ref mpr, .ref msh, .ref mwa, .ref mpu, .ref mtx, .int ts, .int ma, .int bg, .int wr, .int cl, .int um, .ref mor, .ref mbo, .int (nI N), .ref tO, .ref tVi, .ref tSm, .int tm]), (mw, aI E 192 (mW (va_up ρ 1 (pw, u)))), (mr, aI E 8 Re), (mt, aI E 8 Ti), (mki, aI E 12 Ki), (mso, aI E 12 So), (mst, aI E 12 St), (mpr, aI E 12 Pr), (mwa, aI E 2 Wa), (mor, aI E 6 (fun j => nI (ω j)))]) (fun u => some (.int (boolI (∀ i_, i_ < N → mm ≤ visitS (m, sf, wa, ti, r) (ω i_) (walkN (m, sf, wa, ti, r) ω (zSS s) i_))))) (fun u => (boolI (∀ i_, i_ < N → mm ≤ visitS (m, sf, wa, ti, r) (ω i_) (walkN (m, sf, wa, ti, r) ω (zSS s) i_)) = 1 → u = (walkN (m, sf, wa, ti, r) ω (zSS s) N)))) := by
  refine CT.ofV (by decide +kernel) (Nat.le_of_ble_eq_true rfl) ?_
  obtain ⟨Z, hZ⟩ : ∃ Z, Z = mZ E (qP L h (fun (u : NS) => [(o, ob 10 [.ref mw, .ref mk, .ref mt, .ref mr, .ref mki, .ref mso, .ref mst, .ref mpr, .ref msh, .ref mwa, .ref mpu, .ref mtx, .int ts, .int ma, .int bg, .int wr, .int cl, .int um, .ref mor, .ref mbo, .int (nI N), .ref tO, .ref tVi, .ref tSm, .int tm]), (mw, aI E 192 (mW (va_up ρ 1 (pw, u)))), (mr, aI E 8 Re), (mt, aI E 8 Ti), (mki, aI E 12 Ki), (mso, aI E 12 So), (mst, aI E 12 St), (mpr, aI E 12 Pr), (mwa, aI E 2 Wa), (mor, aI E 6 (fun j => nI (ω j)))]) (fun u => some (.int (boolI (∀ i_, i_ < N → mm ≤ visitS (m, sf, wa, ti, r) (ω i_) (walkN (m, sf, wa, ti, r) ω (zSS s) i_))))) (fun u => (boolI (∀ i_, i_ < N → mm ≤ visitS (m, sf, wa, ti, r) (ω i_) (walkN (m, sf, wa, ti, r) ω (zSS s) i_)) = 1 → u = (walkN (m, sf, wa, ti, r) ω (zSS s) N)))) 0 0 := ⟨_, rfl⟩
  rw [← hZ]
  refine V.locals2 (lv2 := [(0, .ref o), (1, .int mm)]) rfl ?_
  refine V.aload_n dX11_walks_0 0 rfl ?_
  refine V.iconst (v := 0) dX11_walks_1 (by decide) ?_
  refine V.bipush (v := 16) dX11_walks_2 (by decide) ?_
  refine V.callVp (As := [.int 0, .int 16]) (rest := []) [0, 1] (c_M_copy E l L _ o mw mk mt mr mki mso mst mpr msh mwa mpu mtx mor mbo tO tVi tSm ts ma bg wr cl um ((nI N)) tm ρ 0 1 (by decide) (by decide) (by decide)) rfl (by decide) mi_X11_copy 0 rfl rfl w_879 w_881 wp_19 rfl rfl (Nat.le_of_ble_eq_true rfl) ⟨by decide, by decide⟩ ⟨by decide, by decide⟩ dX11_walks_4 (vw2 := fun _ => [(o, ob 10 [.ref mw, .ref mk, .ref mt, .ref mr, .ref mki, .ref mso, .ref mst, .ref mpr, .ref msh, .ref mwa, .ref mpu, .ref mtx, .int ts, .int ma, .int bg, .int wr, .int cl, .int um, .ref mor, .ref mbo, .int (nI N), .ref tO, .ref tVi, .ref tSm, .int tm]), (mw, aI E 192 (mW (va_up ρ 1 (ρ 0)))), (mr, aI E 8 Re), (mt, aI E 8 Ti), (mki, aI E 12 Ki), (mso, aI E 12 So), (mst, aI E 12 St), (mpr, aI E 12 Pr), (mwa, aI E 2 Wa), (mor, aI E 6 (fun j => nI (ω j)))]) (st2 := fun _ => []) (fun _ => rfl) (fun _ => rfl) (fun _ => rfl) (fun _ _ => ?_)
  refine V.arrEq (vw2 := [(o, ob 10 [.ref mw, .ref mk, .ref mt, .ref mr, .ref mki, .ref mso, .ref mst, .ref mpr, .ref msh, .ref mwa, .ref mpu, .ref mtx, .int ts, .int ma, .int bg, .int wr, .int cl, .int um, .ref mor, .ref mbo, .int (nI N), .ref tO, .ref tVi, .ref tSm, .int tm]), (mw, aI E 192 (mW (va_up ρ 1 (pw, s)))), (mr, aI E 8 Re), (mt, aI E 8 Ti), (mki, aI E 12 Ki), (mso, aI E 12 So), (mst, aI E 12 St), (mpr, aI E 12 Pr), (mwa, aI E 2 Wa), (mor, aI E 6 (fun j => nI (ω j)))]) 1 0 rfl (fun j _ => by rw [hR]) rfl ?_
  refine V.aload_n dX11_walks_7 0 rfl ?_
  refine V.getf 0 0 rfl fa_X11_7_10 rfl dX11_walks_8 ?_
  refine V.bipush (v := 27) dX11_walks_11 (by decide) ?_
  refine V.iconst (v := 0) dX11_walks_13 (by decide) ?_
  refine V.iast (vw2 := [(o, ob 10 [.ref mw, .ref mk, .ref mt, .ref mr, .ref mki, .ref mso, .ref mst, .ref mpr, .ref msh, .ref mwa, .ref mpu, .ref mtx, .int ts, .int ma, .int bg, .int wr, .int cl, .int um, .ref mor, .ref mbo, .int (nI N), .ref tO, .ref tVi, .ref tSm, .int tm]), (mw, aI E 192 (upd (mW (va_up ρ 1 (pw, s))) 27 0)), (mr, aI E 8 Re), (mt, aI E 8 Ti), (mki, aI E 12 Ki), (mso, aI E 12 So), (mst, aI E 12 St), (mpr, aI E 12 Pr), (mwa, aI E 2 Wa), (mor, aI E 6 (fun j => nI (ω j)))]) 1 rfl (vin rfl) (rfl) dX11_walks_14 ?_
  refine V.arrEq (vw2 := [(o, ob 10 [.ref mw, .ref mk, .ref mt, .ref mr, .ref mki, .ref mso, .ref mst, .ref mpr, .ref msh, .ref mwa, .ref mpu, .ref mtx, .int ts, .int ma, .int bg, .int wr, .int cl, .int um, .ref mor, .ref mbo, .int (nI N), .ref tO, .ref tVi, .ref tSm, .int tm]), (mw, aI E 192 (mW (va_up ρ 1 (pw, (s.1, s.2.1, 0, s.2.2.2.1, s.2.2.2.2.1, s.2.2.2.2.2.1, s.2.2.2.2.2.2.1, s.2.2.2.2.2.2.2))))), (mr, aI E 8 Re), (mt, aI E 8 Ti), (mki, aI E 12 Ki), (mso, aI E 12 So), (mst, aI E 12 St), (mpr, aI E 12 Pr), (mwa, aI E 2 Wa), (mor, aI E 6 (fun j => nI (ω j)))]) 1 0 rfl (fun j _ => mW_upr (i := 1) (k := 11) (by decide) (by rfl) (row_but (by rfl) (by rfl) (by first | exact Or.inl rfl | exact Or.inr rfl) (by first | exact Or.inl rfl | exact Or.inr rfl) (by first | exact Or.inl rfl | exact Or.inr rfl) (by first | exact Or.inl rfl | exact Or.inr rfl) (by first | exact Or.inl rfl | exact Or.inr rfl) (by first | exact Or.inl rfl | exact Or.inr rfl)) j) rfl ?_
  refine V.aload_n dX11_walks_15 0 rfl ?_
  refine V.getf 0 0 rfl fa_X11_7_10 rfl dX11_walks_16 ?_
  refine V.bipush (v := 31) dX11_walks_19 (by decide) ?_
  refine V.iconst (v := 0) dX11_walks_21 (by decide) ?_
  refine V.iast (vw2 := [(o, ob 10 [.ref mw, .ref mk, .ref mt, .ref mr, .ref mki, .ref mso, .ref mst, .ref mpr, .ref msh, .ref mwa, .ref mpu, .ref mtx, .int ts, .int ma, .int bg, .int wr, .int cl, .int um, .ref mor, .ref mbo, .int (nI N), .ref tO, .ref tVi, .ref tSm, .int tm]), (mw, aI E 192 (upd (mW (va_up ρ 1 (pw, (s.1, s.2.1, 0, s.2.2.2.1, s.2.2.2.2.1, s.2.2.2.2.2.1, s.2.2.2.2.2.2.1, s.2.2.2.2.2.2.2)))) 31 0)), (mr, aI E 8 Re), (mt, aI E 8 Ti), (mki, aI E 12 Ki), (mso, aI E 12 So), (mst, aI E 12 St), (mpr, aI E 12 Pr), (mwa, aI E 2 Wa), (mor, aI E 6 (fun j => nI (ω j)))]) 1 rfl (vin rfl) (rfl) dX11_walks_22 ?_
  refine V.arrEq (vw2 := [(o, ob 10 [.ref mw, .ref mk, .ref mt, .ref mr, .ref mki, .ref mso, .ref mst, .ref mpr, .ref msh, .ref mwa, .ref mpu, .ref mtx, .int ts, .int ma, .int bg, .int wr, .int cl, .int um, .ref mor, .ref mbo, .int (nI N), .ref tO, .ref tVi, .ref tSm, .int tm]), (mw, aI E 192 (mW (va_up ρ 1 (pw, zSS s)))), (mr, aI E 8 Re), (mt, aI E 8 Ti), (mki, aI E 12 Ki), (mso, aI E 12 So), (mst, aI E 12 St), (mpr, aI E 12 Pr), (mwa, aI E 2 Wa), (mor, aI E 6 (fun j => nI (ω j)))]) 1 0 rfl (fun j _ => mW_upr (i := 1) (k := 15) (by decide) (by rfl) (row_but (by rfl) (by rfl) (by first | exact Or.inl rfl | exact Or.inr rfl) (by first | exact Or.inl rfl | exact Or.inr rfl) (by first | exact Or.inl rfl | exact Or.inr rfl) (by first | exact Or.inl rfl | exact Or.inr rfl) (by first | exact Or.inl rfl | exact Or.inr rfl) (by first | exact Or.inl rfl | exact Or.inr rfl)) j) rfl ?_
  refine V.iconst (v := 1) dX11_walks_23 (by decide) ?_
  refine V.istore_n (lv2 := [(2, .int 1), (0, .ref o), (1, .int mm)]) dX11_walks_24 rfl (by decide) rfl ?_
  refine V.iconst (v := 0) dX11_walks_25 (by decide) ?_
  refine V.istore_n (lv2 := [(3, .int 0), (2, .int 1), (0, .ref o), (1, .int mm)]) dX11_walks_26 rfl (by decide) rfl ?_
  refine V.locals [2, 3, 1, 0] (by rfl) ?_
  have lp_27 : ∀ (fuel : Nat) (i : Nat) (T : NS) (b : Int32) (hi : i ≤ N) (hT : T = (walkN (m, sf, wa, ti, r) ω (zSS s) i)) (hb : (b = 1 ∧ ∀ q, q < i → mm ≤ visitS (m, sf, wa, ti, r) (ω q) (walkN (m, sf, wa, ti, r) ω (zSS s) q)) ∨ (b = 0 ∧ ¬ (∀ i_, i_ < N → mm ≤ visitS (m, sf, wa, ti, r) (ω i_) (walkN (m, sf, wa, ti, r) ω (zSS s) i_)))) (hf : N < i + fuel), V E l yX11_walks cX11_walks 4 (some (.boolean)) (rmk 3 0 0) Z L h 0 0 [(o, ob 10 [.ref mw, .ref mk, .ref mt, .ref mr, .ref mki, .ref mso, .ref mst, .ref mpr, .ref msh, .ref mwa, .ref mpu, .ref mtx, .int ts, .int ma, .int bg, .int wr, .int cl, .int um, .ref mor, .ref mbo, .int (nI N), .ref tO, .ref tVi, .ref tSm, .int tm]), (mw, aI E 192 (mW (va_up ρ 1 (pw, T)))), (mr, aI E 8 Re), (mt, aI E 8 Ti), (mki, aI E 12 Ki), (mso, aI E 12 So), (mst, aI E 12 St), (mpr, aI E 12 Pr), (mwa, aI E 2 Wa), (mor, aI E 6 (fun j => nI (ω j)))] 27 [(0, .ref o), (1, .int mm), (2, .int b), (3, .int (nI i))] [] := by
    intro fuel
    induction fuel with
    | zero =>
      intro i T b hi hT hb hf
      exfalso; omega
    | succ fuel ih_27 =>
      intro i T b hi hT hb hf
      refine V.iload_n dX11_walks_27 3 rfl ?_
      refine V.aload_n dX11_walks_28 0 rfl ?_
      refine V.getf 0 20 rfl fa_X11_188_10 rfl dX11_walks_29 ?_
      refine V.icmp_ge (tgt := 78) dX11_walks_32 (by decide) (fun c1_32 => ?_) (fun c1_32 => ?_)
      · skip
        have hxc1_32 : N ≤ i := (nI_leI (a := N) (by omega) (by omega)).mp c1_32
        have hqc1_32 : i = N := by omega
        have hbe : b = boolI (∀ i_, i_ < N → mm ≤ visitS (m, sf, wa, ti, r) (ω i_) (walkN (m, sf, wa, ti, r) ω (zSS s) i_)) := hb.elim (fun h9 => h9.1.trans (boolI_t (fun q hq => h9.2 q (by omega))).symm) (fun h9 => h9.1.trans (boolI_f h9.2).symm)
        have hbp : boolI (∀ i_, i_ < N → mm ≤ visitS (m, sf, wa, ti, r) (ω i_) (walkN (m, sf, wa, ti, r) ω (zSS s) i_)) = 1 → T = (walkN (m, sf, wa, ti, r) ω (zSS s) N) := fun _ => by rw [hT, hqc1_32]
        refine V.iload_n dX11_walks_78 2 rfl ?_
        subst hZ
        exact V.zret rfl (by rcases hb with ⟨e9, -⟩ | ⟨e9, -⟩ <;> rw [e9] <;> rfl) dX11_walks_79 (⟨T, by rw [← hbe], rfl, rfl, hbp⟩)
      · skip
        have hxc1_32 : i < N := Nat.lt_of_not_le (fun hh => c1_32 (nI_le (a := N) hh (by omega)))
        refine V.iload_n dX11_walks_35 2 rfl ?_
        refine V.if_eq (tgt := 78) dX11_walks_36 (by decide) (fun c2_36 => ?_) (fun c2_36 => ?_)
        · skip
          have hbe : b = boolI (∀ i_, i_ < N → mm ≤ visitS (m, sf, wa, ti, r) (ω i_) (walkN (m, sf, wa, ti, r) ω (zSS s) i_)) := hb.elim (fun h9 => absurd (h9.1.symm.trans c2_36) (by decide)) (fun h9 => h9.1.trans (boolI_f h9.2).symm)
          have hbp : boolI (∀ i_, i_ < N → mm ≤ visitS (m, sf, wa, ti, r) (ω i_) (walkN (m, sf, wa, ti, r) ω (zSS s) i_)) = 1 → T = (walkN (m, sf, wa, ti, r) ω (zSS s) N) := fun h8 => absurd (hbe.trans h8) (by rw [c2_36]; decide)
          refine V.iload_n dX11_walks_78 2 rfl ?_
          subst hZ
          exact V.zret rfl (by rcases hb with ⟨e9, -⟩ | ⟨e9, -⟩ <;> rw [e9] <;> rfl) dX11_walks_79 (⟨T, by rw [← hbe], rfl, rfl, hbp⟩)
        · skip
          have hall := (hb.resolve_right (fun h9 => c2_36 h9.1)).2
          have hωi := hωm i hxc1_32
          refine V.aload_n dX11_walks_39 0 rfl ?_
          refine V.bipush (v := 16) dX11_walks_40 (by decide) ?_
          refine V.aload_n dX11_walks_42 0 rfl ?_
          refine V.getf 0 18 rfl fa_X11_47_10 rfl dX11_walks_43 ?_
          refine V.iload_n dX11_walks_46 3 rfl ?_
          refine V.iald 9 rfl (vinI (by omega)) dX11_walks_47 ?_
          refine V.topc (v := (nI (ω i))) (by rw [nI_clamp (by omega)]) ?_
          refine V.aload_n dX11_walks_48 0 rfl ?_
          refine V.getf 0 4 rfl fa_X11_23_10 rfl dX11_walks_49 ?_
          refine V.aload_n dX11_walks_52 0 rfl ?_
          refine V.getf 0 18 rfl fa_X11_47_10 rfl dX11_walks_53 ?_
          refine V.iload_n dX11_walks_56 3 rfl ?_
          refine V.iald 9 rfl (vinI (by omega)) dX11_walks_57 ?_
          refine V.topc (v := (nI (ω i))) (by rw [nI_clamp (by omega)]) ?_
          refine V.iald 4 rfl (vinI (by omega)) dX11_walks_58 ?_
          refine V.topc (v := (Ki ((ω i)))) (by rw [nI_clamp (by omega)] <;> rfl) ?_
          refine V.topc (v := (kindI (sf (ω i)).1)) ((hTab (ω i) hωi).1) ?_
          refine V.callVp (As := [.int 16, .int (nI (ω i)), .int (kindI (sf (ω i)).1)]) (rest := []) [0, 1, 2, 3, 4, 5, 6, 7, 8] (c_M_visitW E l L _ o mw mk mt mr mki mso mst mpr msh mwa mpu mtx mor mbo tO tVi tSm ts ma bg wr cl um ((nI N)) tm ((va_up ρ 1 (pw, T))) 1 pw T Re r Ti ti Ki So St Pr Wa m sf wa ((ω i)) (by omega) (va_up_self _ _ _) (hTab) (hm) (eW) (hgR) (eR) (hgI) (eI) (hωi) ((ePl _ hωi).trans (by rw [(show T.2.2.2.2.2.2.2 = s.2.2.2.2.2.2.2 by rw [hT]; exact walkN_tu _ _ _ _)])) (by rw [hT]; exact gS_walk (gS_z hgS) hm i (fun j hj => hωm j (by omega)))) rfl (by decide) mi_X11_visitAs 0 rfl rfl w_899 w_901 wp_23 rfl rfl (Nat.le_of_ble_eq_true rfl) ⟨by decide, by decide⟩ ⟨by decide, by decide⟩ dX11_walks_59 (vw2 := fun _ => [(o, ob 10 [.ref mw, .ref mk, .ref mt, .ref mr, .ref mki, .ref mso, .ref mst, .ref mpr, .ref msh, .ref mwa, .ref mpu, .ref mtx, .int ts, .int ma, .int bg, .int wr, .int cl, .int um, .ref mor, .ref mbo, .int (nI N), .ref tO, .ref tVi, .ref tSm, .int tm]), (mw, aI E 192 (mW (va_up (va_up ρ 1 (pw, T)) 1 (pw, (visitN (m, sf, wa, ti, r) (ω i) T))))), (mr, aI E 8 Re), (mt, aI E 8 Ti), (mki, aI E 12 Ki), (mso, aI E 12 So), (mst, aI E 12 St), (mpr, aI E 12 Pr), (mwa, aI E 2 Wa), (mor, aI E 6 (fun j => nI (ω j)))]) (st2 := fun _ => [.int (visitS (m, sf, wa, ti, r) (ω i) T)]) (fun _ => rfl) (fun _ => rfl) (fun _ => rfl) (fun _ _ => ?_)
          refine V.arrEq (vw2 := [(o, ob 10 [.ref mw, .ref mk, .ref mt, .ref mr, .ref mki, .ref mso, .ref mst, .ref mpr, .ref msh, .ref mwa, .ref mpu, .ref mtx, .int ts, .int ma, .int bg, .int wr, .int cl, .int um, .ref mor, .ref mbo, .int (nI N), .ref tO, .ref tVi, .ref tSm, .int tm]), (mw, aI E 192 (mW (va_up ρ 1 (pw, visitN (m, sf, wa, ti, r) (ω i) T)))), (mr, aI E 8 Re), (mt, aI E 8 Ti), (mki, aI E 12 Ki), (mso, aI E 12 So), (mst, aI E 12 St), (mpr, aI E 12 Pr), (mwa, aI E 2 Wa), (mor, aI E 6 (fun j => nI (ω j)))]) 1 0 rfl (fun j _ => mW_ups j) rfl ?_
          refine V.iload_n dX11_walks_62 1 rfl ?_
          refine V.icmp_lt (tgt := 70) dX11_walks_63 (by decide) (fun c3_63 => ?_) (fun c3_63 => ?_)
          · skip
            refine V.iconst (v := 0) dX11_walks_70 (by decide) ?_
            refine V.istore_n (lv2 := [(2, .int 0), (0, .ref o), (1, .int mm), (3, .int (nI i))]) dX11_walks_71 rfl (by decide) rfl ?_
            refine V.iinc (v := (nI (i + 1))) (lv2 := [(3, .int (nI (i + 1))), (2, .int 0), (0, .ref o), (1, .int mm)]) dX11_walks_72 3 rfl (nI_1 _) (by decide) rfl ?_
            refine V.goto (tgt := 27) dX11_walks_75 (by decide) ?_
            refine V.locals [2, 3, 1, 0] (by rfl) ?_
            exact ih_27 (i + 1) (visitN (m, sf, wa, ti, r) (ω i) T) 0 (by omega) (by rw [hT]; rfl) (Or.inr ⟨rfl, fun h9 => absurd (h9 i hxc1_32) (Int32.not_le.mpr (by rw [← hT]; exact c3_63))⟩) (by omega)
          · skip
            refine V.iconst (v := 1) dX11_walks_66 (by decide) ?_
            refine V.goto (tgt := 71) dX11_walks_67 (by decide) ?_
            refine V.istore_n (lv2 := [(2, .int 1), (0, .ref o), (1, .int mm), (3, .int (nI i))]) dX11_walks_71 rfl (by decide) rfl ?_
            refine V.iinc (v := (nI (i + 1))) (lv2 := [(3, .int (nI (i + 1))), (2, .int 1), (0, .ref o), (1, .int mm)]) dX11_walks_72 3 rfl (nI_1 _) (by decide) rfl ?_
            refine V.goto (tgt := 27) dX11_walks_75 (by decide) ?_
            refine V.locals [2, 3, 1, 0] (by rfl) ?_
            exact ih_27 (i + 1) (visitN (m, sf, wa, ti, r) (ω i) T) 1 (by omega) (by rw [hT]; rfl) (Or.inl ⟨rfl, fun q hq => (Nat.lt_succ_iff_lt_or_eq.mp hq).elim (hall q) (fun h9 => by rw [h9, ← hT]; exact Int32.not_lt.mp c3_63)⟩) (by omega)
  exact lp_27 (N + 1) 0 (zSS s) 1 (Nat.zero_le _) rfl (Or.inl ⟨rfl, fun q hq => absurd hq (Nat.not_lt_zero _)⟩) (by omega)

set_option maxHeartbeats 4000000 in
set_option maxRecDepth 100000 in
theorem c_M_bestU (E : vEnv) (l : Launch) (L : List Nat) (h : Nat → va_E) (o : Nat) (mw : Nat) (mk : Nat) (mt : Nat) (mr : Nat) (mki : Nat) (mso : Nat) (mst : Nat) (mpr : Nat) (msh : Nat) (mwa : Nat) (mpu : Nat) (mtx : Nat) (mor : Nat) (mbo : Nat) (tO : Nat) (tVi : Nat) (tSm : Nat) (ts : Int32) (ma : Int32) (bg : Int32) (wr : Int32) (cl : Int32) (um : Int32) (mn : Int32) (tm : Int32) (Sh : Nat → Int32) (m : Nat) (x : Int32) (y : Int32) (z : Int32) (eM : Sh 0 = nI m) (hm : m ≤ 6) (hx : withinI x 0 (nI (2 ^ m - 1)) = 0) : CT E l yX11_best cX11_best 7 (some (.int)) 2 0 0 L h [(o, ob 10 [.ref mw, .ref mk, .ref mt, .ref mr, .ref mki, .ref mso, .ref mst, .ref mpr, .ref msh, .ref mwa, .ref mpu, .ref mtx, .int ts, .int ma, .int bg, .int wr, .int cl, .int um, .ref mor, .ref mbo, .int mn, .ref tO, .ref tVi, .ref tSm, .int tm]), (msh, aI E 2 Sh)] [.ref o, .int x, .int y, .int z] (qP L h (fun (_ : Unit) => [(o, ob 10 [.ref mw, .ref mk, .ref mt, .ref mr, .ref mki, .ref mso, .ref mst, .ref mpr, .ref msh, .ref mwa, .ref mpu, .ref mtx, .int ts, .int ma, .int bg, .int wr, .int cl, .int um, .ref mor, .ref mbo, .int mn, .ref tO, .ref tVi, .ref tSm, .int tm]), (msh, aI E 2 Sh)]) (fun _ => some (.int (-2))) (fun _ => True)) := by
  refine CT.ofV (by decide +kernel) (Nat.le_of_ble_eq_true rfl) ?_
  refine V.locals2 (lv2 := [(0, .ref o), (1, .int x), (2, .int y), (3, .int z)]) rfl ?_
  refine V.aload_n dX11_best_0 0 rfl ?_
  refine V.iload_n dX11_best_1 1 rfl ?_
  refine V.callVp (As := [.int x]) (rest := []) [0, 1] (c_M_isSet E l L _ o mw mk mt mr mki mso mst mpr msh mwa mpu mtx mor mbo tO tVi tSm ts ma bg wr cl um mn tm Sh m x (eM) (hm)) rfl (by decide) mi_X11_isSet 0 rfl rfl w_941 w_943 wp_26 rfl rfl (Nat.le_of_ble_eq_true rfl) ⟨by decide, by decide⟩ ⟨by decide, by decide⟩ dX11_best_2 (vw2 := fun _ => [(o, ob 10 [.ref mw, .ref mk, .ref mt, .ref mr, .ref mki, .ref mso, .ref mst, .ref mpr, .ref msh, .ref mwa, .ref mpu, .ref mtx, .int ts, .int ma, .int bg, .int wr, .int cl, .int um, .ref mor, .ref mbo, .int mn, .ref tO, .ref tVi, .ref tSm, .int tm]), (msh, aI E 2 Sh)]) (st2 := fun _ => [.int (withinI x 0 (nI (2 ^ m - 1)))]) (fun _ => rfl) (fun _ => rfl) (fun _ => rfl) (fun _ _ => ?_)
  refine V.topc (v := 0) (hx) ?_
  refine V.if_ne (tgt := 11) dX11_best_5 (by decide) (fun hc => absurd (by decide) hc) (fun _ => ?_)
  refine V.bipush (v := (-2)) dX11_best_8 (by decide) ?_
  exact V.iret rfl dX11_best_10 (⟨(), rfl, rfl, rfl, trivial⟩)

set_option maxHeartbeats 4000000 in
set_option maxRecDepth 100000 in
theorem c_M_ordersU (E : vEnv) (l : Launch) (L : List Nat) (h : Nat → va_E) (o : Nat) (mw : Nat) (mk : Nat) (mt : Nat) (mr : Nat) (mki : Nat) (mso : Nat) (mst : Nat) (mpr : Nat) (msh : Nat) (mwa : Nat) (mpu : Nat) (mtx : Nat) (mor : Nat) (mbo : Nat) (tO : Nat) (tVi : Nat) (tSm : Nat) (ts : Int32) (ma : Int32) (bg : Int32) (wr : Int32) (cl : Int32) (um : Int32) (mn : Int32) (tm : Int32) (Sh : Nat → Int32) (m : Nat) (x : Int32) (y : Int32) (eM : Sh 0 = nI m) (hm : m ≤ 6) (hx : withinI x 0 (nI (2 ^ m - 1)) = 0) : CT E l yX11_orders cX11_orders 7 (some (.int)) 2 0 0 L h [(o, ob 10 [.ref mw, .ref mk, .ref mt, .ref mr, .ref mki, .ref mso, .ref mst, .ref mpr, .ref msh, .ref mwa, .ref mpu, .ref mtx, .int ts, .int ma, .int bg, .int wr, .int cl, .int um, .ref mor, .ref mbo, .int mn, .ref tO, .ref tVi, .ref tSm, .int tm]), (msh, aI E 2 Sh)] [.ref o, .int x, .int y] (qP L h (fun (_ : Unit) => [(o, ob 10 [.ref mw, .ref mk, .ref mt, .ref mr, .ref mki, .ref mso, .ref mst, .ref mpr, .ref msh, .ref mwa, .ref mpu, .ref mtx, .int ts, .int ma, .int bg, .int wr, .int cl, .int um, .ref mor, .ref mbo, .int mn, .ref tO, .ref tVi, .ref tSm, .int tm]), (msh, aI E 2 Sh)]) (fun _ => some (.int (-2))) (fun _ => True)) := by
  refine CT.ofV (by decide +kernel) (Nat.le_of_ble_eq_true rfl) ?_
  refine V.locals2 (lv2 := [(0, .ref o), (1, .int x), (2, .int y)]) rfl ?_
  refine V.aload_n dX11_orders_0 0 rfl ?_
  refine V.iload_n dX11_orders_1 1 rfl ?_
  refine V.callVp (As := [.int x]) (rest := []) [0, 1] (c_M_isSet E l L _ o mw mk mt mr mki mso mst mpr msh mwa mpu mtx mor mbo tO tVi tSm ts ma bg wr cl um mn tm Sh m x (eM) (hm)) rfl (by decide) mi_X11_isSet 0 rfl rfl w_941 w_943 wp_26 rfl rfl (Nat.le_of_ble_eq_true rfl) ⟨by decide, by decide⟩ ⟨by decide, by decide⟩ dX11_orders_2 (vw2 := fun _ => [(o, ob 10 [.ref mw, .ref mk, .ref mt, .ref mr, .ref mki, .ref mso, .ref mst, .ref mpr, .ref msh, .ref mwa, .ref mpu, .ref mtx, .int ts, .int ma, .int bg, .int wr, .int cl, .int um, .ref mor, .ref mbo, .int mn, .ref tO, .ref tVi, .ref tSm, .int tm]), (msh, aI E 2 Sh)]) (st2 := fun _ => [.int (withinI x 0 (nI (2 ^ m - 1)))]) (fun _ => rfl) (fun _ => rfl) (fun _ => rfl) (fun _ _ => ?_)
  refine V.topc (v := 0) (hx) ?_
  refine V.if_ne (tgt := 11) dX11_orders_5 (by decide) (fun hc => absurd (by decide) hc) (fun _ => ?_)
  refine V.bipush (v := (-2)) dX11_orders_8 (by decide) ?_
  exact V.iret rfl dX11_orders_10 (⟨(), rfl, rfl, rfl, trivial⟩)

set_option maxHeartbeats 4000000 in
set_option maxRecDepth 100000 in
theorem c_M_bestO1 (E : vEnv) (l : Launch) (L : List Nat) (h : Nat → va_E) (o : Nat) (mw : Nat) (mk : Nat) (mt : Nat) (mr : Nat) (mki : Nat) (mso : Nat) (mst : Nat) (mpr : Nat) (msh : Nat) (mwa : Nat) (mpu : Nat) (mtx : Nat) (mor : Nat) (mbo : Nat) (tO : Nat) (tVi : Nat) (tSm : Nat) (ts : Int32) (ma : Int32) (bg : Int32) (wr : Int32) (cl : Int32) (um : Int32) (mn : Int32) (tm : Int32) (Sh : Nat → Int32) (m : Nat) (xs : Int32) (mm : Int32) (y : Int32) (eM : Sh 0 = nI m) (hm : m ≤ 6) (hx : withinI xs 0 (nI (2 ^ m - 1)) = 1) (hmm : withinI mm 0 30 = 0) : CT E l yX11_best cX11_best 7 (some (.int)) 2 0 0 L h [(o, ob 10 [.ref mw, .ref mk, .ref mt, .ref mr, .ref mki, .ref mso, .ref mst, .ref mpr, .ref msh, .ref mwa, .ref mpu, .ref mtx, .int ts, .int ma, .int bg, .int wr, .int cl, .int um, .ref mor, .ref mbo, .int mn, .ref tO, .ref tVi, .ref tSm, .int tm]), (msh, aI E 2 Sh)] [.ref o, .int xs, .int mm, .int y] (qP L h (fun (_ : Unit) => [(o, ob 10 [.ref mw, .ref mk, .ref mt, .ref mr, .ref mki, .ref mso, .ref mst, .ref mpr, .ref msh, .ref mwa, .ref mpu, .ref mtx, .int ts, .int ma, .int bg, .int wr, .int cl, .int um, .ref mor, .ref mbo, .int mn, .ref tO, .ref tVi, .ref tSm, .int tm]), (msh, aI E 2 Sh)]) (fun _ => some (.int (-3))) (fun _ => True)) := by
  refine CT.ofV (by decide +kernel) (Nat.le_of_ble_eq_true rfl) ?_
  refine V.locals2 (lv2 := [(0, .ref o), (1, .int xs), (2, .int mm), (3, .int y)]) rfl ?_
  refine V.aload_n dX11_best_0 0 rfl ?_
  refine V.iload_n dX11_best_1 1 rfl ?_
  refine V.callVp (As := [.int xs]) (rest := []) [0, 1] (c_M_isSet E l L _ o mw mk mt mr mki mso mst mpr msh mwa mpu mtx mor mbo tO tVi tSm ts ma bg wr cl um mn tm Sh m xs (eM) (hm)) rfl (by decide) mi_X11_isSet 0 rfl rfl w_941 w_943 wp_26 rfl rfl (Nat.le_of_ble_eq_true rfl) ⟨by decide, by decide⟩ ⟨by decide, by decide⟩ dX11_best_2 (vw2 := fun _ => [(o, ob 10 [.ref mw, .ref mk, .ref mt, .ref mr, .ref mki, .ref mso, .ref mst, .ref mpr, .ref msh, .ref mwa, .ref mpu, .ref mtx, .int ts, .int ma, .int bg, .int wr, .int cl, .int um, .ref mor, .ref mbo, .int mn, .ref tO, .ref tVi, .ref tSm, .int tm]), (msh, aI E 2 Sh)]) (st2 := fun _ => [.int (withinI xs 0 (nI (2 ^ m - 1)))]) (fun _ => rfl) (fun _ => rfl) (fun _ => rfl) (fun _ _ => ?_)
  refine V.topc (v := 1) (hx) ?_
  refine V.if_ne (tgt := 11) dX11_best_5 (by decide) (fun _ => ?_) (fun hc => absurd hc (by decide))
  refine V.iload_n dX11_best_11 2 rfl ?_
  refine V.i2l dX11_best_12 ?_
  refine V.lconst (v := 0) dX11_best_13 (by decide) ?_
  refine V.stack (st2 := [.long (Int32.toInt64 0), .long (Int32.toInt64 mm)]) (congrArg (fun z64 => Value.long z64 :: [.long (Int32.toInt64 mm)]) (show (0 : Int64) = Int32.toInt64 0 by decide)) ?_
  refine V.ldc2 dX11_best_14 w_945 ?_
  refine V.stack (st2 := [.long (Int32.toInt64 30), .long (Int32.toInt64 0), .long (Int32.toInt64 mm)]) (congrArg (fun z64 => Value.long z64 :: [.long (Int32.toInt64 0), .long (Int32.toInt64 mm)]) (show (30 : Int64) = Int32.toInt64 30 by decide)) ?_
  refine V.callSp (As := [.long (Int32.toInt64 mm), .long (Int32.toInt64 0), .long (Int32.toInt64 30)]) (rest := []) [] (c_M_in E l L _ mm 0 30) rfl (by decide) mi_X11_in w_789 w_790 rfl rfl (Nat.le_of_ble_eq_true rfl) ⟨by decide, by decide⟩ ⟨by decide, by decide⟩ dX11_best_17 (vw2 := fun _ => [(o, ob 10 [.ref mw, .ref mk, .ref mt, .ref mr, .ref mki, .ref mso, .ref mst, .ref mpr, .ref msh, .ref mwa, .ref mpu, .ref mtx, .int ts, .int ma, .int bg, .int wr, .int cl, .int um, .ref mor, .ref mbo, .int mn, .ref tO, .ref tVi, .ref tSm, .int tm]), (msh, aI E 2 Sh)]) (st2 := fun _ => [.int (withinI mm 0 30)]) (fun _ => rfl) (fun _ => rfl) (fun _ => rfl) (fun _ _ => ?_)
  refine V.topc (v := 0) (hmm) ?_
  refine V.if_eq (tgt := 35) dX11_best_20 (by decide) (fun _ => ?_) (fun hc => absurd (by decide) hc)
  refine V.bipush (v := (-3)) dX11_best_35 (by decide) ?_
  exact V.iret rfl dX11_best_37 (⟨(), rfl, rfl, rfl, trivial⟩)

set_option maxHeartbeats 4000000 in
set_option maxRecDepth 100000 in
theorem c_M_bestO2 (E : vEnv) (l : Launch) (L : List Nat) (h : Nat → va_E) (o : Nat) (mw : Nat) (mk : Nat) (mt : Nat) (mr : Nat) (mki : Nat) (mso : Nat) (mst : Nat) (mpr : Nat) (msh : Nat) (mwa : Nat) (mpu : Nat) (mtx : Nat) (mor : Nat) (mbo : Nat) (tO : Nat) (tVi : Nat) (tSm : Nat) (ts : Int32) (ma : Int32) (bg : Int32) (wr : Int32) (cl : Int32) (um : Int32) (mn : Int32) (tm : Int32) (Sh : Nat → Int32) (m : Nat) (xs : Int32) (mm : Int32) (y : Int32) (eM : Sh 0 = nI m) (hm : m ≤ 6) (hx : withinI xs 0 (nI (2 ^ m - 1)) = 1) (hmm : withinI mm 0 30 = 1) (hy : withinI y 0 7 = 0) : CT E l yX11_best cX11_best 7 (some (.int)) 2 0 0 L h [(o, ob 10 [.ref mw, .ref mk, .ref mt, .ref mr, .ref mki, .ref mso, .ref mst, .ref mpr, .ref msh, .ref mwa, .ref mpu, .ref mtx, .int ts, .int ma, .int bg, .int wr, .int cl, .int um, .ref mor, .ref mbo, .int mn, .ref tO, .ref tVi, .ref tSm, .int tm]), (msh, aI E 2 Sh)] [.ref o, .int xs, .int mm, .int y] (qP L h (fun (_ : Unit) => [(o, ob 10 [.ref mw, .ref mk, .ref mt, .ref mr, .ref mki, .ref mso, .ref mst, .ref mpr, .ref msh, .ref mwa, .ref mpu, .ref mtx, .int ts, .int ma, .int bg, .int wr, .int cl, .int um, .ref mor, .ref mbo, .int mn, .ref tO, .ref tVi, .ref tSm, .int tm]), (msh, aI E 2 Sh)]) (fun _ => some (.int (-3))) (fun _ => True)) := by
  refine CT.ofV (by decide +kernel) (Nat.le_of_ble_eq_true rfl) ?_
  refine V.locals2 (lv2 := [(0, .ref o), (1, .int xs), (2, .int mm), (3, .int y)]) rfl ?_
  refine V.aload_n dX11_best_0 0 rfl ?_
  refine V.iload_n dX11_best_1 1 rfl ?_
  refine V.callVp (As := [.int xs]) (rest := []) [0, 1] (c_M_isSet E l L _ o mw mk mt mr mki mso mst mpr msh mwa mpu mtx mor mbo tO tVi tSm ts ma bg wr cl um mn tm Sh m xs (eM) (hm)) rfl (by decide) mi_X11_isSet 0 rfl rfl w_941 w_943 wp_26 rfl rfl (Nat.le_of_ble_eq_true rfl) ⟨by decide, by decide⟩ ⟨by decide, by decide⟩ dX11_best_2 (vw2 := fun _ => [(o, ob 10 [.ref mw, .ref mk, .ref mt, .ref mr, .ref mki, .ref mso, .ref mst, .ref mpr, .ref msh, .ref mwa, .ref mpu, .ref mtx, .int ts, .int ma, .int bg, .int wr, .int cl, .int um, .ref mor, .ref mbo, .int mn, .ref tO, .ref tVi, .ref tSm, .int tm]), (msh, aI E 2 Sh)]) (st2 := fun _ => [.int (withinI xs 0 (nI (2 ^ m - 1)))]) (fun _ => rfl) (fun _ => rfl) (fun _ => rfl) (fun _ _ => ?_)
  refine V.topc (v := 1) (hx) ?_
  refine V.if_ne (tgt := 11) dX11_best_5 (by decide) (fun _ => ?_) (fun hc => absurd hc (by decide))
  refine V.iload_n dX11_best_11 2 rfl ?_
  refine V.i2l dX11_best_12 ?_
  refine V.lconst (v := 0) dX11_best_13 (by decide) ?_
  refine V.stack (st2 := [.long (Int32.toInt64 0), .long (Int32.toInt64 mm)]) (congrArg (fun z64 => Value.long z64 :: [.long (Int32.toInt64 mm)]) (show (0 : Int64) = Int32.toInt64 0 by decide)) ?_
  refine V.ldc2 dX11_best_14 w_945 ?_
  refine V.stack (st2 := [.long (Int32.toInt64 30), .long (Int32.toInt64 0), .long (Int32.toInt64 mm)]) (congrArg (fun z64 => Value.long z64 :: [.long (Int32.toInt64 0), .long (Int32.toInt64 mm)]) (show (30 : Int64) = Int32.toInt64 30 by decide)) ?_
  refine V.callSp (As := [.long (Int32.toInt64 mm), .long (Int32.toInt64 0), .long (Int32.toInt64 30)]) (rest := []) [] (c_M_in E l L _ mm 0 30) rfl (by decide) mi_X11_in w_789 w_790 rfl rfl (Nat.le_of_ble_eq_true rfl) ⟨by decide, by decide⟩ ⟨by decide, by decide⟩ dX11_best_17 (vw2 := fun _ => [(o, ob 10 [.ref mw, .ref mk, .ref mt, .ref mr, .ref mki, .ref mso, .ref mst, .ref mpr, .ref msh, .ref mwa, .ref mpu, .ref mtx, .int ts, .int ma, .int bg, .int wr, .int cl, .int um, .ref mor, .ref mbo, .int mn, .ref tO, .ref tVi, .ref tSm, .int tm]), (msh, aI E 2 Sh)]) (st2 := fun _ => [.int (withinI mm 0 30)]) (fun _ => rfl) (fun _ => rfl) (fun _ => rfl) (fun _ _ => ?_)
  refine V.topc (v := 1) (hmm) ?_
  refine V.if_eq (tgt := 35) dX11_best_20 (by decide) (fun hc => absurd hc (by decide)) (fun _ => ?_)
  refine V.iload_n dX11_best_23 3 rfl ?_
  refine V.i2l dX11_best_24 ?_
  refine V.lconst (v := 0) dX11_best_25 (by decide) ?_
  refine V.stack (st2 := [.long (Int32.toInt64 0), .long (Int32.toInt64 y)]) (congrArg (fun z64 => Value.long z64 :: [.long (Int32.toInt64 y)]) (show (0 : Int64) = Int32.toInt64 0 by decide)) ?_
  refine V.ldc2 dX11_best_26 w_946 ?_
  refine V.stack (st2 := [.long (Int32.toInt64 7), .long (Int32.toInt64 0), .long (Int32.toInt64 y)]) (congrArg (fun z64 => Value.long z64 :: [.long (Int32.toInt64 0), .long (Int32.toInt64 y)]) (show (7 : Int64) = Int32.toInt64 7 by decide)) ?_
  refine V.callSp (As := [.long (Int32.toInt64 y), .long (Int32.toInt64 0), .long (Int32.toInt64 7)]) (rest := []) [] (c_M_in E l L _ y 0 7) rfl (by decide) mi_X11_in w_789 w_790 rfl rfl (Nat.le_of_ble_eq_true rfl) ⟨by decide, by decide⟩ ⟨by decide, by decide⟩ dX11_best_29 (vw2 := fun _ => [(o, ob 10 [.ref mw, .ref mk, .ref mt, .ref mr, .ref mki, .ref mso, .ref mst, .ref mpr, .ref msh, .ref mwa, .ref mpu, .ref mtx, .int ts, .int ma, .int bg, .int wr, .int cl, .int um, .ref mor, .ref mbo, .int mn, .ref tO, .ref tVi, .ref tSm, .int tm]), (msh, aI E 2 Sh)]) (st2 := fun _ => [.int (withinI y 0 7)]) (fun _ => rfl) (fun _ => rfl) (fun _ => rfl) (fun _ _ => ?_)
  refine V.topc (v := 0) (hy) ?_
  refine V.if_ne (tgt := 38) dX11_best_32 (by decide) (fun hc => absurd (by decide) hc) (fun _ => ?_)
  refine V.bipush (v := (-3)) dX11_best_35 (by decide) ?_
  exact V.iret rfl dX11_best_37 (⟨(), rfl, rfl, rfl, trivial⟩)

set_option maxHeartbeats 4000000 in
set_option maxRecDepth 100000 in
theorem c_M_bestN (E : vEnv) (l : Launch) (L : List Nat) (h : Nat → va_E) (o : Nat) (mw : Nat) (mk : Nat) (mt : Nat) (mr : Nat) (mki : Nat) (mso : Nat) (mst : Nat) (mpr : Nat) (msh : Nat) (mwa : Nat) (mpu : Nat) (mtx : Nat) (mor : Nat) (mbo : Nat) (tO : Nat) (tVi : Nat) (tSm : Nat) (ts : Int32) (ma : Int32) (bg : Int32) (wr : Int32) (cl : Int32) (um : Int32) (tm : Int32) (ρ : Nat → MR) (pw : Nat → Int32) (s : NS) (Re : Nat → Int32) (r : Nat → Int32) (Ti : Nat → Int32) (ti : Nat → Int32) (Ki : Nat → Int32) (So : Nat → Int32) (St : Nat → Int32) (Pr : Nat → Int32) (Wa : Nat → Int32) (m : Nat) (sf : Nat → SHP) (wa : Int32) (Sh : Nat → Int32) (ω0 : Nat → Nat) (ρ0 : Nat → Nat) (mn : Int32) (bs : Int32) (bm : Int32) (F0 : Nat → Int32) (bo : Nat → Int32) (xs : Int32) (mm : Int32) (y : Int32) (hR : ρ 0 = (pw, s)) (hTab : TabS m sf Ki So St Pr) (hm : m ≤ 6) (eW : Wa 0 = wa) (hgR : gR r) (eR : ∀ j, j < 4 → Re j = r j) (hgI : gI ti) (eI : ∀ j, j < 4 → Ti j = ti j) (eM : Sh 0 = nI m) (ePl : ∀ k_, k_ < m → pw k_ = placeI m k_ s.2.2.2.2.2.2.2) (hgS : gS s) (hx : withinI xs 0 (nI (2 ^ m - 1)) = 1) (hmm : withinI mm 0 30 = 1) (hy : withinI y 0 7 = 1) (hres : (List.foldl (bestStep (m, sf, wa, ti, r) s (fillW xs ρ0 6).1 mm) (0, bs, bm, F0) (rowsG (fillW xs ρ0 6).1 720 (fillW xs ρ0 6).2)).1 = 0) : CT E l yX11_best cX11_best 7 (some (.int)) 4 0 0 L h [(o, ob 10 [.ref mw, .ref mk, .ref mt, .ref mr, .ref mki, .ref mso, .ref mst, .ref mpr, .ref msh, .ref mwa, .ref mpu, .ref mtx, .int ts, .int ma, .int bg, .int wr, .int cl, .int um, .ref mor, .ref mbo, .int mn, .ref tO, .ref tVi, .ref tSm, .int tm]), (msh, aI E 2 Sh), (mw, aI E 192 (mW ρ)), (mr, aI E 8 Re), (mt, aI E 8 Ti), (mki, aI E 12 Ki), (mso, aI E 12 So), (mst, aI E 12 St), (mpr, aI E 12 Pr), (mwa, aI E 2 Wa), (mor, aI E 6 (fun j => nI (ω0 j))), (mbo, aI E 6 bo)] [.ref o, .int xs, .int mm, .int y] (qP L h (fun (u : MR × (Nat → Nat) × (Nat → Int32)) => [(o, ob 10 [.ref mw, .ref mk, .ref mt, .ref mr, .ref mki, .ref mso, .ref mst, .ref mpr, .ref msh, .ref mwa, .ref mpu, .ref mtx, .int ts, .int ma, .int bg, .int wr, .int cl, .int um, .ref mor, .ref mbo, .int (nI (fillW xs ρ0 6).1), .ref tO, .ref tVi, .ref tSm, .int tm]), (msh, aI E 2 Sh), (mw, aI E 192 (mW (va_up ρ 1 u.1))), (mr, aI E 8 Re), (mt, aI E 8 Ti), (mki, aI E 12 Ki), (mso, aI E 12 So), (mst, aI E 12 St), (mpr, aI E 12 Pr), (mwa, aI E 2 Wa), (mor, aI E 6 (fun j => nI (u.2.1 j))), (mbo, aI E 6 u.2.2)]) (fun u => some (.int (-1))) (fun u => True)) := by
  refine CT.ofV (by decide +kernel) (Nat.le_of_ble_eq_true rfl) ?_
  obtain ⟨Z, hZ⟩ : ∃ Z, Z = mZ E (qP L h (fun (u : MR × (Nat → Nat) × (Nat → Int32)) => [(o, ob 10 [.ref mw, .ref mk, .ref mt, .ref mr, .ref mki, .ref mso, .ref mst, .ref mpr, .ref msh, .ref mwa, .ref mpu, .ref mtx, .int ts, .int ma, .int bg, .int wr, .int cl, .int um, .ref mor, .ref mbo, .int (nI (fillW xs ρ0 6).1), .ref tO, .ref tVi, .ref tSm, .int tm]), (msh, aI E 2 Sh), (mw, aI E 192 (mW (va_up ρ 1 u.1))), (mr, aI E 8 Re), (mt, aI E 8 Ti), (mki, aI E 12 Ki), (mso, aI E 12 So), (mst, aI E 12 St), (mpr, aI E 12 Pr), (mwa, aI E 2 Wa), (mor, aI E 6 (fun j => nI (u.2.1 j))), (mbo, aI E 6 u.2.2)]) (fun u => some (.int (-1))) (fun u => True)) 0 0 := ⟨_, rfl⟩
  rw [← hZ]
  refine V.locals2 (lv2 := [(0, .ref o), (1, .int xs), (2, .int mm), (3, .int y)]) rfl ?_
  refine V.aload_n dX11_best_0 0 rfl ?_
  refine V.iload_n dX11_best_1 1 rfl ?_
  refine V.callVp (As := [.int xs]) (rest := []) [0, 1] (c_M_isSet E l L _ o mw mk mt mr mki mso mst mpr msh mwa mpu mtx mor mbo tO tVi tSm ts ma bg wr cl um mn tm Sh m xs (eM) (hm)) rfl (by decide) mi_X11_isSet 0 rfl rfl w_941 w_943 wp_26 rfl rfl (Nat.le_of_ble_eq_true rfl) ⟨by decide, by decide⟩ ⟨by decide, by decide⟩ dX11_best_2 (vw2 := fun _ => [(o, ob 10 [.ref mw, .ref mk, .ref mt, .ref mr, .ref mki, .ref mso, .ref mst, .ref mpr, .ref msh, .ref mwa, .ref mpu, .ref mtx, .int ts, .int ma, .int bg, .int wr, .int cl, .int um, .ref mor, .ref mbo, .int mn, .ref tO, .ref tVi, .ref tSm, .int tm]), (msh, aI E 2 Sh), (mw, aI E 192 (mW ρ)), (mr, aI E 8 Re), (mt, aI E 8 Ti), (mki, aI E 12 Ki), (mso, aI E 12 So), (mst, aI E 12 St), (mpr, aI E 12 Pr), (mwa, aI E 2 Wa), (mor, aI E 6 (fun j => nI (ω0 j))), (mbo, aI E 6 bo)]) (st2 := fun _ => [.int (withinI xs 0 (nI (2 ^ m - 1)))]) (fun _ => rfl) (fun _ => rfl) (fun _ => rfl) (fun _ _ => ?_)
  refine V.topc (v := 1) (hx) ?_
  refine V.if_ne (tgt := 11) dX11_best_5 (by decide) (fun _ => ?_) (fun hc => absurd hc (by decide))
  refine V.iload_n dX11_best_11 2 rfl ?_
  refine V.i2l dX11_best_12 ?_
  refine V.lconst (v := 0) dX11_best_13 (by decide) ?_
  refine V.stack (st2 := [.long (Int32.toInt64 0), .long (Int32.toInt64 mm)]) (congrArg (fun z64 => Value.long z64 :: [.long (Int32.toInt64 mm)]) (show (0 : Int64) = Int32.toInt64 0 by decide)) ?_
  refine V.ldc2 dX11_best_14 w_945 ?_
  refine V.stack (st2 := [.long (Int32.toInt64 30), .long (Int32.toInt64 0), .long (Int32.toInt64 mm)]) (congrArg (fun z64 => Value.long z64 :: [.long (Int32.toInt64 0), .long (Int32.toInt64 mm)]) (show (30 : Int64) = Int32.toInt64 30 by decide)) ?_
  refine V.callSp (As := [.long (Int32.toInt64 mm), .long (Int32.toInt64 0), .long (Int32.toInt64 30)]) (rest := []) [] (c_M_in E l L _ mm 0 30) rfl (by decide) mi_X11_in w_789 w_790 rfl rfl (Nat.le_of_ble_eq_true rfl) ⟨by decide, by decide⟩ ⟨by decide, by decide⟩ dX11_best_17 (vw2 := fun _ => [(o, ob 10 [.ref mw, .ref mk, .ref mt, .ref mr, .ref mki, .ref mso, .ref mst, .ref mpr, .ref msh, .ref mwa, .ref mpu, .ref mtx, .int ts, .int ma, .int bg, .int wr, .int cl, .int um, .ref mor, .ref mbo, .int mn, .ref tO, .ref tVi, .ref tSm, .int tm]), (msh, aI E 2 Sh), (mw, aI E 192 (mW ρ)), (mr, aI E 8 Re), (mt, aI E 8 Ti), (mki, aI E 12 Ki), (mso, aI E 12 So), (mst, aI E 12 St), (mpr, aI E 12 Pr), (mwa, aI E 2 Wa), (mor, aI E 6 (fun j => nI (ω0 j))), (mbo, aI E 6 bo)]) (st2 := fun _ => [.int (withinI mm 0 30)]) (fun _ => rfl) (fun _ => rfl) (fun _ => rfl) (fun _ _ => ?_)
  refine V.topc (v := 1) (hmm) ?_
  refine V.if_eq (tgt := 35) dX11_best_20 (by decide) (fun hc => absurd hc (by decide)) (fun _ => ?_)
  refine V.iload_n dX11_best_23 3 rfl ?_
  refine V.i2l dX11_best_24 ?_
  refine V.lconst (v := 0) dX11_best_25 (by decide) ?_
  refine V.stack (st2 := [.long (Int32.toInt64 0), .long (Int32.toInt64 y)]) (congrArg (fun z64 => Value.long z64 :: [.long (Int32.toInt64 y)]) (show (0 : Int64) = Int32.toInt64 0 by decide)) ?_
  refine V.ldc2 dX11_best_26 w_946 ?_
  refine V.stack (st2 := [.long (Int32.toInt64 7), .long (Int32.toInt64 0), .long (Int32.toInt64 y)]) (congrArg (fun z64 => Value.long z64 :: [.long (Int32.toInt64 0), .long (Int32.toInt64 y)]) (show (7 : Int64) = Int32.toInt64 7 by decide)) ?_
  refine V.callSp (As := [.long (Int32.toInt64 y), .long (Int32.toInt64 0), .long (Int32.toInt64 7)]) (rest := []) [] (c_M_in E l L _ y 0 7) rfl (by decide) mi_X11_in w_789 w_790 rfl rfl (Nat.le_of_ble_eq_true rfl) ⟨by decide, by decide⟩ ⟨by decide, by decide⟩ dX11_best_29 (vw2 := fun _ => [(o, ob 10 [.ref mw, .ref mk, .ref mt, .ref mr, .ref mki, .ref mso, .ref mst, .ref mpr, .ref msh, .ref mwa, .ref mpu, .ref mtx, .int ts, .int ma, .int bg, .int wr, .int cl, .int um, .ref mor, .ref mbo, .int mn, .ref tO, .ref tVi, .ref tSm, .int tm]), (msh, aI E 2 Sh), (mw, aI E 192 (mW ρ)), (mr, aI E 8 Re), (mt, aI E 8 Ti), (mki, aI E 12 Ki), (mso, aI E 12 So), (mst, aI E 12 St), (mpr, aI E 12 Pr), (mwa, aI E 2 Wa), (mor, aI E 6 (fun j => nI (ω0 j))), (mbo, aI E 6 bo)]) (st2 := fun _ => [.int (withinI y 0 7)]) (fun _ => rfl) (fun _ => rfl) (fun _ => rfl) (fun _ _ => ?_)
  refine V.topc (v := 1) (hy) ?_
  refine V.if_ne (tgt := 38) dX11_best_32 (by decide) (fun _ => ?_) (fun hc => absurd hc (by decide))
  refine V.ldc dX11_best_38 w_947 ?_
  refine V.istore (lv2 := [(4, .int 99999999), (0, .ref o), (1, .int xs), (2, .int mm), (3, .int y)]) dX11_best_40 (by decide) rfl ?_
  refine V.iconst (v := 0) dX11_best_42 (by decide) ?_
  refine V.istore (lv2 := [(5, .int 0), (4, .int 99999999), (0, .ref o), (1, .int xs), (2, .int mm), (3, .int y)]) dX11_best_43 (by decide) rfl ?_
  refine V.aload_n dX11_best_45 2 rfl ?_
  refine V.iload_n dX11_best_46 3 rfl ?_
  refine V.callVp (As := [.int xs]) (rest := []) [0, 1, 10] (c_M_firstOrder E l L _ o mw mk mt mr mki mso mst mpr msh mwa mpu mtx mor mbo tO tVi tSm ts ma bg wr cl um tm Sh m ω0 xs mn (eM) (hm)) rfl (by decide) mi_X11_firstOrder 0 rfl rfl w_948 w_950 wp_27 rfl rfl (Nat.le_of_ble_eq_true rfl) ⟨by decide, by decide⟩ ⟨by decide, by decide⟩ dX11_best_47 (vw2 := fun _ => [(o, ob 10 [.ref mw, .ref mk, .ref mt, .ref mr, .ref mki, .ref mso, .ref mst, .ref mpr, .ref msh, .ref mwa, .ref mpu, .ref mtx, .int ts, .int ma, .int bg, .int wr, .int cl, .int um, .ref mor, .ref mbo, .int (nI (fillW xs ω0 m).1), .ref tO, .ref tVi, .ref tSm, .int tm]), (msh, aI E 2 Sh), (mw, aI E 192 (mW ρ)), (mr, aI E 8 Re), (mt, aI E 8 Ti), (mki, aI E 12 Ki), (mso, aI E 12 So), (mst, aI E 12 St), (mpr, aI E 12 Pr), (mwa, aI E 2 Wa), (mor, aI E 6 (fun j => nI ((fillW xs ω0 m).2 j))), (mbo, aI E 6 bo)]) (st2 := fun _ => [.int 1]) (fun _ => rfl) (fun _ => rfl) (fun _ => rfl) (fun _ _ => ?_)
  obtain ⟨-, hNe, hag0, hπ0, hNm, hend0⟩ := setRow hm hx ρ0 ω0
  rw [hNe]
  clear hNe
  have hinj0 : ∀ x z, x < (fillW xs ρ0 6).1 → z < (fillW xs ρ0 6).1 → (fillW xs ρ0 6).2 x = (fillW xs ρ0 6).2 z → x = z := fun x z hx9 hz9 e9 => (Nat.lt_trichotomy x z).elim (fun h9 => absurd (fillW_mono _ _ _ x z h9 hz9) (by omega)) (fun h9 => h9.elim id (fun h9 => absurd (fillW_mono _ _ _ z x h9 hx9) (by omega)))
  generalize hω1 : (fillW xs ω0 m).2 = ω1 at hag0 ⊢
  generalize hN : (fillW xs ρ0 6).1 = N at hag0 hπ0 hNm hend0 hinj0 hZ hres ⊢
  generalize hπ1 : (fillW xs ρ0 6).2 = π1 at hag0 hπ0 hend0 hinj0 hZ hres
  refine V.arrEq (vw2 := [(o, ob 10 [.ref mw, .ref mk, .ref mt, .ref mr, .ref mki, .ref mso, .ref mst, .ref mpr, .ref msh, .ref mwa, .ref mpu, .ref mtx, .int ts, .int ma, .int bg, .int wr, .int cl, .int um, .ref mor, .ref mbo, .int (nI N), .ref tO, .ref tVi, .ref tSm, .int tm]), (msh, aI E 2 Sh), (mw, aI E 192 (mW (va_up ρ 1 (ρ 1)))), (mr, aI E 8 Re), (mt, aI E 8 Ti), (mki, aI E 12 Ki), (mso, aI E 12 So), (mst, aI E 12 St), (mpr, aI E 12 Pr), (mwa, aI E 2 Wa), (mor, aI E 6 (fun j => nI (ω1 j))), (mbo, aI E 6 bo)]) 2 0 rfl (fun j _ => by rw [va_up_id rfl]) rfl ?_
  refine V.istore (lv2 := [(6, .int 1), (5, .int 0), (4, .int 99999999), (0, .ref o), (1, .int xs), (2, .int mm), (3, .int y)]) dX11_best_50 (by decide) rfl ?_
  refine V.locals [3, 4, 5, 6, 2, 1, 0] (by rfl) ?_
  have lp_52 : ∀ (fuel : Nat) (ω : Nat → Nat) (π : Nat → Nat) (X : MR) (q : BST) (fw : Int32) (mx9 : Int32) (mo : Int32) (b2 : Nat → Int32) (d : Nat) (hag : ∀ j, j < N → ω j = π j) (hπm : ∀ j, j < N → π j < m) (hinj : ∀ x z, x < N → z < N → π x = π z → x = z) (hmo : (mo = 1 ∧ endsG N d π ∧ List.foldl (bestStep (m, sf, wa, ti, r) s N mm) q (rowsG N d π) = (List.foldl (bestStep (m, sf, wa, ti, r) s N mm) (0, bs, bm, F0) (rowsG N 720 π1))) ∨ (mo = 0 ∧ q = (List.foldl (bestStep (m, sf, wa, ti, r) s N mm) (0, bs, bm, F0) (rowsG N 720 π1)))) (hrel : bRel N q fw mx9 b2) (hf : d < fuel), V E l yX11_best cX11_best 7 (some (.int)) (rmk 4 0 0) Z L h 0 0 [(o, ob 10 [.ref mw, .ref mk, .ref mt, .ref mr, .ref mki, .ref mso, .ref mst, .ref mpr, .ref msh, .ref mwa, .ref mpu, .ref mtx, .int ts, .int ma, .int bg, .int wr, .int cl, .int um, .ref mor, .ref mbo, .int (nI N), .ref tO, .ref tVi, .ref tSm, .int tm]), (msh, aI E 2 Sh), (mw, aI E 192 (mW (va_up ρ 1 X))), (mr, aI E 8 Re), (mt, aI E 8 Ti), (mki, aI E 12 Ki), (mso, aI E 12 So), (mst, aI E 12 St), (mpr, aI E 12 Pr), (mwa, aI E 2 Wa), (mor, aI E 6 (fun j => nI (ω j))), (mbo, aI E 6 b2)] 52 [(0, .ref o), (1, .int xs), (2, .int mm), (3, .int y), (4, .int fw), (5, .int mx9), (6, .int mo)] [] := by
    intro fuel
    induction fuel with
    | zero =>
      intro ω π X q fw mx9 mo b2 d hag hπm hinj hmo hrel hf
      exfalso; omega
    | succ fuel ih_52 =>
      intro ω π X q fw mx9 mo b2 d hag hπm hinj hmo hrel hf
      refine V.iload dX11_best_52 6 rfl ?_
      refine V.if_eq (tgt := 132) dX11_best_54 (by decide) (fun c1_54 => ?_) (fun c1_54 => ?_)
      · skip
        have hfin : q = (List.foldl (bestStep (m, sf, wa, ti, r) s N mm) (0, bs, bm, F0) (rowsG N 720 π1)) := (hmo.resolve_left (fun hh => absurd (hh.1.symm.trans c1_54) (by decide))).2
        refine V.iload dX11_best_132 4 rfl ?_
        refine V.ldc dX11_best_134 w_947 ?_
        refine V.icmp_ne (tgt := 141) dX11_best_136 (by decide) (fun hc => absurd (hrel.elim (fun h9 => h9.2) (fun h9 => absurd (h9.1.symm.trans (show q.1 = 0 by rw [hfin]; exact hres)) (by decide))) hc) (fun _ => ?_)
        refine V.iconst (v := (-1)) dX11_best_139 (by decide) ?_
        subst hZ
        exact V.iret rfl dX11_best_140 (⟨(X, ω, b2), rfl, rfl, rfl, trivial⟩)
      · skip
        obtain ⟨-, hen, hrun⟩ := hmo.resolve_right (fun hh => c1_54 hh.1)
        obtain ⟨d9, rfl⟩ := endsG_pos hen
        refine V.aload_n dX11_best_57 0 rfl ?_
        refine V.iload_n dX11_best_58 2 rfl ?_
        refine V.callVp (As := [.int mm]) (rest := []) [0, 2, 3, 4, 5, 6, 7, 8, 9, 10] (c_M_walks E l L _ o mw mk mt mr mki mso mst mpr msh mwa mpu mtx mor mbo tO tVi tSm ts ma bg wr cl um tm ((va_up ρ 1 X)) pw s Re r Ti ti Ki So St Pr Wa m sf wa ω N mm ((va_up_ne _ _ (by decide)).trans hR) (hTab) (hm) (eW) (hgR) (eR) (hgI) (eI) (by omega) (fun j hj => by rw [hag j hj]; exact hπm j hj) (ePl) (hgS)) rfl (by decide) mi_X11_walks 0 rfl rfl w_952 w_954 wp_28 rfl rfl (Nat.le_of_ble_eq_true rfl) ⟨by decide, by decide⟩ ⟨by decide, by decide⟩ dX11_best_59 (vw2 := fun u59 => [(o, ob 10 [.ref mw, .ref mk, .ref mt, .ref mr, .ref mki, .ref mso, .ref mst, .ref mpr, .ref msh, .ref mwa, .ref mpu, .ref mtx, .int ts, .int ma, .int bg, .int wr, .int cl, .int um, .ref mor, .ref mbo, .int (nI N), .ref tO, .ref tVi, .ref tSm, .int tm]), (msh, aI E 2 Sh), (mw, aI E 192 (mW (va_up (va_up ρ 1 X) 1 (pw, u59)))), (mr, aI E 8 Re), (mt, aI E 8 Ti), (mki, aI E 12 Ki), (mso, aI E 12 So), (mst, aI E 12 St), (mpr, aI E 12 Pr), (mwa, aI E 2 Wa), (mor, aI E 6 (fun j => nI (ω j))), (mbo, aI E 6 b2)]) (st2 := fun u59 => [.int (boolI (∀ i_, i_ < N → mm ≤ visitS (m, sf, wa, ti, r) (ω i_) (walkN (m, sf, wa, ti, r) ω (zSS s) i_)))]) (fun _ => rfl) (fun _ => rfl) (fun _ => rfl) (fun u59 hq_59 => ?_)
        refine V.arrEq (vw2 := [(o, ob 10 [.ref mw, .ref mk, .ref mt, .ref mr, .ref mki, .ref mso, .ref mst, .ref mpr, .ref msh, .ref mwa, .ref mpu, .ref mtx, .int ts, .int ma, .int bg, .int wr, .int cl, .int um, .ref mor, .ref mbo, .int (nI N), .ref tO, .ref tVi, .ref tSm, .int tm]), (msh, aI E 2 Sh), (mw, aI E 192 (mW (va_up ρ 1 (pw, u59)))), (mr, aI E 8 Re), (mt, aI E 8 Ti), (mki, aI E 12 Ki), (mso, aI E 12 So), (mst, aI E 12 St), (mpr, aI E 12 Pr), (mwa, aI E 2 Wa), (mor, aI E 6 (fun j => nI (ω j))), (mbo, aI E 6 b2)]) 2 0 rfl (fun j _ => mW_ups j) rfl ?_
        refine V.if_eq (tgt := 123) dX11_best_62 (by decide) (fun c2_62 => ?_) (fun c2_62 => ?_)
        · skip
          have hne : ¬ eachP (m, sf, wa, ti, r) s N mm π := fun hh => absurd ((boolI_t ((each_ag hag).mpr ((each_z _ _ _ _ _).mp hh))).symm.trans c2_62) (by decide)
          have hbs9 : bestStep (m, sf, wa, ti, r) s N mm q π = q := cG_f (fun hh => hne hh.2)
          refine V.aload_n dX11_best_123 0 rfl ?_
          rcases stepR_rel (M := m) (σ := id) rel_id hag hπm with ⟨h1, h2⟩ | ⟨a, b, h1, h2, h3, h4⟩
          · skip
            refine V.callVp (As := []) (rest := []) [0, 10] (c_M_nextN E l L _ o mw mk mt mr mki mso mst mpr msh mwa mpu mtx mor mbo tO tVi tSm ts ma bg wr cl um tm N ω (by omega) (fun i hi => by rw [hag i hi]; have := hπm i hi; omega) (h1)) rfl (by decide) mi_X11_nextOrder 0 rfl rfl w_960 w_962 wp_30 rfl rfl (Nat.le_of_ble_eq_true rfl) ⟨by decide, by decide⟩ ⟨by decide, by decide⟩ dX11_best_124 (vw2 := fun _ => [(o, ob 10 [.ref mw, .ref mk, .ref mt, .ref mr, .ref mki, .ref mso, .ref mst, .ref mpr, .ref msh, .ref mwa, .ref mpu, .ref mtx, .int ts, .int ma, .int bg, .int wr, .int cl, .int um, .ref mor, .ref mbo, .int (nI N), .ref tO, .ref tVi, .ref tSm, .int tm]), (msh, aI E 2 Sh), (mw, aI E 192 (mW (va_up ρ 1 (pw, u59)))), (mr, aI E 8 Re), (mt, aI E 8 Ti), (mki, aI E 12 Ki), (mso, aI E 12 So), (mst, aI E 12 St), (mpr, aI E 12 Pr), (mwa, aI E 2 Wa), (mor, aI E 6 (fun j => nI (ω j))), (mbo, aI E 6 b2)]) (st2 := fun _ => [.int 0]) (fun _ => rfl) (fun _ => rfl) (fun _ => rfl) (fun _ _ => ?_)
            refine V.istore (lv2 := [(6, .int 0), (0, .ref o), (1, .int xs), (2, .int mm), (3, .int y), (4, .int fw), (5, .int mx9)]) dX11_best_127 (by decide) rfl ?_
            refine V.goto (tgt := 52) dX11_best_129 (by decide) ?_
            refine V.locals [1, 2, 3, 4, 5, 6, 0] (by rfl) ?_
            exact ih_52 ω π _ q _ _ _ _ d9 hag hπm hinj (Or.inr ⟨rfl, by rw [rowsG_none h2] at hrun; exact hbs9.symm.trans hrun⟩) hrel (by omega)
          · skip
            refine V.callVp (As := []) (rest := []) [0, 10] (c_M_nextS E l L _ o mw mk mt mr mki mso mst mpr msh mwa mpu mtx mor mbo tO tVi tSm ts ma bg wr cl um tm N ω a (by omega) (fun i hi => by rw [hag i hi]; have := hπm i hi; omega) (h1)) rfl (by decide) mi_X11_nextOrder 0 rfl rfl w_960 w_962 wp_30 rfl rfl (Nat.le_of_ble_eq_true rfl) ⟨by decide, by decide⟩ ⟨by decide, by decide⟩ dX11_best_124 (vw2 := fun _ => [(o, ob 10 [.ref mw, .ref mk, .ref mt, .ref mr, .ref mki, .ref mso, .ref mst, .ref mpr, .ref msh, .ref mwa, .ref mpu, .ref mtx, .int ts, .int ma, .int bg, .int wr, .int cl, .int um, .ref mor, .ref mbo, .int (nI N), .ref tO, .ref tVi, .ref tSm, .int tm]), (msh, aI E 2 Sh), (mw, aI E 192 (mW (va_up ρ 1 (pw, u59)))), (mr, aI E 8 Re), (mt, aI E 8 Ti), (mki, aI E 12 Ki), (mso, aI E 12 So), (mst, aI E 12 St), (mpr, aI E 12 Pr), (mwa, aI E 2 Wa), (mor, aI E 6 (fun j => nI (a j))), (mbo, aI E 6 b2)]) (st2 := fun _ => [.int 1]) (fun _ => rfl) (fun _ => rfl) (fun _ => rfl) (fun _ _ => ?_)
            refine V.istore (lv2 := [(6, .int 1), (0, .ref o), (1, .int xs), (2, .int mm), (3, .int y), (4, .int fw), (5, .int mx9)]) dX11_best_127 (by decide) rfl ?_
            refine V.goto (tgt := 52) dX11_best_129 (by decide) ?_
            refine V.locals [1, 2, 3, 4, 5, 6, 0] (by rfl) ?_
            exact ih_52 a b _ q _ _ _ _ d9 h3 h4 (stepR_inj h2 hinj) (Or.inl ⟨rfl, endsG_s hen h2, by rw [rowsG_some h2] at hrun; rw [← hbs9]; exact hrun⟩) hrel (by omega)
        · skip
          have heach : eachP (m, sf, wa, ti, r) s N mm π := (each_z _ _ _ _ _).mpr ((each_ag hag).mp (Classical.byContradiction (fun hh => c2_62 (boolI_f hh))))
          have hu := hq_59 (boolI_t ((each_ag hag).mpr ((each_z _ _ _ _ _).mp heach)))
          have hwc : walkN (m, sf, wa, ti, r) ω (zSS s) N = walkN (m, sf, wa, ti, r) π (zSS s) N := walkN_congr (fun j hj => hag j hj)
          have hst : u59.2.2.1 = (dS (m, sf, wa, ti, r) s N π) := by rw [dS_z, hu, hwc]
          have hsm : u59.2.2.2.2.2.2.1 = (dM (m, sf, wa, ti, r) s N π) := by rw [dM_z, hu, hwc]
          have hbt : ∃ t, t ≤ 30 ∧ (dS (m, sf, wa, ti, r) s N π) = nI t := by obtain ⟨t, ht, e⟩ := walk_st (P := (m, sf, wa, ti, r)) hgS hm N hπm; exact ⟨t, by omega, by rw [dS_z]; exact e⟩
          refine V.aload_n dX11_best_65 0 rfl ?_
          refine V.getf 0 0 rfl fa_X11_7_10 rfl dX11_best_66 ?_
          refine V.bipush (v := 27) dX11_best_69 (by decide) ?_
          refine V.iald 2 rfl (vin rfl) dX11_best_71 ?_
          refine V.topc (v := ((mW (va_up ρ 1 (pw, u59))) 27)) (rfl) ?_
          refine V.topc (v := (dS (m, sf, wa, ti, r) s N π)) ((mW_st (i := 1) (va_up_self _ _ _)).trans hst) ?_
          refine V.iload dX11_best_72 4 rfl ?_
          refine V.icmp_lt (tgt := 101) dX11_best_74 (by decide) (fun c3_74 => ?_) (fun c3_74 => ?_)
          · skip
            refine V.aload_n dX11_best_101 0 rfl ?_
            refine V.getf 0 0 rfl fa_X11_7_10 rfl dX11_best_102 ?_
            refine V.bipush (v := 27) dX11_best_105 (by decide) ?_
            refine V.iald 2 rfl (vin rfl) dX11_best_107 ?_
            refine V.topc (v := ((mW (va_up ρ 1 (pw, u59))) 27)) (rfl) ?_
            refine V.topc (v := (dS (m, sf, wa, ti, r) s N π)) ((mW_st (i := 1) (va_up_self _ _ _)).trans hst) ?_
            refine V.istore (lv2 := [(4, .int (dS (m, sf, wa, ti, r) s N π)), (0, .ref o), (1, .int xs), (2, .int mm), (3, .int y), (5, .int mx9), (6, .int mo)]) dX11_best_108 (by decide) rfl ?_
            refine V.aload_n dX11_best_110 1 rfl ?_
            refine V.getf 0 0 rfl fa_X11_7_10 rfl dX11_best_111 ?_
            refine V.bipush (v := 31) dX11_best_114 (by decide) ?_
            refine V.iald 2 rfl (vin rfl) dX11_best_116 ?_
            refine V.topc (v := ((mW (va_up ρ 1 (pw, u59))) 31)) (rfl) ?_
            refine V.topc (v := (dM (m, sf, wa, ti, r) s N π)) ((mW_sm (i := 1) (va_up_self _ _ _)).trans hsm) ?_
            refine V.istore (lv2 := [(5, .int (dM (m, sf, wa, ti, r) s N π)), (4, .int (dS (m, sf, wa, ti, r) s N π)), (0, .ref o), (1, .int xs), (2, .int mm), (3, .int y), (6, .int mo)]) dX11_best_117 (by decide) rfl ?_
            refine V.aload_n dX11_best_119 2 rfl ?_
            refine V.callVp (As := []) (rest := []) [0, 10, 11] (c_M_keepOrder E l L _ o mw mk mt mr mki mso mst mpr msh mwa mpu mtx mor mbo tO tVi tSm ts ma bg wr cl um tm N ω b2 (by omega)) rfl (by decide) mi_X11_keepOrder 0 rfl rfl w_956 w_958 wp_29 rfl rfl (Nat.le_of_ble_eq_true rfl) ⟨by decide, by decide⟩ ⟨by decide, by decide⟩ dX11_best_120 (vw2 := fun _ => [(o, ob 10 [.ref mw, .ref mk, .ref mt, .ref mr, .ref mki, .ref mso, .ref mst, .ref mpr, .ref msh, .ref mwa, .ref mpu, .ref mtx, .int ts, .int ma, .int bg, .int wr, .int cl, .int um, .ref mor, .ref mbo, .int (nI N), .ref tO, .ref tVi, .ref tSm, .int tm]), (msh, aI E 2 Sh), (mw, aI E 192 (mW (va_up ρ 1 (pw, u59)))), (mr, aI E 8 Re), (mt, aI E 8 Ti), (mki, aI E 12 Ki), (mso, aI E 12 So), (mst, aI E 12 St), (mpr, aI E 12 Pr), (mwa, aI E 2 Wa), (mor, aI E 6 (fun j => nI (ω j))), (mbo, aI E 6 (kpO N ω b2))]) (st2 := fun _ => []) (fun _ => rfl) (fun _ => rfl) (fun _ => rfl) (fun _ _ => ?_)
            have hb : ((dS (m, sf, wa, ti, r) s N π) < fw ∨ ((dS (m, sf, wa, ti, r) s N π) = fw ∧ mx9 < (dM (m, sf, wa, ti, r) s N π))) := Or.inl c3_74
            have hbs9 : bestStep (m, sf, wa, ti, r) s N mm q π = ((1 : Int32), (dS (m, sf, wa, ti, r) s N π), (dM (m, sf, wa, ti, r) s N π), fun j => nI (π j)) := cG_t ⟨(bRel_better hrel hbt).mpr hb, heach⟩
            refine V.aload_n dX11_best_123 2 rfl ?_
            rcases stepR_rel (M := m) (σ := id) rel_id hag hπm with ⟨h1, h2⟩ | ⟨a, b, h1, h2, h3, h4⟩
            · skip
              refine V.callVp (As := []) (rest := []) [0, 10] (c_M_nextN E l L _ o mw mk mt mr mki mso mst mpr msh mwa mpu mtx mor mbo tO tVi tSm ts ma bg wr cl um tm N ω (by omega) (fun i hi => by rw [hag i hi]; have := hπm i hi; omega) (h1)) rfl (by decide) mi_X11_nextOrder 0 rfl rfl w_960 w_962 wp_30 rfl rfl (Nat.le_of_ble_eq_true rfl) ⟨by decide, by decide⟩ ⟨by decide, by decide⟩ dX11_best_124 (vw2 := fun _ => [(o, ob 10 [.ref mw, .ref mk, .ref mt, .ref mr, .ref mki, .ref mso, .ref mst, .ref mpr, .ref msh, .ref mwa, .ref mpu, .ref mtx, .int ts, .int ma, .int bg, .int wr, .int cl, .int um, .ref mor, .ref mbo, .int (nI N), .ref tO, .ref tVi, .ref tSm, .int tm]), (msh, aI E 2 Sh), (mw, aI E 192 (mW (va_up ρ 1 (pw, u59)))), (mr, aI E 8 Re), (mt, aI E 8 Ti), (mki, aI E 12 Ki), (mso, aI E 12 So), (mst, aI E 12 St), (mpr, aI E 12 Pr), (mwa, aI E 2 Wa), (mor, aI E 6 (fun j => nI (ω j))), (mbo, aI E 6 (kpO N ω b2))]) (st2 := fun _ => [.int 0]) (fun _ => rfl) (fun _ => rfl) (fun _ => rfl) (fun _ _ => ?_)
              refine V.istore (lv2 := [(6, .int 0), (5, .int (dM (m, sf, wa, ti, r) s N π)), (4, .int (dS (m, sf, wa, ti, r) s N π)), (0, .ref o), (1, .int xs), (2, .int mm), (3, .int y)]) dX11_best_127 (by decide) rfl ?_
              refine V.goto (tgt := 52) dX11_best_129 (by decide) ?_
              refine V.locals [3, 4, 5, 6, 2, 1, 0] (by rfl) ?_
              exact ih_52 ω π _ ((1 : Int32), (dS (m, sf, wa, ti, r) s N π), (dM (m, sf, wa, ti, r) s N π), fun j => nI (π j)) _ _ _ _ d9 hag hπm hinj (Or.inr ⟨rfl, by rw [rowsG_none h2] at hrun; exact hbs9.symm.trans hrun⟩) (Or.inr ⟨rfl, rfl, rfl, hbt, fun j hj => (if_pos hj).trans (congrArg nI (hag j hj))⟩) (by omega)
            · skip
              refine V.callVp (As := []) (rest := []) [0, 10] (c_M_nextS E l L _ o mw mk mt mr mki mso mst mpr msh mwa mpu mtx mor mbo tO tVi tSm ts ma bg wr cl um tm N ω a (by omega) (fun i hi => by rw [hag i hi]; have := hπm i hi; omega) (h1)) rfl (by decide) mi_X11_nextOrder 0 rfl rfl w_960 w_962 wp_30 rfl rfl (Nat.le_of_ble_eq_true rfl) ⟨by decide, by decide⟩ ⟨by decide, by decide⟩ dX11_best_124 (vw2 := fun _ => [(o, ob 10 [.ref mw, .ref mk, .ref mt, .ref mr, .ref mki, .ref mso, .ref mst, .ref mpr, .ref msh, .ref mwa, .ref mpu, .ref mtx, .int ts, .int ma, .int bg, .int wr, .int cl, .int um, .ref mor, .ref mbo, .int (nI N), .ref tO, .ref tVi, .ref tSm, .int tm]), (msh, aI E 2 Sh), (mw, aI E 192 (mW (va_up ρ 1 (pw, u59)))), (mr, aI E 8 Re), (mt, aI E 8 Ti), (mki, aI E 12 Ki), (mso, aI E 12 So), (mst, aI E 12 St), (mpr, aI E 12 Pr), (mwa, aI E 2 Wa), (mor, aI E 6 (fun j => nI (a j))), (mbo, aI E 6 (kpO N ω b2))]) (st2 := fun _ => [.int 1]) (fun _ => rfl) (fun _ => rfl) (fun _ => rfl) (fun _ _ => ?_)
              refine V.istore (lv2 := [(6, .int 1), (5, .int (dM (m, sf, wa, ti, r) s N π)), (4, .int (dS (m, sf, wa, ti, r) s N π)), (0, .ref o), (1, .int xs), (2, .int mm), (3, .int y)]) dX11_best_127 (by decide) rfl ?_
              refine V.goto (tgt := 52) dX11_best_129 (by decide) ?_
              refine V.locals [3, 4, 5, 6, 2, 1, 0] (by rfl) ?_
              exact ih_52 a b _ ((1 : Int32), (dS (m, sf, wa, ti, r) s N π), (dM (m, sf, wa, ti, r) s N π), fun j => nI (π j)) _ _ _ _ d9 h3 h4 (stepR_inj h2 hinj) (Or.inl ⟨rfl, endsG_s hen h2, by rw [rowsG_some h2] at hrun; rw [← hbs9]; exact hrun⟩) (Or.inr ⟨rfl, rfl, rfl, hbt, fun j hj => (if_pos hj).trans (congrArg nI (hag j hj))⟩) (by omega)
          · skip
            refine V.aload_n dX11_best_77 0 rfl ?_
            refine V.getf 0 0 rfl fa_X11_7_10 rfl dX11_best_78 ?_
            refine V.bipush (v := 27) dX11_best_81 (by decide) ?_
            refine V.iald 2 rfl (vin rfl) dX11_best_83 ?_
            refine V.topc (v := ((mW (va_up ρ 1 (pw, u59))) 27)) (rfl) ?_
            refine V.topc (v := (dS (m, sf, wa, ti, r) s N π)) ((mW_st (i := 1) (va_up_self _ _ _)).trans hst) ?_
            refine V.iload dX11_best_84 4 rfl ?_
            refine V.icmp_ne (tgt := 123) dX11_best_86 (by decide) (fun c4_86 => ?_) (fun c4_86 => ?_)
            · skip
              have hnb : ¬ ((dS (m, sf, wa, ti, r) s N π) < fw ∨ ((dS (m, sf, wa, ti, r) s N π) = fw ∧ mx9 < (dM (m, sf, wa, ti, r) s N π))) := fun hh => hh.elim c3_74 (fun hh => c4_86 hh.1)
              have hbs9 : bestStep (m, sf, wa, ti, r) s N mm q π = q := cG_f (fun hh => hnb ((bRel_better hrel hbt).mp hh.1))
              refine V.aload_n dX11_best_123 0 rfl ?_
              rcases stepR_rel (M := m) (σ := id) rel_id hag hπm with ⟨h1, h2⟩ | ⟨a, b, h1, h2, h3, h4⟩
              · skip
                refine V.callVp (As := []) (rest := []) [0, 10] (c_M_nextN E l L _ o mw mk mt mr mki mso mst mpr msh mwa mpu mtx mor mbo tO tVi tSm ts ma bg wr cl um tm N ω (by omega) (fun i hi => by rw [hag i hi]; have := hπm i hi; omega) (h1)) rfl (by decide) mi_X11_nextOrder 0 rfl rfl w_960 w_962 wp_30 rfl rfl (Nat.le_of_ble_eq_true rfl) ⟨by decide, by decide⟩ ⟨by decide, by decide⟩ dX11_best_124 (vw2 := fun _ => [(o, ob 10 [.ref mw, .ref mk, .ref mt, .ref mr, .ref mki, .ref mso, .ref mst, .ref mpr, .ref msh, .ref mwa, .ref mpu, .ref mtx, .int ts, .int ma, .int bg, .int wr, .int cl, .int um, .ref mor, .ref mbo, .int (nI N), .ref tO, .ref tVi, .ref tSm, .int tm]), (msh, aI E 2 Sh), (mw, aI E 192 (mW (va_up ρ 1 (pw, u59)))), (mr, aI E 8 Re), (mt, aI E 8 Ti), (mki, aI E 12 Ki), (mso, aI E 12 So), (mst, aI E 12 St), (mpr, aI E 12 Pr), (mwa, aI E 2 Wa), (mor, aI E 6 (fun j => nI (ω j))), (mbo, aI E 6 b2)]) (st2 := fun _ => [.int 0]) (fun _ => rfl) (fun _ => rfl) (fun _ => rfl) (fun _ _ => ?_)
                refine V.istore (lv2 := [(6, .int 0), (0, .ref o), (1, .int xs), (2, .int mm), (3, .int y), (4, .int fw), (5, .int mx9)]) dX11_best_127 (by decide) rfl ?_
                refine V.goto (tgt := 52) dX11_best_129 (by decide) ?_
                refine V.locals [1, 2, 3, 4, 5, 6, 0] (by rfl) ?_
                exact ih_52 ω π _ q _ _ _ _ d9 hag hπm hinj (Or.inr ⟨rfl, by rw [rowsG_none h2] at hrun; exact hbs9.symm.trans hrun⟩) hrel (by omega)
              · skip
                refine V.callVp (As := []) (rest := []) [0, 10] (c_M_nextS E l L _ o mw mk mt mr mki mso mst mpr msh mwa mpu mtx mor mbo tO tVi tSm ts ma bg wr cl um tm N ω a (by omega) (fun i hi => by rw [hag i hi]; have := hπm i hi; omega) (h1)) rfl (by decide) mi_X11_nextOrder 0 rfl rfl w_960 w_962 wp_30 rfl rfl (Nat.le_of_ble_eq_true rfl) ⟨by decide, by decide⟩ ⟨by decide, by decide⟩ dX11_best_124 (vw2 := fun _ => [(o, ob 10 [.ref mw, .ref mk, .ref mt, .ref mr, .ref mki, .ref mso, .ref mst, .ref mpr, .ref msh, .ref mwa, .ref mpu, .ref mtx, .int ts, .int ma, .int bg, .int wr, .int cl, .int um, .ref mor, .ref mbo, .int (nI N), .ref tO, .ref tVi, .ref tSm, .int tm]), (msh, aI E 2 Sh), (mw, aI E 192 (mW (va_up ρ 1 (pw, u59)))), (mr, aI E 8 Re), (mt, aI E 8 Ti), (mki, aI E 12 Ki), (mso, aI E 12 So), (mst, aI E 12 St), (mpr, aI E 12 Pr), (mwa, aI E 2 Wa), (mor, aI E 6 (fun j => nI (a j))), (mbo, aI E 6 b2)]) (st2 := fun _ => [.int 1]) (fun _ => rfl) (fun _ => rfl) (fun _ => rfl) (fun _ _ => ?_)
                refine V.istore (lv2 := [(6, .int 1), (0, .ref o), (1, .int xs), (2, .int mm), (3, .int y), (4, .int fw), (5, .int mx9)]) dX11_best_127 (by decide) rfl ?_
                refine V.goto (tgt := 52) dX11_best_129 (by decide) ?_
                refine V.locals [1, 2, 3, 4, 5, 6, 0] (by rfl) ?_
                exact ih_52 a b _ q _ _ _ _ d9 h3 h4 (stepR_inj h2 hinj) (Or.inl ⟨rfl, endsG_s hen h2, by rw [rowsG_some h2] at hrun; rw [← hbs9]; exact hrun⟩) hrel (by omega)
            · skip
              refine V.aload_n dX11_best_89 0 rfl ?_
              refine V.getf 0 0 rfl fa_X11_7_10 rfl dX11_best_90 ?_
              refine V.bipush (v := 31) dX11_best_93 (by decide) ?_
              refine V.iald 2 rfl (vin rfl) dX11_best_95 ?_
              refine V.topc (v := ((mW (va_up ρ 1 (pw, u59))) 31)) (rfl) ?_
              refine V.topc (v := (dM (m, sf, wa, ti, r) s N π)) ((mW_sm (i := 1) (va_up_self _ _ _)).trans hsm) ?_
              refine V.iload dX11_best_96 5 rfl ?_
              refine V.icmp_le (tgt := 123) dX11_best_98 (by decide) (fun c5_98 => ?_) (fun c5_98 => ?_)
              · skip
                have hnb : ¬ ((dS (m, sf, wa, ti, r) s N π) < fw ∨ ((dS (m, sf, wa, ti, r) s N π) = fw ∧ mx9 < (dM (m, sf, wa, ti, r) s N π))) := fun hh => hh.elim c3_74 (fun hh => absurd hh.2 (Int32.not_lt.mpr c5_98))
                have hbs9 : bestStep (m, sf, wa, ti, r) s N mm q π = q := cG_f (fun hh => hnb ((bRel_better hrel hbt).mp hh.1))
                refine V.aload_n dX11_best_123 0 rfl ?_
                rcases stepR_rel (M := m) (σ := id) rel_id hag hπm with ⟨h1, h2⟩ | ⟨a, b, h1, h2, h3, h4⟩
                · skip
                  refine V.callVp (As := []) (rest := []) [0, 10] (c_M_nextN E l L _ o mw mk mt mr mki mso mst mpr msh mwa mpu mtx mor mbo tO tVi tSm ts ma bg wr cl um tm N ω (by omega) (fun i hi => by rw [hag i hi]; have := hπm i hi; omega) (h1)) rfl (by decide) mi_X11_nextOrder 0 rfl rfl w_960 w_962 wp_30 rfl rfl (Nat.le_of_ble_eq_true rfl) ⟨by decide, by decide⟩ ⟨by decide, by decide⟩ dX11_best_124 (vw2 := fun _ => [(o, ob 10 [.ref mw, .ref mk, .ref mt, .ref mr, .ref mki, .ref mso, .ref mst, .ref mpr, .ref msh, .ref mwa, .ref mpu, .ref mtx, .int ts, .int ma, .int bg, .int wr, .int cl, .int um, .ref mor, .ref mbo, .int (nI N), .ref tO, .ref tVi, .ref tSm, .int tm]), (msh, aI E 2 Sh), (mw, aI E 192 (mW (va_up ρ 1 (pw, u59)))), (mr, aI E 8 Re), (mt, aI E 8 Ti), (mki, aI E 12 Ki), (mso, aI E 12 So), (mst, aI E 12 St), (mpr, aI E 12 Pr), (mwa, aI E 2 Wa), (mor, aI E 6 (fun j => nI (ω j))), (mbo, aI E 6 b2)]) (st2 := fun _ => [.int 0]) (fun _ => rfl) (fun _ => rfl) (fun _ => rfl) (fun _ _ => ?_)
                  refine V.istore (lv2 := [(6, .int 0), (0, .ref o), (1, .int xs), (2, .int mm), (3, .int y), (4, .int fw), (5, .int mx9)]) dX11_best_127 (by decide) rfl ?_
                  refine V.goto (tgt := 52) dX11_best_129 (by decide) ?_
                  refine V.locals [1, 2, 3, 4, 5, 6, 0] (by rfl) ?_
                  exact ih_52 ω π _ q _ _ _ _ d9 hag hπm hinj (Or.inr ⟨rfl, by rw [rowsG_none h2] at hrun; exact hbs9.symm.trans hrun⟩) hrel (by omega)
                · skip
                  refine V.callVp (As := []) (rest := []) [0, 10] (c_M_nextS E l L _ o mw mk mt mr mki mso mst mpr msh mwa mpu mtx mor mbo tO tVi tSm ts ma bg wr cl um tm N ω a (by omega) (fun i hi => by rw [hag i hi]; have := hπm i hi; omega) (h1)) rfl (by decide) mi_X11_nextOrder 0 rfl rfl w_960 w_962 wp_30 rfl rfl (Nat.le_of_ble_eq_true rfl) ⟨by decide, by decide⟩ ⟨by decide, by decide⟩ dX11_best_124 (vw2 := fun _ => [(o, ob 10 [.ref mw, .ref mk, .ref mt, .ref mr, .ref mki, .ref mso, .ref mst, .ref mpr, .ref msh, .ref mwa, .ref mpu, .ref mtx, .int ts, .int ma, .int bg, .int wr, .int cl, .int um, .ref mor, .ref mbo, .int (nI N), .ref tO, .ref tVi, .ref tSm, .int tm]), (msh, aI E 2 Sh), (mw, aI E 192 (mW (va_up ρ 1 (pw, u59)))), (mr, aI E 8 Re), (mt, aI E 8 Ti), (mki, aI E 12 Ki), (mso, aI E 12 So), (mst, aI E 12 St), (mpr, aI E 12 Pr), (mwa, aI E 2 Wa), (mor, aI E 6 (fun j => nI (a j))), (mbo, aI E 6 b2)]) (st2 := fun _ => [.int 1]) (fun _ => rfl) (fun _ => rfl) (fun _ => rfl) (fun _ _ => ?_)
                  refine V.istore (lv2 := [(6, .int 1), (0, .ref o), (1, .int xs), (2, .int mm), (3, .int y), (4, .int fw), (5, .int mx9)]) dX11_best_127 (by decide) rfl ?_
                  refine V.goto (tgt := 52) dX11_best_129 (by decide) ?_
                  refine V.locals [1, 2, 3, 4, 5, 6, 0] (by rfl) ?_
                  exact ih_52 a b _ q _ _ _ _ d9 h3 h4 (stepR_inj h2 hinj) (Or.inl ⟨rfl, endsG_s hen h2, by rw [rowsG_some h2] at hrun; rw [← hbs9]; exact hrun⟩) hrel (by omega)
              · skip
                refine V.aload_n dX11_best_101 0 rfl ?_
                refine V.getf 0 0 rfl fa_X11_7_10 rfl dX11_best_102 ?_
                refine V.bipush (v := 27) dX11_best_105 (by decide) ?_
                refine V.iald 2 rfl (vin rfl) dX11_best_107 ?_
                refine V.topc (v := ((mW (va_up ρ 1 (pw, u59))) 27)) (rfl) ?_
                refine V.topc (v := (dS (m, sf, wa, ti, r) s N π)) ((mW_st (i := 1) (va_up_self _ _ _)).trans hst) ?_
                refine V.istore (lv2 := [(4, .int (dS (m, sf, wa, ti, r) s N π)), (0, .ref o), (1, .int xs), (2, .int mm), (3, .int y), (5, .int mx9), (6, .int mo)]) dX11_best_108 (by decide) rfl ?_
                refine V.aload_n dX11_best_110 1 rfl ?_
                refine V.getf 0 0 rfl fa_X11_7_10 rfl dX11_best_111 ?_
                refine V.bipush (v := 31) dX11_best_114 (by decide) ?_
                refine V.iald 2 rfl (vin rfl) dX11_best_116 ?_
                refine V.topc (v := ((mW (va_up ρ 1 (pw, u59))) 31)) (rfl) ?_
                refine V.topc (v := (dM (m, sf, wa, ti, r) s N π)) ((mW_sm (i := 1) (va_up_self _ _ _)).trans hsm) ?_
                refine V.istore (lv2 := [(5, .int (dM (m, sf, wa, ti, r) s N π)), (4, .int (dS (m, sf, wa, ti, r) s N π)), (0, .ref o), (1, .int xs), (2, .int mm), (3, .int y), (6, .int mo)]) dX11_best_117 (by decide) rfl ?_
                refine V.aload_n dX11_best_119 2 rfl ?_
                refine V.callVp (As := []) (rest := []) [0, 10, 11] (c_M_keepOrder E l L _ o mw mk mt mr mki mso mst mpr msh mwa mpu mtx mor mbo tO tVi tSm ts ma bg wr cl um tm N ω b2 (by omega)) rfl (by decide) mi_X11_keepOrder 0 rfl rfl w_956 w_958 wp_29 rfl rfl (Nat.le_of_ble_eq_true rfl) ⟨by decide, by decide⟩ ⟨by decide, by decide⟩ dX11_best_120 (vw2 := fun _ => [(o, ob 10 [.ref mw, .ref mk, .ref mt, .ref mr, .ref mki, .ref mso, .ref mst, .ref mpr, .ref msh, .ref mwa, .ref mpu, .ref mtx, .int ts, .int ma, .int bg, .int wr, .int cl, .int um, .ref mor, .ref mbo, .int (nI N), .ref tO, .ref tVi, .ref tSm, .int tm]), (msh, aI E 2 Sh), (mw, aI E 192 (mW (va_up ρ 1 (pw, u59)))), (mr, aI E 8 Re), (mt, aI E 8 Ti), (mki, aI E 12 Ki), (mso, aI E 12 So), (mst, aI E 12 St), (mpr, aI E 12 Pr), (mwa, aI E 2 Wa), (mor, aI E 6 (fun j => nI (ω j))), (mbo, aI E 6 (kpO N ω b2))]) (st2 := fun _ => []) (fun _ => rfl) (fun _ => rfl) (fun _ => rfl) (fun _ _ => ?_)
                have hb : ((dS (m, sf, wa, ti, r) s N π) < fw ∨ ((dS (m, sf, wa, ti, r) s N π) = fw ∧ mx9 < (dM (m, sf, wa, ti, r) s N π))) := Or.inr ⟨c4_86, Int32.not_le.mp c5_98⟩
                have hbs9 : bestStep (m, sf, wa, ti, r) s N mm q π = ((1 : Int32), (dS (m, sf, wa, ti, r) s N π), (dM (m, sf, wa, ti, r) s N π), fun j => nI (π j)) := cG_t ⟨(bRel_better hrel hbt).mpr hb, heach⟩
                refine V.aload_n dX11_best_123 2 rfl ?_
                rcases stepR_rel (M := m) (σ := id) rel_id hag hπm with ⟨h1, h2⟩ | ⟨a, b, h1, h2, h3, h4⟩
                · skip
                  refine V.callVp (As := []) (rest := []) [0, 10] (c_M_nextN E l L _ o mw mk mt mr mki mso mst mpr msh mwa mpu mtx mor mbo tO tVi tSm ts ma bg wr cl um tm N ω (by omega) (fun i hi => by rw [hag i hi]; have := hπm i hi; omega) (h1)) rfl (by decide) mi_X11_nextOrder 0 rfl rfl w_960 w_962 wp_30 rfl rfl (Nat.le_of_ble_eq_true rfl) ⟨by decide, by decide⟩ ⟨by decide, by decide⟩ dX11_best_124 (vw2 := fun _ => [(o, ob 10 [.ref mw, .ref mk, .ref mt, .ref mr, .ref mki, .ref mso, .ref mst, .ref mpr, .ref msh, .ref mwa, .ref mpu, .ref mtx, .int ts, .int ma, .int bg, .int wr, .int cl, .int um, .ref mor, .ref mbo, .int (nI N), .ref tO, .ref tVi, .ref tSm, .int tm]), (msh, aI E 2 Sh), (mw, aI E 192 (mW (va_up ρ 1 (pw, u59)))), (mr, aI E 8 Re), (mt, aI E 8 Ti), (mki, aI E 12 Ki), (mso, aI E 12 So), (mst, aI E 12 St), (mpr, aI E 12 Pr), (mwa, aI E 2 Wa), (mor, aI E 6 (fun j => nI (ω j))), (mbo, aI E 6 (kpO N ω b2))]) (st2 := fun _ => [.int 0]) (fun _ => rfl) (fun _ => rfl) (fun _ => rfl) (fun _ _ => ?_)
                  refine V.istore (lv2 := [(6, .int 0), (5, .int (dM (m, sf, wa, ti, r) s N π)), (4, .int (dS (m, sf, wa, ti, r) s N π)), (0, .ref o), (1, .int xs), (2, .int mm), (3, .int y)]) dX11_best_127 (by decide) rfl ?_
                  refine V.goto (tgt := 52) dX11_best_129 (by decide) ?_
                  refine V.locals [3, 4, 5, 6, 2, 1, 0] (by rfl) ?_
                  exact ih_52 ω π _ ((1 : Int32), (dS (m, sf, wa, ti, r) s N π), (dM (m, sf, wa, ti, r) s N π), fun j => nI (π j)) _ _ _ _ d9 hag hπm hinj (Or.inr ⟨rfl, by rw [rowsG_none h2] at hrun; exact hbs9.symm.trans hrun⟩) (Or.inr ⟨rfl, rfl, rfl, hbt, fun j hj => (if_pos hj).trans (congrArg nI (hag j hj))⟩) (by omega)
                · skip
                  refine V.callVp (As := []) (rest := []) [0, 10] (c_M_nextS E l L _ o mw mk mt mr mki mso mst mpr msh mwa mpu mtx mor mbo tO tVi tSm ts ma bg wr cl um tm N ω a (by omega) (fun i hi => by rw [hag i hi]; have := hπm i hi; omega) (h1)) rfl (by decide) mi_X11_nextOrder 0 rfl rfl w_960 w_962 wp_30 rfl rfl (Nat.le_of_ble_eq_true rfl) ⟨by decide, by decide⟩ ⟨by decide, by decide⟩ dX11_best_124 (vw2 := fun _ => [(o, ob 10 [.ref mw, .ref mk, .ref mt, .ref mr, .ref mki, .ref mso, .ref mst, .ref mpr, .ref msh, .ref mwa, .ref mpu, .ref mtx, .int ts, .int ma, .int bg, .int wr, .int cl, .int um, .ref mor, .ref mbo, .int (nI N), .ref tO, .ref tVi, .ref tSm, .int tm]), (msh, aI E 2 Sh), (mw, aI E 192 (mW (va_up ρ 1 (pw, u59)))), (mr, aI E 8 Re), (mt, aI E 8 Ti), (mki, aI E 12 Ki), (mso, aI E 12 So), (mst, aI E 12 St), (mpr, aI E 12 Pr), (mwa, aI E 2 Wa), (mor, aI E 6 (fun j => nI (a j))), (mbo, aI E 6 (kpO N ω b2))]) (st2 := fun _ => [.int 1]) (fun _ => rfl) (fun _ => rfl) (fun _ => rfl) (fun _ _ => ?_)
                  refine V.istore (lv2 := [(6, .int 1), (5, .int (dM (m, sf, wa, ti, r) s N π)), (4, .int (dS (m, sf, wa, ti, r) s N π)), (0, .ref o), (1, .int xs), (2, .int mm), (3, .int y)]) dX11_best_127 (by decide) rfl ?_
                  refine V.goto (tgt := 52) dX11_best_129 (by decide) ?_
                  refine V.locals [3, 4, 5, 6, 2, 1, 0] (by rfl) ?_
                  exact ih_52 a b _ ((1 : Int32), (dS (m, sf, wa, ti, r) s N π), (dM (m, sf, wa, ti, r) s N π), fun j => nI (π j)) _ _ _ _ d9 h3 h4 (stepR_inj h2 hinj) (Or.inl ⟨rfl, endsG_s hen h2, by rw [rowsG_some h2] at hrun; rw [← hbs9]; exact hrun⟩) (Or.inr ⟨rfl, rfl, rfl, hbt, fun j hj => (if_pos hj).trans (congrArg nI (hag j hj))⟩) (by omega)
  exact lp_52 (721) ω1 π1 (ρ 1) (0, bs, bm, F0) 99999999 0 1 bo 720 hag0 hπ0 hinj0 (Or.inl ⟨rfl, hend0, rfl⟩) (Or.inl ⟨rfl, rfl⟩) (by omega)

set_option maxHeartbeats 4000000 in
set_option maxRecDepth 100000 in
theorem c_M_best (E : vEnv) (l : Launch) (L : List Nat) (h : Nat → va_E) (o : Nat) (mw : Nat) (mk : Nat) (mt : Nat) (mr : Nat) (mki : Nat) (mso : Nat) (mst : Nat) (mpr : Nat) (msh : Nat) (mwa : Nat) (mpu : Nat) (mtx : Nat) (mor : Nat) (mbo : Nat) (tO : Nat) (tVi : Nat) (tSm : Nat) (ts : Int32) (ma : Int32) (bg : Int32) (wr : Int32) (cl : Int32) (um : Int32) (tm : Int32) (ρ : Nat → MR) (pw : Nat → Int32) (s : NS) (Re : Nat → Int32) (r : Nat → Int32) (Ti : Nat → Int32) (ti : Nat → Int32) (Ki : Nat → Int32) (So : Nat → Int32) (St : Nat → Int32) (Pr : Nat → Int32) (Wa : Nat → Int32) (m : Nat) (sf : Nat → SHP) (wa : Int32) (Sh : Nat → Int32) (ω0 : Nat → Nat) (ρ0 : Nat → Nat) (mn : Int32) (bs : Int32) (bm : Int32) (F0 : Nat → Int32) (bo : Nat → Int32) (xs : Int32) (mm : Int32) (wh : Nat) (hR : ρ 0 = (pw, s)) (hTab : TabS m sf Ki So St Pr) (hm : m ≤ 6) (eW : Wa 0 = wa) (hgR : gR r) (eR : ∀ j, j < 4 → Re j = r j) (hgI : gI ti) (eI : ∀ j, j < 4 → Ti j = ti j) (eM : Sh 0 = nI m) (ePl : ∀ k_, k_ < m → pw k_ = placeI m k_ s.2.2.2.2.2.2.2) (hgS : gS s) (hx : withinI xs 0 (nI (2 ^ m - 1)) = 1) (hmm : withinI mm 0 30 = 1) (hy : wh ≤ 7) (hres : (List.foldl (bestStep (m, sf, wa, ti, r) s (fillW xs ρ0 6).1 mm) (0, bs, bm, F0) (rowsG (fillW xs ρ0 6).1 720 (fillW xs ρ0 6).2)).1 = 1) : CT E l yX11_best cX11_best 7 (some (.int)) 4 0 0 L h [(o, ob 10 [.ref mw, .ref mk, .ref mt, .ref mr, .ref mki, .ref mso, .ref mst, .ref mpr, .ref msh, .ref mwa, .ref mpu, .ref mtx, .int ts, .int ma, .int bg, .int wr, .int cl, .int um, .ref mor, .ref mbo, .int mn, .ref tO, .ref tVi, .ref tSm, .int tm]), (msh, aI E 2 Sh), (mw, aI E 192 (mW ρ)), (mr, aI E 8 Re), (mt, aI E 8 Ti), (mki, aI E 12 Ki), (mso, aI E 12 So), (mst, aI E 12 St), (mpr, aI E 12 Pr), (mwa, aI E 2 Wa), (mor, aI E 6 (fun j => nI (ω0 j))), (mbo, aI E 6 bo)] [.ref o, .int xs, .int mm, .int (nI wh)] (qP L h (fun (u : MR × (Nat → Nat) × (Nat → Int32)) => [(o, ob 10 [.ref mw, .ref mk, .ref mt, .ref mr, .ref mki, .ref mso, .ref mst, .ref mpr, .ref msh, .ref mwa, .ref mpu, .ref mtx, .int ts, .int ma, .int bg, .int wr, .int cl, .int um, .ref mor, .ref mbo, .int (nI (fillW xs ρ0 6).1), .ref tO, .ref tVi, .ref tSm, .int tm]), (msh, aI E 2 Sh), (mw, aI E 192 (mW (va_up ρ 1 u.1))), (mr, aI E 8 Re), (mt, aI E 8 Ti), (mki, aI E 12 Ki), (mso, aI E 12 So), (mst, aI E 12 St), (mpr, aI E 12 Pr), (mwa, aI E 2 Wa), (mor, aI E 6 (fun j => nI (u.2.1 j))), (mbo, aI E 6 u.2.2)]) (fun u => some (.int (bestW wh (fillW xs ρ0 6).1 (List.foldl (bestStep (m, sf, wa, ti, r) s (fillW xs ρ0 6).1 mm) (0, bs, bm, F0) (rowsG (fillW xs ρ0 6).1 720 (fillW xs ρ0 6).2))))) (fun u => True)) := by
  refine CT.ofV (by decide +kernel) (Nat.le_of_ble_eq_true rfl) ?_
  obtain ⟨Z, hZ⟩ : ∃ Z, Z = mZ E (qP L h (fun (u : MR × (Nat → Nat) × (Nat → Int32)) => [(o, ob 10 [.ref mw, .ref mk, .ref mt, .ref mr, .ref mki, .ref mso, .ref mst, .ref mpr, .ref msh, .ref mwa, .ref mpu, .ref mtx, .int ts, .int ma, .int bg, .int wr, .int cl, .int um, .ref mor, .ref mbo, .int (nI (fillW xs ρ0 6).1), .ref tO, .ref tVi, .ref tSm, .int tm]), (msh, aI E 2 Sh), (mw, aI E 192 (mW (va_up ρ 1 u.1))), (mr, aI E 8 Re), (mt, aI E 8 Ti), (mki, aI E 12 Ki), (mso, aI E 12 So), (mst, aI E 12 St), (mpr, aI E 12 Pr), (mwa, aI E 2 Wa), (mor, aI E 6 (fun j => nI (u.2.1 j))), (mbo, aI E 6 u.2.2)]) (fun u => some (.int (bestW wh (fillW xs ρ0 6).1 (List.foldl (bestStep (m, sf, wa, ti, r) s (fillW xs ρ0 6).1 mm) (0, bs, bm, F0) (rowsG (fillW xs ρ0 6).1 720 (fillW xs ρ0 6).2))))) (fun u => True)) 0 0 := ⟨_, rfl⟩
  rw [← hZ]
  refine V.locals2 (lv2 := [(0, .ref o), (1, .int xs), (2, .int mm), (3, .int (nI wh))]) rfl ?_
  refine V.aload_n dX11_best_0 0 rfl ?_
  refine V.iload_n dX11_best_1 1 rfl ?_
  refine V.callVp (As := [.int xs]) (rest := []) [0, 1] (c_M_isSet E l L _ o mw mk mt mr mki mso mst mpr msh mwa mpu mtx mor mbo tO tVi tSm ts ma bg wr cl um mn tm Sh m xs (eM) (hm)) rfl (by decide) mi_X11_isSet 0 rfl rfl w_941 w_943 wp_26 rfl rfl (Nat.le_of_ble_eq_true rfl) ⟨by decide, by decide⟩ ⟨by decide, by decide⟩ dX11_best_2 (vw2 := fun _ => [(o, ob 10 [.ref mw, .ref mk, .ref mt, .ref mr, .ref mki, .ref mso, .ref mst, .ref mpr, .ref msh, .ref mwa, .ref mpu, .ref mtx, .int ts, .int ma, .int bg, .int wr, .int cl, .int um, .ref mor, .ref mbo, .int mn, .ref tO, .ref tVi, .ref tSm, .int tm]), (msh, aI E 2 Sh), (mw, aI E 192 (mW ρ)), (mr, aI E 8 Re), (mt, aI E 8 Ti), (mki, aI E 12 Ki), (mso, aI E 12 So), (mst, aI E 12 St), (mpr, aI E 12 Pr), (mwa, aI E 2 Wa), (mor, aI E 6 (fun j => nI (ω0 j))), (mbo, aI E 6 bo)]) (st2 := fun _ => [.int (withinI xs 0 (nI (2 ^ m - 1)))]) (fun _ => rfl) (fun _ => rfl) (fun _ => rfl) (fun _ _ => ?_)
  refine V.topc (v := 1) (hx) ?_
  refine V.if_ne (tgt := 11) dX11_best_5 (by decide) (fun _ => ?_) (fun hc => absurd hc (by decide))
  refine V.iload_n dX11_best_11 2 rfl ?_
  refine V.i2l dX11_best_12 ?_
  refine V.lconst (v := 0) dX11_best_13 (by decide) ?_
  refine V.stack (st2 := [.long (Int32.toInt64 0), .long (Int32.toInt64 mm)]) (congrArg (fun z64 => Value.long z64 :: [.long (Int32.toInt64 mm)]) (show (0 : Int64) = Int32.toInt64 0 by decide)) ?_
  refine V.ldc2 dX11_best_14 w_945 ?_
  refine V.stack (st2 := [.long (Int32.toInt64 30), .long (Int32.toInt64 0), .long (Int32.toInt64 mm)]) (congrArg (fun z64 => Value.long z64 :: [.long (Int32.toInt64 0), .long (Int32.toInt64 mm)]) (show (30 : Int64) = Int32.toInt64 30 by decide)) ?_
  refine V.callSp (As := [.long (Int32.toInt64 mm), .long (Int32.toInt64 0), .long (Int32.toInt64 30)]) (rest := []) [] (c_M_in E l L _ mm 0 30) rfl (by decide) mi_X11_in w_789 w_790 rfl rfl (Nat.le_of_ble_eq_true rfl) ⟨by decide, by decide⟩ ⟨by decide, by decide⟩ dX11_best_17 (vw2 := fun _ => [(o, ob 10 [.ref mw, .ref mk, .ref mt, .ref mr, .ref mki, .ref mso, .ref mst, .ref mpr, .ref msh, .ref mwa, .ref mpu, .ref mtx, .int ts, .int ma, .int bg, .int wr, .int cl, .int um, .ref mor, .ref mbo, .int mn, .ref tO, .ref tVi, .ref tSm, .int tm]), (msh, aI E 2 Sh), (mw, aI E 192 (mW ρ)), (mr, aI E 8 Re), (mt, aI E 8 Ti), (mki, aI E 12 Ki), (mso, aI E 12 So), (mst, aI E 12 St), (mpr, aI E 12 Pr), (mwa, aI E 2 Wa), (mor, aI E 6 (fun j => nI (ω0 j))), (mbo, aI E 6 bo)]) (st2 := fun _ => [.int (withinI mm 0 30)]) (fun _ => rfl) (fun _ => rfl) (fun _ => rfl) (fun _ _ => ?_)
  refine V.topc (v := 1) (hmm) ?_
  refine V.if_eq (tgt := 35) dX11_best_20 (by decide) (fun hc => absurd hc (by decide)) (fun _ => ?_)
  refine V.iload_n dX11_best_23 3 rfl ?_
  refine V.i2l dX11_best_24 ?_
  refine V.lconst (v := 0) dX11_best_25 (by decide) ?_
  refine V.stack (st2 := [.long (Int32.toInt64 0), .long (Int32.toInt64 (nI wh))]) (congrArg (fun z64 => Value.long z64 :: [.long (Int32.toInt64 (nI wh))]) (show (0 : Int64) = Int32.toInt64 0 by decide)) ?_
  refine V.ldc2 dX11_best_26 w_946 ?_
  refine V.stack (st2 := [.long (Int32.toInt64 7), .long (Int32.toInt64 0), .long (Int32.toInt64 (nI wh))]) (congrArg (fun z64 => Value.long z64 :: [.long (Int32.toInt64 0), .long (Int32.toInt64 (nI wh))]) (show (7 : Int64) = Int32.toInt64 7 by decide)) ?_
  refine V.callSp (As := [.long (Int32.toInt64 (nI wh)), .long (Int32.toInt64 0), .long (Int32.toInt64 7)]) (rest := []) [] (c_M_in E l L _ ((nI wh)) 0 7) rfl (by decide) mi_X11_in w_789 w_790 rfl rfl (Nat.le_of_ble_eq_true rfl) ⟨by decide, by decide⟩ ⟨by decide, by decide⟩ dX11_best_29 (vw2 := fun _ => [(o, ob 10 [.ref mw, .ref mk, .ref mt, .ref mr, .ref mki, .ref mso, .ref mst, .ref mpr, .ref msh, .ref mwa, .ref mpu, .ref mtx, .int ts, .int ma, .int bg, .int wr, .int cl, .int um, .ref mor, .ref mbo, .int mn, .ref tO, .ref tVi, .ref tSm, .int tm]), (msh, aI E 2 Sh), (mw, aI E 192 (mW ρ)), (mr, aI E 8 Re), (mt, aI E 8 Ti), (mki, aI E 12 Ki), (mso, aI E 12 So), (mst, aI E 12 St), (mpr, aI E 12 Pr), (mwa, aI E 2 Wa), (mor, aI E 6 (fun j => nI (ω0 j))), (mbo, aI E 6 bo)]) (st2 := fun _ => [.int (withinI (nI wh) 0 7)]) (fun _ => rfl) (fun _ => rfl) (fun _ => rfl) (fun _ _ => ?_)
  refine V.topc (v := 1) (within_nI (m := 8) (by omega) (by omega)) ?_
  refine V.if_ne (tgt := 38) dX11_best_32 (by decide) (fun _ => ?_) (fun hc => absurd hc (by decide))
  refine V.ldc dX11_best_38 w_947 ?_
  refine V.istore (lv2 := [(4, .int 99999999), (0, .ref o), (1, .int xs), (2, .int mm), (3, .int (nI wh))]) dX11_best_40 (by decide) rfl ?_
  refine V.iconst (v := 0) dX11_best_42 (by decide) ?_
  refine V.istore (lv2 := [(5, .int 0), (4, .int 99999999), (0, .ref o), (1, .int xs), (2, .int mm), (3, .int (nI wh))]) dX11_best_43 (by decide) rfl ?_
  refine V.aload_n dX11_best_45 2 rfl ?_
  refine V.iload_n dX11_best_46 3 rfl ?_
  refine V.callVp (As := [.int xs]) (rest := []) [0, 1, 10] (c_M_firstOrder E l L _ o mw mk mt mr mki mso mst mpr msh mwa mpu mtx mor mbo tO tVi tSm ts ma bg wr cl um tm Sh m ω0 xs mn (eM) (hm)) rfl (by decide) mi_X11_firstOrder 0 rfl rfl w_948 w_950 wp_27 rfl rfl (Nat.le_of_ble_eq_true rfl) ⟨by decide, by decide⟩ ⟨by decide, by decide⟩ dX11_best_47 (vw2 := fun _ => [(o, ob 10 [.ref mw, .ref mk, .ref mt, .ref mr, .ref mki, .ref mso, .ref mst, .ref mpr, .ref msh, .ref mwa, .ref mpu, .ref mtx, .int ts, .int ma, .int bg, .int wr, .int cl, .int um, .ref mor, .ref mbo, .int (nI (fillW xs ω0 m).1), .ref tO, .ref tVi, .ref tSm, .int tm]), (msh, aI E 2 Sh), (mw, aI E 192 (mW ρ)), (mr, aI E 8 Re), (mt, aI E 8 Ti), (mki, aI E 12 Ki), (mso, aI E 12 So), (mst, aI E 12 St), (mpr, aI E 12 Pr), (mwa, aI E 2 Wa), (mor, aI E 6 (fun j => nI ((fillW xs ω0 m).2 j))), (mbo, aI E 6 bo)]) (st2 := fun _ => [.int 1]) (fun _ => rfl) (fun _ => rfl) (fun _ => rfl) (fun _ _ => ?_)
  obtain ⟨-, hNe, hag0, hπ0, hNm, hend0⟩ := setRow hm hx ρ0 ω0
  rw [hNe]
  clear hNe
  have hinj0 : ∀ x z, x < (fillW xs ρ0 6).1 → z < (fillW xs ρ0 6).1 → (fillW xs ρ0 6).2 x = (fillW xs ρ0 6).2 z → x = z := fun x z hx9 hz9 e9 => (Nat.lt_trichotomy x z).elim (fun h9 => absurd (fillW_mono _ _ _ x z h9 hz9) (by omega)) (fun h9 => h9.elim id (fun h9 => absurd (fillW_mono _ _ _ z x h9 hx9) (by omega)))
  generalize hω1 : (fillW xs ω0 m).2 = ω1 at hag0 ⊢
  generalize hN : (fillW xs ρ0 6).1 = N at hag0 hπ0 hNm hend0 hinj0 hZ hres ⊢
  generalize hπ1 : (fillW xs ρ0 6).2 = π1 at hag0 hπ0 hend0 hinj0 hZ hres
  refine V.arrEq (vw2 := [(o, ob 10 [.ref mw, .ref mk, .ref mt, .ref mr, .ref mki, .ref mso, .ref mst, .ref mpr, .ref msh, .ref mwa, .ref mpu, .ref mtx, .int ts, .int ma, .int bg, .int wr, .int cl, .int um, .ref mor, .ref mbo, .int (nI N), .ref tO, .ref tVi, .ref tSm, .int tm]), (msh, aI E 2 Sh), (mw, aI E 192 (mW (va_up ρ 1 (ρ 1)))), (mr, aI E 8 Re), (mt, aI E 8 Ti), (mki, aI E 12 Ki), (mso, aI E 12 So), (mst, aI E 12 St), (mpr, aI E 12 Pr), (mwa, aI E 2 Wa), (mor, aI E 6 (fun j => nI (ω1 j))), (mbo, aI E 6 bo)]) 2 0 rfl (fun j _ => by rw [va_up_id rfl]) rfl ?_
  refine V.istore (lv2 := [(6, .int 1), (5, .int 0), (4, .int 99999999), (0, .ref o), (1, .int xs), (2, .int mm), (3, .int (nI wh))]) dX11_best_50 (by decide) rfl ?_
  refine V.locals [3, 4, 5, 6, 2, 1, 0] (by rfl) ?_
  have lp_52 : ∀ (fuel : Nat) (ω : Nat → Nat) (π : Nat → Nat) (X : MR) (q : BST) (fw : Int32) (mx9 : Int32) (mo : Int32) (b2 : Nat → Int32) (d : Nat) (hag : ∀ j, j < N → ω j = π j) (hπm : ∀ j, j < N → π j < m) (hinj : ∀ x z, x < N → z < N → π x = π z → x = z) (hmo : (mo = 1 ∧ endsG N d π ∧ List.foldl (bestStep (m, sf, wa, ti, r) s N mm) q (rowsG N d π) = (List.foldl (bestStep (m, sf, wa, ti, r) s N mm) (0, bs, bm, F0) (rowsG N 720 π1))) ∨ (mo = 0 ∧ q = (List.foldl (bestStep (m, sf, wa, ti, r) s N mm) (0, bs, bm, F0) (rowsG N 720 π1)))) (hrel : bRel N q fw mx9 b2) (hf : d < fuel), V E l yX11_best cX11_best 7 (some (.int)) (rmk 4 0 0) Z L h 0 0 [(o, ob 10 [.ref mw, .ref mk, .ref mt, .ref mr, .ref mki, .ref mso, .ref mst, .ref mpr, .ref msh, .ref mwa, .ref mpu, .ref mtx, .int ts, .int ma, .int bg, .int wr, .int cl, .int um, .ref mor, .ref mbo, .int (nI N), .ref tO, .ref tVi, .ref tSm, .int tm]), (msh, aI E 2 Sh), (mw, aI E 192 (mW (va_up ρ 1 X))), (mr, aI E 8 Re), (mt, aI E 8 Ti), (mki, aI E 12 Ki), (mso, aI E 12 So), (mst, aI E 12 St), (mpr, aI E 12 Pr), (mwa, aI E 2 Wa), (mor, aI E 6 (fun j => nI (ω j))), (mbo, aI E 6 b2)] 52 [(0, .ref o), (1, .int xs), (2, .int mm), (3, .int (nI wh)), (4, .int fw), (5, .int mx9), (6, .int mo)] [] := by
    intro fuel
    induction fuel with
    | zero =>
      intro ω π X q fw mx9 mo b2 d hag hπm hinj hmo hrel hf
      exfalso; omega
    | succ fuel ih_52 =>
      intro ω π X q fw mx9 mo b2 d hag hπm hinj hmo hrel hf
      refine V.iload dX11_best_52 6 rfl ?_
      refine V.if_eq (tgt := 132) dX11_best_54 (by decide) (fun c1_54 => ?_) (fun c1_54 => ?_)
      · skip
        have hfin : q = (List.foldl (bestStep (m, sf, wa, ti, r) s N mm) (0, bs, bm, F0) (rowsG N 720 π1)) := (hmo.resolve_left (fun hh => absurd (hh.1.symm.trans c1_54) (by decide))).2
        have hfb := hrel.resolve_left (fun h9 => absurd (h9.1.symm.trans (show q.1 = 1 by rw [hfin]; exact hres)) (by decide))
        refine V.iload dX11_best_132 4 rfl ?_
        refine V.ldc dX11_best_134 w_947 ?_
        refine V.icmp_ne (tgt := 141) dX11_best_136 (by decide) (fun _ => ?_) (fun hc => absurd hc (by obtain ⟨t, ht, e⟩ := hfb.2.2.2.1; rw [hfb.2.1, e]; exact far_ne ht))
        rcases (show wh = 0 ∨ wh = 1 ∨ wh = 2 ∨ wh = 3 ∨ wh = 4 ∨ wh = 5 ∨ wh = 6 ∨ wh = 7 by omega) with rfl | rfl | rfl | rfl | rfl | rfl | rfl | rfl
        · skip
          refine V.locals2 (lv2 := [(0, .ref o), (1, .int xs), (2, .int mm), (3, .int 0), (4, .int fw), (5, .int mx9), (6, .int mo)]) rfl ?_
          refine V.iload_n dX11_best_141 3 rfl ?_
          refine V.if_ne (tgt := 150) dX11_best_142 (by decide) (fun hc => absurd (by decide) hc) (fun _ => ?_)
          refine V.iload dX11_best_145 4 rfl ?_
          refine V.goto (tgt := 182) dX11_best_147 (by decide) ?_
          subst hZ
          exact V.iret rfl dX11_best_182 (⟨(X, ω, b2), by rw [← hfin]; exact congrArg (fun z9 => some (Value.int z9)) hfb.2.1, rfl, rfl, trivial⟩)
        · skip
          refine V.locals2 (lv2 := [(0, .ref o), (1, .int xs), (2, .int mm), (3, .int 1), (4, .int fw), (5, .int mx9), (6, .int mo)]) rfl ?_
          refine V.iload_n dX11_best_141 3 rfl ?_
          refine V.if_ne (tgt := 150) dX11_best_142 (by decide) (fun _ => ?_) (fun hc => absurd hc (by decide))
          refine V.iload_n dX11_best_150 3 rfl ?_
          refine V.iconst (v := 1) dX11_best_151 (by decide) ?_
          refine V.icmp_ne (tgt := 160) dX11_best_152 (by decide) (fun hc => absurd (by decide) hc) (fun _ => ?_)
          refine V.iload dX11_best_155 5 rfl ?_
          refine V.goto (tgt := 182) dX11_best_157 (by decide) ?_
          subst hZ
          exact V.iret rfl dX11_best_182 (⟨(X, ω, b2), by rw [← hfin]; exact congrArg (fun z9 => some (Value.int z9)) hfb.2.2.1, rfl, rfl, trivial⟩)
        · skip
          refine V.locals2 (lv2 := [(0, .ref o), (1, .int xs), (2, .int mm), (3, .int 2), (4, .int fw), (5, .int mx9), (6, .int mo)]) rfl ?_
          refine V.iload_n dX11_best_141 3 rfl ?_
          refine V.if_ne (tgt := 150) dX11_best_142 (by decide) (fun _ => ?_) (fun hc => absurd hc (by decide))
          refine V.iload_n dX11_best_150 3 rfl ?_
          refine V.iconst (v := 1) dX11_best_151 (by decide) ?_
          refine V.icmp_ne (tgt := 160) dX11_best_152 (by decide) (fun _ => ?_) (fun hc => absurd hc (by decide))
          refine V.iload_n dX11_best_160 3 rfl ?_
          refine V.iconst (v := 2) dX11_best_161 (by decide) ?_
          refine V.isub dX11_best_162 ?_
          refine V.topc (v := 0) (by decide) ?_
          refine V.aload_n dX11_best_163 0 rfl ?_
          refine V.getf 0 20 rfl fa_X11_188_10 rfl dX11_best_164 ?_
          refine V.icmp_ge (tgt := 181) dX11_best_167 (by decide) (fun c2_167 => ?_) (fun c2_167 => ?_)
          · skip
            have h92 : ¬ 0 < N := Nat.not_lt.mpr ((nI_leI (b := 0) (by omega) (by omega)).mp c2_167)
            refine V.iconst (v := (-1)) dX11_best_181 (by decide) ?_
            subst hZ
            exact V.iret rfl dX11_best_182 (⟨(X, ω, b2), by unfold bestW; rw [if_neg (by decide), if_neg (by decide), if_neg h92], rfl, rfl, trivial⟩)
          · skip
            have h92 : 0 < N := Nat.lt_of_not_le (fun hh => c2_167 (nI_le (b := 0) hh (by omega)))
            refine V.aload_n dX11_best_170 0 rfl ?_
            refine V.getf 0 19 rfl fa_X11_50_10 rfl dX11_best_171 ?_
            refine V.iload_n dX11_best_174 3 rfl ?_
            refine V.iconst (v := 2) dX11_best_175 (by decide) ?_
            refine V.isub dX11_best_176 ?_
            refine V.topc (v := 0) (by decide) ?_
            refine V.iald 11 rfl (vin rfl) dX11_best_177 ?_
            refine V.topc (v := (b2 0)) (rfl) ?_
            refine V.goto (tgt := 182) dX11_best_178 (by decide) ?_
            subst hZ
            exact V.iret rfl dX11_best_182 (⟨(X, ω, b2), by rw [← hfin]; unfold bestW; rw [if_neg (by decide), if_neg (by decide), if_pos h92]; exact congrArg (fun z9 => some (Value.int z9)) (hfb.2.2.2.2 0 h92), rfl, rfl, trivial⟩)
        · skip
          refine V.locals2 (lv2 := [(0, .ref o), (1, .int xs), (2, .int mm), (3, .int 3), (4, .int fw), (5, .int mx9), (6, .int mo)]) rfl ?_
          refine V.iload_n dX11_best_141 3 rfl ?_
          refine V.if_ne (tgt := 150) dX11_best_142 (by decide) (fun _ => ?_) (fun hc => absurd hc (by decide))
          refine V.iload_n dX11_best_150 3 rfl ?_
          refine V.iconst (v := 1) dX11_best_151 (by decide) ?_
          refine V.icmp_ne (tgt := 160) dX11_best_152 (by decide) (fun _ => ?_) (fun hc => absurd hc (by decide))
          refine V.iload_n dX11_best_160 3 rfl ?_
          refine V.iconst (v := 2) dX11_best_161 (by decide) ?_
          refine V.isub dX11_best_162 ?_
          refine V.topc (v := 1) (by decide) ?_
          refine V.aload_n dX11_best_163 0 rfl ?_
          refine V.getf 0 20 rfl fa_X11_188_10 rfl dX11_best_164 ?_
          refine V.icmp_ge (tgt := 181) dX11_best_167 (by decide) (fun c3_167 => ?_) (fun c3_167 => ?_)
          · skip
            have h92 : ¬ 1 < N := Nat.not_lt.mpr ((nI_leI (b := 1) (by omega) (by omega)).mp c3_167)
            refine V.iconst (v := (-1)) dX11_best_181 (by decide) ?_
            subst hZ
            exact V.iret rfl dX11_best_182 (⟨(X, ω, b2), by unfold bestW; rw [if_neg (by decide), if_neg (by decide), if_neg h92], rfl, rfl, trivial⟩)
          · skip
            have h92 : 1 < N := Nat.lt_of_not_le (fun hh => c3_167 (nI_le (b := 1) hh (by omega)))
            refine V.aload_n dX11_best_170 0 rfl ?_
            refine V.getf 0 19 rfl fa_X11_50_10 rfl dX11_best_171 ?_
            refine V.iload_n dX11_best_174 3 rfl ?_
            refine V.iconst (v := 2) dX11_best_175 (by decide) ?_
            refine V.isub dX11_best_176 ?_
            refine V.topc (v := 1) (by decide) ?_
            refine V.iald 11 rfl (vin rfl) dX11_best_177 ?_
            refine V.topc (v := (b2 1)) (rfl) ?_
            refine V.goto (tgt := 182) dX11_best_178 (by decide) ?_
            subst hZ
            exact V.iret rfl dX11_best_182 (⟨(X, ω, b2), by rw [← hfin]; unfold bestW; rw [if_neg (by decide), if_neg (by decide), if_pos h92]; exact congrArg (fun z9 => some (Value.int z9)) (hfb.2.2.2.2 1 h92), rfl, rfl, trivial⟩)
        · skip
          refine V.locals2 (lv2 := [(0, .ref o), (1, .int xs), (2, .int mm), (3, .int 4), (4, .int fw), (5, .int mx9), (6, .int mo)]) rfl ?_
          refine V.iload_n dX11_best_141 3 rfl ?_
          refine V.if_ne (tgt := 150) dX11_best_142 (by decide) (fun _ => ?_) (fun hc => absurd hc (by decide))
          refine V.iload_n dX11_best_150 3 rfl ?_
          refine V.iconst (v := 1) dX11_best_151 (by decide) ?_
          refine V.icmp_ne (tgt := 160) dX11_best_152 (by decide) (fun _ => ?_) (fun hc => absurd hc (by decide))
          refine V.iload_n dX11_best_160 3 rfl ?_
          refine V.iconst (v := 2) dX11_best_161 (by decide) ?_
          refine V.isub dX11_best_162 ?_
          refine V.topc (v := 2) (by decide) ?_
          refine V.aload_n dX11_best_163 0 rfl ?_
          refine V.getf 0 20 rfl fa_X11_188_10 rfl dX11_best_164 ?_
          refine V.icmp_ge (tgt := 181) dX11_best_167 (by decide) (fun c4_167 => ?_) (fun c4_167 => ?_)
          · skip
            have h92 : ¬ 2 < N := Nat.not_lt.mpr ((nI_leI (b := 2) (by omega) (by omega)).mp c4_167)
            refine V.iconst (v := (-1)) dX11_best_181 (by decide) ?_
            subst hZ
            exact V.iret rfl dX11_best_182 (⟨(X, ω, b2), by unfold bestW; rw [if_neg (by decide), if_neg (by decide), if_neg h92], rfl, rfl, trivial⟩)
          · skip
            have h92 : 2 < N := Nat.lt_of_not_le (fun hh => c4_167 (nI_le (b := 2) hh (by omega)))
            refine V.aload_n dX11_best_170 0 rfl ?_
            refine V.getf 0 19 rfl fa_X11_50_10 rfl dX11_best_171 ?_
            refine V.iload_n dX11_best_174 3 rfl ?_
            refine V.iconst (v := 2) dX11_best_175 (by decide) ?_
            refine V.isub dX11_best_176 ?_
            refine V.topc (v := 2) (by decide) ?_
            refine V.iald 11 rfl (vin rfl) dX11_best_177 ?_
            refine V.topc (v := (b2 2)) (rfl) ?_
            refine V.goto (tgt := 182) dX11_best_178 (by decide) ?_
            subst hZ
            exact V.iret rfl dX11_best_182 (⟨(X, ω, b2), by rw [← hfin]; unfold bestW; rw [if_neg (by decide), if_neg (by decide), if_pos h92]; exact congrArg (fun z9 => some (Value.int z9)) (hfb.2.2.2.2 2 h92), rfl, rfl, trivial⟩)
        · skip
          refine V.locals2 (lv2 := [(0, .ref o), (1, .int xs), (2, .int mm), (3, .int 5), (4, .int fw), (5, .int mx9), (6, .int mo)]) rfl ?_
          refine V.iload_n dX11_best_141 3 rfl ?_
          refine V.if_ne (tgt := 150) dX11_best_142 (by decide) (fun _ => ?_) (fun hc => absurd hc (by decide))
          refine V.iload_n dX11_best_150 3 rfl ?_
          refine V.iconst (v := 1) dX11_best_151 (by decide) ?_
          refine V.icmp_ne (tgt := 160) dX11_best_152 (by decide) (fun _ => ?_) (fun hc => absurd hc (by decide))
          refine V.iload_n dX11_best_160 3 rfl ?_
          refine V.iconst (v := 2) dX11_best_161 (by decide) ?_
          refine V.isub dX11_best_162 ?_
          refine V.topc (v := 3) (by decide) ?_
          refine V.aload_n dX11_best_163 0 rfl ?_
          refine V.getf 0 20 rfl fa_X11_188_10 rfl dX11_best_164 ?_
          refine V.icmp_ge (tgt := 181) dX11_best_167 (by decide) (fun c5_167 => ?_) (fun c5_167 => ?_)
          · skip
            have h92 : ¬ 3 < N := Nat.not_lt.mpr ((nI_leI (b := 3) (by omega) (by omega)).mp c5_167)
            refine V.iconst (v := (-1)) dX11_best_181 (by decide) ?_
            subst hZ
            exact V.iret rfl dX11_best_182 (⟨(X, ω, b2), by unfold bestW; rw [if_neg (by decide), if_neg (by decide), if_neg h92], rfl, rfl, trivial⟩)
          · skip
            have h92 : 3 < N := Nat.lt_of_not_le (fun hh => c5_167 (nI_le (b := 3) hh (by omega)))
            refine V.aload_n dX11_best_170 0 rfl ?_
            refine V.getf 0 19 rfl fa_X11_50_10 rfl dX11_best_171 ?_
            refine V.iload_n dX11_best_174 3 rfl ?_
            refine V.iconst (v := 2) dX11_best_175 (by decide) ?_
            refine V.isub dX11_best_176 ?_
            refine V.topc (v := 3) (by decide) ?_
            refine V.iald 11 rfl (vin rfl) dX11_best_177 ?_
            refine V.topc (v := (b2 3)) (rfl) ?_
            refine V.goto (tgt := 182) dX11_best_178 (by decide) ?_
            subst hZ
            exact V.iret rfl dX11_best_182 (⟨(X, ω, b2), by rw [← hfin]; unfold bestW; rw [if_neg (by decide), if_neg (by decide), if_pos h92]; exact congrArg (fun z9 => some (Value.int z9)) (hfb.2.2.2.2 3 h92), rfl, rfl, trivial⟩)
        · skip
          refine V.locals2 (lv2 := [(0, .ref o), (1, .int xs), (2, .int mm), (3, .int 6), (4, .int fw), (5, .int mx9), (6, .int mo)]) rfl ?_
          refine V.iload_n dX11_best_141 3 rfl ?_
          refine V.if_ne (tgt := 150) dX11_best_142 (by decide) (fun _ => ?_) (fun hc => absurd hc (by decide))
          refine V.iload_n dX11_best_150 3 rfl ?_
          refine V.iconst (v := 1) dX11_best_151 (by decide) ?_
          refine V.icmp_ne (tgt := 160) dX11_best_152 (by decide) (fun _ => ?_) (fun hc => absurd hc (by decide))
          refine V.iload_n dX11_best_160 3 rfl ?_
          refine V.iconst (v := 2) dX11_best_161 (by decide) ?_
          refine V.isub dX11_best_162 ?_
          refine V.topc (v := 4) (by decide) ?_
          refine V.aload_n dX11_best_163 0 rfl ?_
          refine V.getf 0 20 rfl fa_X11_188_10 rfl dX11_best_164 ?_
          refine V.icmp_ge (tgt := 181) dX11_best_167 (by decide) (fun c6_167 => ?_) (fun c6_167 => ?_)
          · skip
            have h92 : ¬ 4 < N := Nat.not_lt.mpr ((nI_leI (b := 4) (by omega) (by omega)).mp c6_167)
            refine V.iconst (v := (-1)) dX11_best_181 (by decide) ?_
            subst hZ
            exact V.iret rfl dX11_best_182 (⟨(X, ω, b2), by unfold bestW; rw [if_neg (by decide), if_neg (by decide), if_neg h92], rfl, rfl, trivial⟩)
          · skip
            have h92 : 4 < N := Nat.lt_of_not_le (fun hh => c6_167 (nI_le (b := 4) hh (by omega)))
            refine V.aload_n dX11_best_170 0 rfl ?_
            refine V.getf 0 19 rfl fa_X11_50_10 rfl dX11_best_171 ?_
            refine V.iload_n dX11_best_174 3 rfl ?_
            refine V.iconst (v := 2) dX11_best_175 (by decide) ?_
            refine V.isub dX11_best_176 ?_
            refine V.topc (v := 4) (by decide) ?_
            refine V.iald 11 rfl (vin rfl) dX11_best_177 ?_
            refine V.topc (v := (b2 4)) (rfl) ?_
            refine V.goto (tgt := 182) dX11_best_178 (by decide) ?_
            subst hZ
            exact V.iret rfl dX11_best_182 (⟨(X, ω, b2), by rw [← hfin]; unfold bestW; rw [if_neg (by decide), if_neg (by decide), if_pos h92]; exact congrArg (fun z9 => some (Value.int z9)) (hfb.2.2.2.2 4 h92), rfl, rfl, trivial⟩)
        · skip
          refine V.locals2 (lv2 := [(0, .ref o), (1, .int xs), (2, .int mm), (3, .int 7), (4, .int fw), (5, .int mx9), (6, .int mo)]) rfl ?_
          refine V.iload_n dX11_best_141 3 rfl ?_
          refine V.if_ne (tgt := 150) dX11_best_142 (by decide) (fun _ => ?_) (fun hc => absurd hc (by decide))
          refine V.iload_n dX11_best_150 3 rfl ?_
          refine V.iconst (v := 1) dX11_best_151 (by decide) ?_
          refine V.icmp_ne (tgt := 160) dX11_best_152 (by decide) (fun _ => ?_) (fun hc => absurd hc (by decide))
          refine V.iload_n dX11_best_160 3 rfl ?_
          refine V.iconst (v := 2) dX11_best_161 (by decide) ?_
          refine V.isub dX11_best_162 ?_
          refine V.topc (v := 5) (by decide) ?_
          refine V.aload_n dX11_best_163 0 rfl ?_
          refine V.getf 0 20 rfl fa_X11_188_10 rfl dX11_best_164 ?_
          refine V.icmp_ge (tgt := 181) dX11_best_167 (by decide) (fun c7_167 => ?_) (fun c7_167 => ?_)
          · skip
            have h92 : ¬ 5 < N := Nat.not_lt.mpr ((nI_leI (b := 5) (by omega) (by omega)).mp c7_167)
            refine V.iconst (v := (-1)) dX11_best_181 (by decide) ?_
            subst hZ
            exact V.iret rfl dX11_best_182 (⟨(X, ω, b2), by unfold bestW; rw [if_neg (by decide), if_neg (by decide), if_neg h92], rfl, rfl, trivial⟩)
          · skip
            have h92 : 5 < N := Nat.lt_of_not_le (fun hh => c7_167 (nI_le (b := 5) hh (by omega)))
            refine V.aload_n dX11_best_170 0 rfl ?_
            refine V.getf 0 19 rfl fa_X11_50_10 rfl dX11_best_171 ?_
            refine V.iload_n dX11_best_174 3 rfl ?_
            refine V.iconst (v := 2) dX11_best_175 (by decide) ?_
            refine V.isub dX11_best_176 ?_
            refine V.topc (v := 5) (by decide) ?_
            refine V.iald 11 rfl (vin rfl) dX11_best_177 ?_
            refine V.topc (v := (b2 5)) (rfl) ?_
            refine V.goto (tgt := 182) dX11_best_178 (by decide) ?_
            subst hZ
            exact V.iret rfl dX11_best_182 (⟨(X, ω, b2), by rw [← hfin]; unfold bestW; rw [if_neg (by decide), if_neg (by decide), if_pos h92]; exact congrArg (fun z9 => some (Value.int z9)) (hfb.2.2.2.2 5 h92), rfl, rfl, trivial⟩)
      · skip
        obtain ⟨-, hen, hrun⟩ := hmo.resolve_right (fun hh => c1_54 hh.1)
        obtain ⟨d9, rfl⟩ := endsG_pos hen
        refine V.aload_n dX11_best_57 0 rfl ?_
        refine V.iload_n dX11_best_58 2 rfl ?_
        refine V.callVp (As := [.int mm]) (rest := []) [0, 2, 3, 4, 5, 6, 7, 8, 9, 10] (c_M_walks E l L _ o mw mk mt mr mki mso mst mpr msh mwa mpu mtx mor mbo tO tVi tSm ts ma bg wr cl um tm ((va_up ρ 1 X)) pw s Re r Ti ti Ki So St Pr Wa m sf wa ω N mm ((va_up_ne _ _ (by decide)).trans hR) (hTab) (hm) (eW) (hgR) (eR) (hgI) (eI) (by omega) (fun j hj => by rw [hag j hj]; exact hπm j hj) (ePl) (hgS)) rfl (by decide) mi_X11_walks 0 rfl rfl w_952 w_954 wp_28 rfl rfl (Nat.le_of_ble_eq_true rfl) ⟨by decide, by decide⟩ ⟨by decide, by decide⟩ dX11_best_59 (vw2 := fun u59 => [(o, ob 10 [.ref mw, .ref mk, .ref mt, .ref mr, .ref mki, .ref mso, .ref mst, .ref mpr, .ref msh, .ref mwa, .ref mpu, .ref mtx, .int ts, .int ma, .int bg, .int wr, .int cl, .int um, .ref mor, .ref mbo, .int (nI N), .ref tO, .ref tVi, .ref tSm, .int tm]), (msh, aI E 2 Sh), (mw, aI E 192 (mW (va_up (va_up ρ 1 X) 1 (pw, u59)))), (mr, aI E 8 Re), (mt, aI E 8 Ti), (mki, aI E 12 Ki), (mso, aI E 12 So), (mst, aI E 12 St), (mpr, aI E 12 Pr), (mwa, aI E 2 Wa), (mor, aI E 6 (fun j => nI (ω j))), (mbo, aI E 6 b2)]) (st2 := fun u59 => [.int (boolI (∀ i_, i_ < N → mm ≤ visitS (m, sf, wa, ti, r) (ω i_) (walkN (m, sf, wa, ti, r) ω (zSS s) i_)))]) (fun _ => rfl) (fun _ => rfl) (fun _ => rfl) (fun u59 hq_59 => ?_)
        refine V.arrEq (vw2 := [(o, ob 10 [.ref mw, .ref mk, .ref mt, .ref mr, .ref mki, .ref mso, .ref mst, .ref mpr, .ref msh, .ref mwa, .ref mpu, .ref mtx, .int ts, .int ma, .int bg, .int wr, .int cl, .int um, .ref mor, .ref mbo, .int (nI N), .ref tO, .ref tVi, .ref tSm, .int tm]), (msh, aI E 2 Sh), (mw, aI E 192 (mW (va_up ρ 1 (pw, u59)))), (mr, aI E 8 Re), (mt, aI E 8 Ti), (mki, aI E 12 Ki), (mso, aI E 12 So), (mst, aI E 12 St), (mpr, aI E 12 Pr), (mwa, aI E 2 Wa), (mor, aI E 6 (fun j => nI (ω j))), (mbo, aI E 6 b2)]) 2 0 rfl (fun j _ => mW_ups j) rfl ?_
        refine V.if_eq (tgt := 123) dX11_best_62 (by decide) (fun c8_62 => ?_) (fun c8_62 => ?_)
        · skip
          have hne : ¬ eachP (m, sf, wa, ti, r) s N mm π := fun hh => absurd ((boolI_t ((each_ag hag).mpr ((each_z _ _ _ _ _).mp hh))).symm.trans c8_62) (by decide)
          have hbs9 : bestStep (m, sf, wa, ti, r) s N mm q π = q := cG_f (fun hh => hne hh.2)
          refine V.aload_n dX11_best_123 0 rfl ?_
          rcases stepR_rel (M := m) (σ := id) rel_id hag hπm with ⟨h1, h2⟩ | ⟨a, b, h1, h2, h3, h4⟩
          · skip
            refine V.callVp (As := []) (rest := []) [0, 10] (c_M_nextN E l L _ o mw mk mt mr mki mso mst mpr msh mwa mpu mtx mor mbo tO tVi tSm ts ma bg wr cl um tm N ω (by omega) (fun i hi => by rw [hag i hi]; have := hπm i hi; omega) (h1)) rfl (by decide) mi_X11_nextOrder 0 rfl rfl w_960 w_962 wp_30 rfl rfl (Nat.le_of_ble_eq_true rfl) ⟨by decide, by decide⟩ ⟨by decide, by decide⟩ dX11_best_124 (vw2 := fun _ => [(o, ob 10 [.ref mw, .ref mk, .ref mt, .ref mr, .ref mki, .ref mso, .ref mst, .ref mpr, .ref msh, .ref mwa, .ref mpu, .ref mtx, .int ts, .int ma, .int bg, .int wr, .int cl, .int um, .ref mor, .ref mbo, .int (nI N), .ref tO, .ref tVi, .ref tSm, .int tm]), (msh, aI E 2 Sh), (mw, aI E 192 (mW (va_up ρ 1 (pw, u59)))), (mr, aI E 8 Re), (mt, aI E 8 Ti), (mki, aI E 12 Ki), (mso, aI E 12 So), (mst, aI E 12 St), (mpr, aI E 12 Pr), (mwa, aI E 2 Wa), (mor, aI E 6 (fun j => nI (ω j))), (mbo, aI E 6 b2)]) (st2 := fun _ => [.int 0]) (fun _ => rfl) (fun _ => rfl) (fun _ => rfl) (fun _ _ => ?_)
            refine V.istore (lv2 := [(6, .int 0), (0, .ref o), (1, .int xs), (2, .int mm), (3, .int (nI wh)), (4, .int fw), (5, .int mx9)]) dX11_best_127 (by decide) rfl ?_
            refine V.goto (tgt := 52) dX11_best_129 (by decide) ?_
            refine V.locals [1, 2, 3, 4, 5, 6, 0] (by rfl) ?_
            exact ih_52 ω π _ q _ _ _ _ d9 hag hπm hinj (Or.inr ⟨rfl, by rw [rowsG_none h2] at hrun; exact hbs9.symm.trans hrun⟩) hrel (by omega)
          · skip
            refine V.callVp (As := []) (rest := []) [0, 10] (c_M_nextS E l L _ o mw mk mt mr mki mso mst mpr msh mwa mpu mtx mor mbo tO tVi tSm ts ma bg wr cl um tm N ω a (by omega) (fun i hi => by rw [hag i hi]; have := hπm i hi; omega) (h1)) rfl (by decide) mi_X11_nextOrder 0 rfl rfl w_960 w_962 wp_30 rfl rfl (Nat.le_of_ble_eq_true rfl) ⟨by decide, by decide⟩ ⟨by decide, by decide⟩ dX11_best_124 (vw2 := fun _ => [(o, ob 10 [.ref mw, .ref mk, .ref mt, .ref mr, .ref mki, .ref mso, .ref mst, .ref mpr, .ref msh, .ref mwa, .ref mpu, .ref mtx, .int ts, .int ma, .int bg, .int wr, .int cl, .int um, .ref mor, .ref mbo, .int (nI N), .ref tO, .ref tVi, .ref tSm, .int tm]), (msh, aI E 2 Sh), (mw, aI E 192 (mW (va_up ρ 1 (pw, u59)))), (mr, aI E 8 Re), (mt, aI E 8 Ti), (mki, aI E 12 Ki), (mso, aI E 12 So), (mst, aI E 12 St), (mpr, aI E 12 Pr), (mwa, aI E 2 Wa), (mor, aI E 6 (fun j => nI (a j))), (mbo, aI E 6 b2)]) (st2 := fun _ => [.int 1]) (fun _ => rfl) (fun _ => rfl) (fun _ => rfl) (fun _ _ => ?_)
            refine V.istore (lv2 := [(6, .int 1), (0, .ref o), (1, .int xs), (2, .int mm), (3, .int (nI wh)), (4, .int fw), (5, .int mx9)]) dX11_best_127 (by decide) rfl ?_
            refine V.goto (tgt := 52) dX11_best_129 (by decide) ?_
            refine V.locals [1, 2, 3, 4, 5, 6, 0] (by rfl) ?_
            exact ih_52 a b _ q _ _ _ _ d9 h3 h4 (stepR_inj h2 hinj) (Or.inl ⟨rfl, endsG_s hen h2, by rw [rowsG_some h2] at hrun; rw [← hbs9]; exact hrun⟩) hrel (by omega)
        · skip
          have heach : eachP (m, sf, wa, ti, r) s N mm π := (each_z _ _ _ _ _).mpr ((each_ag hag).mp (Classical.byContradiction (fun hh => c8_62 (boolI_f hh))))
          have hu := hq_59 (boolI_t ((each_ag hag).mpr ((each_z _ _ _ _ _).mp heach)))
          have hwc : walkN (m, sf, wa, ti, r) ω (zSS s) N = walkN (m, sf, wa, ti, r) π (zSS s) N := walkN_congr (fun j hj => hag j hj)
          have hst : u59.2.2.1 = (dS (m, sf, wa, ti, r) s N π) := by rw [dS_z, hu, hwc]
          have hsm : u59.2.2.2.2.2.2.1 = (dM (m, sf, wa, ti, r) s N π) := by rw [dM_z, hu, hwc]
          have hbt : ∃ t, t ≤ 30 ∧ (dS (m, sf, wa, ti, r) s N π) = nI t := by obtain ⟨t, ht, e⟩ := walk_st (P := (m, sf, wa, ti, r)) hgS hm N hπm; exact ⟨t, by omega, by rw [dS_z]; exact e⟩
          refine V.aload_n dX11_best_65 0 rfl ?_
          refine V.getf 0 0 rfl fa_X11_7_10 rfl dX11_best_66 ?_
          refine V.bipush (v := 27) dX11_best_69 (by decide) ?_
          refine V.iald 2 rfl (vin rfl) dX11_best_71 ?_
          refine V.topc (v := ((mW (va_up ρ 1 (pw, u59))) 27)) (rfl) ?_
          refine V.topc (v := (dS (m, sf, wa, ti, r) s N π)) ((mW_st (i := 1) (va_up_self _ _ _)).trans hst) ?_
          refine V.iload dX11_best_72 4 rfl ?_
          refine V.icmp_lt (tgt := 101) dX11_best_74 (by decide) (fun c9_74 => ?_) (fun c9_74 => ?_)
          · skip
            refine V.aload_n dX11_best_101 0 rfl ?_
            refine V.getf 0 0 rfl fa_X11_7_10 rfl dX11_best_102 ?_
            refine V.bipush (v := 27) dX11_best_105 (by decide) ?_
            refine V.iald 2 rfl (vin rfl) dX11_best_107 ?_
            refine V.topc (v := ((mW (va_up ρ 1 (pw, u59))) 27)) (rfl) ?_
            refine V.topc (v := (dS (m, sf, wa, ti, r) s N π)) ((mW_st (i := 1) (va_up_self _ _ _)).trans hst) ?_
            refine V.istore (lv2 := [(4, .int (dS (m, sf, wa, ti, r) s N π)), (0, .ref o), (1, .int xs), (2, .int mm), (3, .int (nI wh)), (5, .int mx9), (6, .int mo)]) dX11_best_108 (by decide) rfl ?_
            refine V.aload_n dX11_best_110 1 rfl ?_
            refine V.getf 0 0 rfl fa_X11_7_10 rfl dX11_best_111 ?_
            refine V.bipush (v := 31) dX11_best_114 (by decide) ?_
            refine V.iald 2 rfl (vin rfl) dX11_best_116 ?_
            refine V.topc (v := ((mW (va_up ρ 1 (pw, u59))) 31)) (rfl) ?_
            refine V.topc (v := (dM (m, sf, wa, ti, r) s N π)) ((mW_sm (i := 1) (va_up_self _ _ _)).trans hsm) ?_
            refine V.istore (lv2 := [(5, .int (dM (m, sf, wa, ti, r) s N π)), (4, .int (dS (m, sf, wa, ti, r) s N π)), (0, .ref o), (1, .int xs), (2, .int mm), (3, .int (nI wh)), (6, .int mo)]) dX11_best_117 (by decide) rfl ?_
            refine V.aload_n dX11_best_119 2 rfl ?_
            refine V.callVp (As := []) (rest := []) [0, 10, 11] (c_M_keepOrder E l L _ o mw mk mt mr mki mso mst mpr msh mwa mpu mtx mor mbo tO tVi tSm ts ma bg wr cl um tm N ω b2 (by omega)) rfl (by decide) mi_X11_keepOrder 0 rfl rfl w_956 w_958 wp_29 rfl rfl (Nat.le_of_ble_eq_true rfl) ⟨by decide, by decide⟩ ⟨by decide, by decide⟩ dX11_best_120 (vw2 := fun _ => [(o, ob 10 [.ref mw, .ref mk, .ref mt, .ref mr, .ref mki, .ref mso, .ref mst, .ref mpr, .ref msh, .ref mwa, .ref mpu, .ref mtx, .int ts, .int ma, .int bg, .int wr, .int cl, .int um, .ref mor, .ref mbo, .int (nI N), .ref tO, .ref tVi, .ref tSm, .int tm]), (msh, aI E 2 Sh), (mw, aI E 192 (mW (va_up ρ 1 (pw, u59)))), (mr, aI E 8 Re), (mt, aI E 8 Ti), (mki, aI E 12 Ki), (mso, aI E 12 So), (mst, aI E 12 St), (mpr, aI E 12 Pr), (mwa, aI E 2 Wa), (mor, aI E 6 (fun j => nI (ω j))), (mbo, aI E 6 (kpO N ω b2))]) (st2 := fun _ => []) (fun _ => rfl) (fun _ => rfl) (fun _ => rfl) (fun _ _ => ?_)
            have hb : ((dS (m, sf, wa, ti, r) s N π) < fw ∨ ((dS (m, sf, wa, ti, r) s N π) = fw ∧ mx9 < (dM (m, sf, wa, ti, r) s N π))) := Or.inl c9_74
            have hbs9 : bestStep (m, sf, wa, ti, r) s N mm q π = ((1 : Int32), (dS (m, sf, wa, ti, r) s N π), (dM (m, sf, wa, ti, r) s N π), fun j => nI (π j)) := cG_t ⟨(bRel_better hrel hbt).mpr hb, heach⟩
            refine V.aload_n dX11_best_123 2 rfl ?_
            rcases stepR_rel (M := m) (σ := id) rel_id hag hπm with ⟨h1, h2⟩ | ⟨a, b, h1, h2, h3, h4⟩
            · skip
              refine V.callVp (As := []) (rest := []) [0, 10] (c_M_nextN E l L _ o mw mk mt mr mki mso mst mpr msh mwa mpu mtx mor mbo tO tVi tSm ts ma bg wr cl um tm N ω (by omega) (fun i hi => by rw [hag i hi]; have := hπm i hi; omega) (h1)) rfl (by decide) mi_X11_nextOrder 0 rfl rfl w_960 w_962 wp_30 rfl rfl (Nat.le_of_ble_eq_true rfl) ⟨by decide, by decide⟩ ⟨by decide, by decide⟩ dX11_best_124 (vw2 := fun _ => [(o, ob 10 [.ref mw, .ref mk, .ref mt, .ref mr, .ref mki, .ref mso, .ref mst, .ref mpr, .ref msh, .ref mwa, .ref mpu, .ref mtx, .int ts, .int ma, .int bg, .int wr, .int cl, .int um, .ref mor, .ref mbo, .int (nI N), .ref tO, .ref tVi, .ref tSm, .int tm]), (msh, aI E 2 Sh), (mw, aI E 192 (mW (va_up ρ 1 (pw, u59)))), (mr, aI E 8 Re), (mt, aI E 8 Ti), (mki, aI E 12 Ki), (mso, aI E 12 So), (mst, aI E 12 St), (mpr, aI E 12 Pr), (mwa, aI E 2 Wa), (mor, aI E 6 (fun j => nI (ω j))), (mbo, aI E 6 (kpO N ω b2))]) (st2 := fun _ => [.int 0]) (fun _ => rfl) (fun _ => rfl) (fun _ => rfl) (fun _ _ => ?_)
              refine V.istore (lv2 := [(6, .int 0), (5, .int (dM (m, sf, wa, ti, r) s N π)), (4, .int (dS (m, sf, wa, ti, r) s N π)), (0, .ref o), (1, .int xs), (2, .int mm), (3, .int (nI wh))]) dX11_best_127 (by decide) rfl ?_
              refine V.goto (tgt := 52) dX11_best_129 (by decide) ?_
              refine V.locals [3, 4, 5, 6, 2, 1, 0] (by rfl) ?_
              exact ih_52 ω π _ ((1 : Int32), (dS (m, sf, wa, ti, r) s N π), (dM (m, sf, wa, ti, r) s N π), fun j => nI (π j)) _ _ _ _ d9 hag hπm hinj (Or.inr ⟨rfl, by rw [rowsG_none h2] at hrun; exact hbs9.symm.trans hrun⟩) (Or.inr ⟨rfl, rfl, rfl, hbt, fun j hj => (if_pos hj).trans (congrArg nI (hag j hj))⟩) (by omega)
            · skip
              refine V.callVp (As := []) (rest := []) [0, 10] (c_M_nextS E l L _ o mw mk mt mr mki mso mst mpr msh mwa mpu mtx mor mbo tO tVi tSm ts ma bg wr cl um tm N ω a (by omega) (fun i hi => by rw [hag i hi]; have := hπm i hi; omega) (h1)) rfl (by decide) mi_X11_nextOrder 0 rfl rfl w_960 w_962 wp_30 rfl rfl (Nat.le_of_ble_eq_true rfl) ⟨by decide, by decide⟩ ⟨by decide, by decide⟩ dX11_best_124 (vw2 := fun _ => [(o, ob 10 [.ref mw, .ref mk, .ref mt, .ref mr, .ref mki, .ref mso, .ref mst, .ref mpr, .ref msh, .ref mwa, .ref mpu, .ref mtx, .int ts, .int ma, .int bg, .int wr, .int cl, .int um, .ref mor, .ref mbo, .int (nI N), .ref tO, .ref tVi, .ref tSm, .int tm]), (msh, aI E 2 Sh), (mw, aI E 192 (mW (va_up ρ 1 (pw, u59)))), (mr, aI E 8 Re), (mt, aI E 8 Ti), (mki, aI E 12 Ki), (mso, aI E 12 So), (mst, aI E 12 St), (mpr, aI E 12 Pr), (mwa, aI E 2 Wa), (mor, aI E 6 (fun j => nI (a j))), (mbo, aI E 6 (kpO N ω b2))]) (st2 := fun _ => [.int 1]) (fun _ => rfl) (fun _ => rfl) (fun _ => rfl) (fun _ _ => ?_)
              refine V.istore (lv2 := [(6, .int 1), (5, .int (dM (m, sf, wa, ti, r) s N π)), (4, .int (dS (m, sf, wa, ti, r) s N π)), (0, .ref o), (1, .int xs), (2, .int mm), (3, .int (nI wh))]) dX11_best_127 (by decide) rfl ?_
              refine V.goto (tgt := 52) dX11_best_129 (by decide) ?_
              refine V.locals [3, 4, 5, 6, 2, 1, 0] (by rfl) ?_
              exact ih_52 a b _ ((1 : Int32), (dS (m, sf, wa, ti, r) s N π), (dM (m, sf, wa, ti, r) s N π), fun j => nI (π j)) _ _ _ _ d9 h3 h4 (stepR_inj h2 hinj) (Or.inl ⟨rfl, endsG_s hen h2, by rw [rowsG_some h2] at hrun; rw [← hbs9]; exact hrun⟩) (Or.inr ⟨rfl, rfl, rfl, hbt, fun j hj => (if_pos hj).trans (congrArg nI (hag j hj))⟩) (by omega)
          · skip
            refine V.aload_n dX11_best_77 0 rfl ?_
            refine V.getf 0 0 rfl fa_X11_7_10 rfl dX11_best_78 ?_
            refine V.bipush (v := 27) dX11_best_81 (by decide) ?_
            refine V.iald 2 rfl (vin rfl) dX11_best_83 ?_
            refine V.topc (v := ((mW (va_up ρ 1 (pw, u59))) 27)) (rfl) ?_
            refine V.topc (v := (dS (m, sf, wa, ti, r) s N π)) ((mW_st (i := 1) (va_up_self _ _ _)).trans hst) ?_
            refine V.iload dX11_best_84 4 rfl ?_
            refine V.icmp_ne (tgt := 123) dX11_best_86 (by decide) (fun c10_86 => ?_) (fun c10_86 => ?_)
            · skip
              have hnb : ¬ ((dS (m, sf, wa, ti, r) s N π) < fw ∨ ((dS (m, sf, wa, ti, r) s N π) = fw ∧ mx9 < (dM (m, sf, wa, ti, r) s N π))) := fun hh => hh.elim c9_74 (fun hh => c10_86 hh.1)
              have hbs9 : bestStep (m, sf, wa, ti, r) s N mm q π = q := cG_f (fun hh => hnb ((bRel_better hrel hbt).mp hh.1))
              refine V.aload_n dX11_best_123 0 rfl ?_
              rcases stepR_rel (M := m) (σ := id) rel_id hag hπm with ⟨h1, h2⟩ | ⟨a, b, h1, h2, h3, h4⟩
              · skip
                refine V.callVp (As := []) (rest := []) [0, 10] (c_M_nextN E l L _ o mw mk mt mr mki mso mst mpr msh mwa mpu mtx mor mbo tO tVi tSm ts ma bg wr cl um tm N ω (by omega) (fun i hi => by rw [hag i hi]; have := hπm i hi; omega) (h1)) rfl (by decide) mi_X11_nextOrder 0 rfl rfl w_960 w_962 wp_30 rfl rfl (Nat.le_of_ble_eq_true rfl) ⟨by decide, by decide⟩ ⟨by decide, by decide⟩ dX11_best_124 (vw2 := fun _ => [(o, ob 10 [.ref mw, .ref mk, .ref mt, .ref mr, .ref mki, .ref mso, .ref mst, .ref mpr, .ref msh, .ref mwa, .ref mpu, .ref mtx, .int ts, .int ma, .int bg, .int wr, .int cl, .int um, .ref mor, .ref mbo, .int (nI N), .ref tO, .ref tVi, .ref tSm, .int tm]), (msh, aI E 2 Sh), (mw, aI E 192 (mW (va_up ρ 1 (pw, u59)))), (mr, aI E 8 Re), (mt, aI E 8 Ti), (mki, aI E 12 Ki), (mso, aI E 12 So), (mst, aI E 12 St), (mpr, aI E 12 Pr), (mwa, aI E 2 Wa), (mor, aI E 6 (fun j => nI (ω j))), (mbo, aI E 6 b2)]) (st2 := fun _ => [.int 0]) (fun _ => rfl) (fun _ => rfl) (fun _ => rfl) (fun _ _ => ?_)
                refine V.istore (lv2 := [(6, .int 0), (0, .ref o), (1, .int xs), (2, .int mm), (3, .int (nI wh)), (4, .int fw), (5, .int mx9)]) dX11_best_127 (by decide) rfl ?_
                refine V.goto (tgt := 52) dX11_best_129 (by decide) ?_
                refine V.locals [1, 2, 3, 4, 5, 6, 0] (by rfl) ?_
                exact ih_52 ω π _ q _ _ _ _ d9 hag hπm hinj (Or.inr ⟨rfl, by rw [rowsG_none h2] at hrun; exact hbs9.symm.trans hrun⟩) hrel (by omega)
              · skip
                refine V.callVp (As := []) (rest := []) [0, 10] (c_M_nextS E l L _ o mw mk mt mr mki mso mst mpr msh mwa mpu mtx mor mbo tO tVi tSm ts ma bg wr cl um tm N ω a (by omega) (fun i hi => by rw [hag i hi]; have := hπm i hi; omega) (h1)) rfl (by decide) mi_X11_nextOrder 0 rfl rfl w_960 w_962 wp_30 rfl rfl (Nat.le_of_ble_eq_true rfl) ⟨by decide, by decide⟩ ⟨by decide, by decide⟩ dX11_best_124 (vw2 := fun _ => [(o, ob 10 [.ref mw, .ref mk, .ref mt, .ref mr, .ref mki, .ref mso, .ref mst, .ref mpr, .ref msh, .ref mwa, .ref mpu, .ref mtx, .int ts, .int ma, .int bg, .int wr, .int cl, .int um, .ref mor, .ref mbo, .int (nI N), .ref tO, .ref tVi, .ref tSm, .int tm]), (msh, aI E 2 Sh), (mw, aI E 192 (mW (va_up ρ 1 (pw, u59)))), (mr, aI E 8 Re), (mt, aI E 8 Ti), (mki, aI E 12 Ki), (mso, aI E 12 So), (mst, aI E 12 St), (mpr, aI E 12 Pr), (mwa, aI E 2 Wa), (mor, aI E 6 (fun j => nI (a j))), (mbo, aI E 6 b2)]) (st2 := fun _ => [.int 1]) (fun _ => rfl) (fun _ => rfl) (fun _ => rfl) (fun _ _ => ?_)
                refine V.istore (lv2 := [(6, .int 1), (0, .ref o), (1, .int xs), (2, .int mm), (3, .int (nI wh)), (4, .int fw), (5, .int mx9)]) dX11_best_127 (by decide) rfl ?_
                refine V.goto (tgt := 52) dX11_best_129 (by decide) ?_
                refine V.locals [1, 2, 3, 4, 5, 6, 0] (by rfl) ?_
                exact ih_52 a b _ q _ _ _ _ d9 h3 h4 (stepR_inj h2 hinj) (Or.inl ⟨rfl, endsG_s hen h2, by rw [rowsG_some h2] at hrun; rw [← hbs9]; exact hrun⟩) hrel (by omega)
            · skip
              refine V.aload_n dX11_best_89 0 rfl ?_
              refine V.getf 0 0 rfl fa_X11_7_10 rfl dX11_best_90 ?_
              refine V.bipush (v := 31) dX11_best_93 (by decide) ?_
              refine V.iald 2 rfl (vin rfl) dX11_best_95 ?_
              refine V.topc (v := ((mW (va_up ρ 1 (pw, u59))) 31)) (rfl) ?_
              refine V.topc (v := (dM (m, sf, wa, ti, r) s N π)) ((mW_sm (i := 1) (va_up_self _ _ _)).trans hsm) ?_
              refine V.iload dX11_best_96 5 rfl ?_
              refine V.icmp_le (tgt := 123) dX11_best_98 (by decide) (fun c11_98 => ?_) (fun c11_98 => ?_)
              · skip
                have hnb : ¬ ((dS (m, sf, wa, ti, r) s N π) < fw ∨ ((dS (m, sf, wa, ti, r) s N π) = fw ∧ mx9 < (dM (m, sf, wa, ti, r) s N π))) := fun hh => hh.elim c9_74 (fun hh => absurd hh.2 (Int32.not_lt.mpr c11_98))
                have hbs9 : bestStep (m, sf, wa, ti, r) s N mm q π = q := cG_f (fun hh => hnb ((bRel_better hrel hbt).mp hh.1))
                refine V.aload_n dX11_best_123 0 rfl ?_
                rcases stepR_rel (M := m) (σ := id) rel_id hag hπm with ⟨h1, h2⟩ | ⟨a, b, h1, h2, h3, h4⟩
                · skip
                  refine V.callVp (As := []) (rest := []) [0, 10] (c_M_nextN E l L _ o mw mk mt mr mki mso mst mpr msh mwa mpu mtx mor mbo tO tVi tSm ts ma bg wr cl um tm N ω (by omega) (fun i hi => by rw [hag i hi]; have := hπm i hi; omega) (h1)) rfl (by decide) mi_X11_nextOrder 0 rfl rfl w_960 w_962 wp_30 rfl rfl (Nat.le_of_ble_eq_true rfl) ⟨by decide, by decide⟩ ⟨by decide, by decide⟩ dX11_best_124 (vw2 := fun _ => [(o, ob 10 [.ref mw, .ref mk, .ref mt, .ref mr, .ref mki, .ref mso, .ref mst, .ref mpr, .ref msh, .ref mwa, .ref mpu, .ref mtx, .int ts, .int ma, .int bg, .int wr, .int cl, .int um, .ref mor, .ref mbo, .int (nI N), .ref tO, .ref tVi, .ref tSm, .int tm]), (msh, aI E 2 Sh), (mw, aI E 192 (mW (va_up ρ 1 (pw, u59)))), (mr, aI E 8 Re), (mt, aI E 8 Ti), (mki, aI E 12 Ki), (mso, aI E 12 So), (mst, aI E 12 St), (mpr, aI E 12 Pr), (mwa, aI E 2 Wa), (mor, aI E 6 (fun j => nI (ω j))), (mbo, aI E 6 b2)]) (st2 := fun _ => [.int 0]) (fun _ => rfl) (fun _ => rfl) (fun _ => rfl) (fun _ _ => ?_)
                  refine V.istore (lv2 := [(6, .int 0), (0, .ref o), (1, .int xs), (2, .int mm), (3, .int (nI wh)), (4, .int fw), (5, .int mx9)]) dX11_best_127 (by decide) rfl ?_
                  refine V.goto (tgt := 52) dX11_best_129 (by decide) ?_
                  refine V.locals [1, 2, 3, 4, 5, 6, 0] (by rfl) ?_
                  exact ih_52 ω π _ q _ _ _ _ d9 hag hπm hinj (Or.inr ⟨rfl, by rw [rowsG_none h2] at hrun; exact hbs9.symm.trans hrun⟩) hrel (by omega)
                · skip
                  refine V.callVp (As := []) (rest := []) [0, 10] (c_M_nextS E l L _ o mw mk mt mr mki mso mst mpr msh mwa mpu mtx mor mbo tO tVi tSm ts ma bg wr cl um tm N ω a (by omega) (fun i hi => by rw [hag i hi]; have := hπm i hi; omega) (h1)) rfl (by decide) mi_X11_nextOrder 0 rfl rfl w_960 w_962 wp_30 rfl rfl (Nat.le_of_ble_eq_true rfl) ⟨by decide, by decide⟩ ⟨by decide, by decide⟩ dX11_best_124 (vw2 := fun _ => [(o, ob 10 [.ref mw, .ref mk, .ref mt, .ref mr, .ref mki, .ref mso, .ref mst, .ref mpr, .ref msh, .ref mwa, .ref mpu, .ref mtx, .int ts, .int ma, .int bg, .int wr, .int cl, .int um, .ref mor, .ref mbo, .int (nI N), .ref tO, .ref tVi, .ref tSm, .int tm]), (msh, aI E 2 Sh), (mw, aI E 192 (mW (va_up ρ 1 (pw, u59)))), (mr, aI E 8 Re), (mt, aI E 8 Ti), (mki, aI E 12 Ki), (mso, aI E 12 So), (mst, aI E 12 St), (mpr, aI E 12 Pr), (mwa, aI E 2 Wa), (mor, aI E 6 (fun j => nI (a j))), (mbo, aI E 6 b2)]) (st2 := fun _ => [.int 1]) (fun _ => rfl) (fun _ => rfl) (fun _ => rfl) (fun _ _ => ?_)
                  refine V.istore (lv2 := [(6, .int 1), (0, .ref o), (1, .int xs), (2, .int mm), (3, .int (nI wh)), (4, .int fw), (5, .int mx9)]) dX11_best_127 (by decide) rfl ?_
                  refine V.goto (tgt := 52) dX11_best_129 (by decide) ?_
                  refine V.locals [1, 2, 3, 4, 5, 6, 0] (by rfl) ?_
                  exact ih_52 a b _ q _ _ _ _ d9 h3 h4 (stepR_inj h2 hinj) (Or.inl ⟨rfl, endsG_s hen h2, by rw [rowsG_some h2] at hrun; rw [← hbs9]; exact hrun⟩) hrel (by omega)
              · skip
                refine V.aload_n dX11_best_101 0 rfl ?_
                refine V.getf 0 0 rfl fa_X11_7_10 rfl dX11_best_102 ?_
                refine V.bipush (v := 27) dX11_best_105 (by decide) ?_
                refine V.iald 2 rfl (vin rfl) dX11_best_107 ?_
                refine V.topc (v := ((mW (va_up ρ 1 (pw, u59))) 27)) (rfl) ?_
                refine V.topc (v := (dS (m, sf, wa, ti, r) s N π)) ((mW_st (i := 1) (va_up_self _ _ _)).trans hst) ?_
                refine V.istore (lv2 := [(4, .int (dS (m, sf, wa, ti, r) s N π)), (0, .ref o), (1, .int xs), (2, .int mm), (3, .int (nI wh)), (5, .int mx9), (6, .int mo)]) dX11_best_108 (by decide) rfl ?_
                refine V.aload_n dX11_best_110 1 rfl ?_
                refine V.getf 0 0 rfl fa_X11_7_10 rfl dX11_best_111 ?_
                refine V.bipush (v := 31) dX11_best_114 (by decide) ?_
                refine V.iald 2 rfl (vin rfl) dX11_best_116 ?_
                refine V.topc (v := ((mW (va_up ρ 1 (pw, u59))) 31)) (rfl) ?_
                refine V.topc (v := (dM (m, sf, wa, ti, r) s N π)) ((mW_sm (i := 1) (va_up_self _ _ _)).trans hsm) ?_
                refine V.istore (lv2 := [(5, .int (dM (m, sf, wa, ti, r) s N π)), (4, .int (dS (m, sf, wa, ti, r) s N π)), (0, .ref o), (1, .int xs), (2, .int mm), (3, .int (nI wh)), (6, .int mo)]) dX11_best_117 (by decide) rfl ?_
                refine V.aload_n dX11_best_119 2 rfl ?_
                refine V.callVp (As := []) (rest := []) [0, 10, 11] (c_M_keepOrder E l L _ o mw mk mt mr mki mso mst mpr msh mwa mpu mtx mor mbo tO tVi tSm ts ma bg wr cl um tm N ω b2 (by omega)) rfl (by decide) mi_X11_keepOrder 0 rfl rfl w_956 w_958 wp_29 rfl rfl (Nat.le_of_ble_eq_true rfl) ⟨by decide, by decide⟩ ⟨by decide, by decide⟩ dX11_best_120 (vw2 := fun _ => [(o, ob 10 [.ref mw, .ref mk, .ref mt, .ref mr, .ref mki, .ref mso, .ref mst, .ref mpr, .ref msh, .ref mwa, .ref mpu, .ref mtx, .int ts, .int ma, .int bg, .int wr, .int cl, .int um, .ref mor, .ref mbo, .int (nI N), .ref tO, .ref tVi, .ref tSm, .int tm]), (msh, aI E 2 Sh), (mw, aI E 192 (mW (va_up ρ 1 (pw, u59)))), (mr, aI E 8 Re), (mt, aI E 8 Ti), (mki, aI E 12 Ki), (mso, aI E 12 So), (mst, aI E 12 St), (mpr, aI E 12 Pr), (mwa, aI E 2 Wa), (mor, aI E 6 (fun j => nI (ω j))), (mbo, aI E 6 (kpO N ω b2))]) (st2 := fun _ => []) (fun _ => rfl) (fun _ => rfl) (fun _ => rfl) (fun _ _ => ?_)
                have hb : ((dS (m, sf, wa, ti, r) s N π) < fw ∨ ((dS (m, sf, wa, ti, r) s N π) = fw ∧ mx9 < (dM (m, sf, wa, ti, r) s N π))) := Or.inr ⟨c10_86, Int32.not_le.mp c11_98⟩
                have hbs9 : bestStep (m, sf, wa, ti, r) s N mm q π = ((1 : Int32), (dS (m, sf, wa, ti, r) s N π), (dM (m, sf, wa, ti, r) s N π), fun j => nI (π j)) := cG_t ⟨(bRel_better hrel hbt).mpr hb, heach⟩
                refine V.aload_n dX11_best_123 2 rfl ?_
                rcases stepR_rel (M := m) (σ := id) rel_id hag hπm with ⟨h1, h2⟩ | ⟨a, b, h1, h2, h3, h4⟩
                · skip
                  refine V.callVp (As := []) (rest := []) [0, 10] (c_M_nextN E l L _ o mw mk mt mr mki mso mst mpr msh mwa mpu mtx mor mbo tO tVi tSm ts ma bg wr cl um tm N ω (by omega) (fun i hi => by rw [hag i hi]; have := hπm i hi; omega) (h1)) rfl (by decide) mi_X11_nextOrder 0 rfl rfl w_960 w_962 wp_30 rfl rfl (Nat.le_of_ble_eq_true rfl) ⟨by decide, by decide⟩ ⟨by decide, by decide⟩ dX11_best_124 (vw2 := fun _ => [(o, ob 10 [.ref mw, .ref mk, .ref mt, .ref mr, .ref mki, .ref mso, .ref mst, .ref mpr, .ref msh, .ref mwa, .ref mpu, .ref mtx, .int ts, .int ma, .int bg, .int wr, .int cl, .int um, .ref mor, .ref mbo, .int (nI N), .ref tO, .ref tVi, .ref tSm, .int tm]), (msh, aI E 2 Sh), (mw, aI E 192 (mW (va_up ρ 1 (pw, u59)))), (mr, aI E 8 Re), (mt, aI E 8 Ti), (mki, aI E 12 Ki), (mso, aI E 12 So), (mst, aI E 12 St), (mpr, aI E 12 Pr), (mwa, aI E 2 Wa), (mor, aI E 6 (fun j => nI (ω j))), (mbo, aI E 6 (kpO N ω b2))]) (st2 := fun _ => [.int 0]) (fun _ => rfl) (fun _ => rfl) (fun _ => rfl) (fun _ _ => ?_)
                  refine V.istore (lv2 := [(6, .int 0), (5, .int (dM (m, sf, wa, ti, r) s N π)), (4, .int (dS (m, sf, wa, ti, r) s N π)), (0, .ref o), (1, .int xs), (2, .int mm), (3, .int (nI wh))]) dX11_best_127 (by decide) rfl ?_
                  refine V.goto (tgt := 52) dX11_best_129 (by decide) ?_
                  refine V.locals [3, 4, 5, 6, 2, 1, 0] (by rfl) ?_
                  exact ih_52 ω π _ ((1 : Int32), (dS (m, sf, wa, ti, r) s N π), (dM (m, sf, wa, ti, r) s N π), fun j => nI (π j)) _ _ _ _ d9 hag hπm hinj (Or.inr ⟨rfl, by rw [rowsG_none h2] at hrun; exact hbs9.symm.trans hrun⟩) (Or.inr ⟨rfl, rfl, rfl, hbt, fun j hj => (if_pos hj).trans (congrArg nI (hag j hj))⟩) (by omega)
                · skip
                  refine V.callVp (As := []) (rest := []) [0, 10] (c_M_nextS E l L _ o mw mk mt mr mki mso mst mpr msh mwa mpu mtx mor mbo tO tVi tSm ts ma bg wr cl um tm N ω a (by omega) (fun i hi => by rw [hag i hi]; have := hπm i hi; omega) (h1)) rfl (by decide) mi_X11_nextOrder 0 rfl rfl w_960 w_962 wp_30 rfl rfl (Nat.le_of_ble_eq_true rfl) ⟨by decide, by decide⟩ ⟨by decide, by decide⟩ dX11_best_124 (vw2 := fun _ => [(o, ob 10 [.ref mw, .ref mk, .ref mt, .ref mr, .ref mki, .ref mso, .ref mst, .ref mpr, .ref msh, .ref mwa, .ref mpu, .ref mtx, .int ts, .int ma, .int bg, .int wr, .int cl, .int um, .ref mor, .ref mbo, .int (nI N), .ref tO, .ref tVi, .ref tSm, .int tm]), (msh, aI E 2 Sh), (mw, aI E 192 (mW (va_up ρ 1 (pw, u59)))), (mr, aI E 8 Re), (mt, aI E 8 Ti), (mki, aI E 12 Ki), (mso, aI E 12 So), (mst, aI E 12 St), (mpr, aI E 12 Pr), (mwa, aI E 2 Wa), (mor, aI E 6 (fun j => nI (a j))), (mbo, aI E 6 (kpO N ω b2))]) (st2 := fun _ => [.int 1]) (fun _ => rfl) (fun _ => rfl) (fun _ => rfl) (fun _ _ => ?_)
                  refine V.istore (lv2 := [(6, .int 1), (5, .int (dM (m, sf, wa, ti, r) s N π)), (4, .int (dS (m, sf, wa, ti, r) s N π)), (0, .ref o), (1, .int xs), (2, .int mm), (3, .int (nI wh))]) dX11_best_127 (by decide) rfl ?_
                  refine V.goto (tgt := 52) dX11_best_129 (by decide) ?_
                  refine V.locals [3, 4, 5, 6, 2, 1, 0] (by rfl) ?_
                  exact ih_52 a b _ ((1 : Int32), (dS (m, sf, wa, ti, r) s N π), (dM (m, sf, wa, ti, r) s N π), fun j => nI (π j)) _ _ _ _ d9 h3 h4 (stepR_inj h2 hinj) (Or.inl ⟨rfl, endsG_s hen h2, by rw [rowsG_some h2] at hrun; rw [← hbs9]; exact hrun⟩) (Or.inr ⟨rfl, rfl, rfl, hbt, fun j hj => (if_pos hj).trans (congrArg nI (hag j hj))⟩) (by omega)
  exact lp_52 (721) ω1 π1 (ρ 1) (0, bs, bm, F0) 99999999 0 1 bo 720 hag0 hπ0 hinj0 (Or.inl ⟨rfl, hend0, rfl⟩) (Or.inl ⟨rfl, rfl⟩) (by omega)
